def w_X8_storeFact_0 (M : CT) (G : Nat → PT) (Rp : RT) : PT := tIload 1 <| tCallS M jX11_isNoStore 1 <| tIf (fun x => x = 0) (G 10) <| tConst (-2) <| tIret Rp
def w_X8_storeFact_10 (M : CT) (G : Nat → PT) (Rp : RT) : PT := tAload 0 <| tGetR 10 6 0 <| tIload 1 <| tAldR 37 <| tAstore 3 <| tIload 2 <| tSw [(0, G 100), (1, G 113), (2, G 118), (3, G 123), (4, G 128), (5, G 133), (6, G 142), (7, G 150), (8, G 158), (9, G 163), (10, G 168), (11, G 173), (12, G 178), (13, G 186), (14, G 208), (15, G 216), (16, G 221)] (G 229)
def w_X8_storeFact_100 (M : CT) (G : Nat → PT) (Rp : RT) : PT := tAload 3 <| tGetI 7 18 1 <| tIf (fun x => x = 0) (G 111) <| tConst 1 <| tGoto (G 112)
def w_X8_storeFact_111 (M : CT) (G : Nat → PT) (Rp : RT) : PT := tConst 0 <| G 112
def w_X8_storeFact_112 (M : CT) (G : Nat → PT) (Rp : RT) : PT := tIret Rp
def w_X8_storeFact_113 (M : CT) (G : Nat → PT) (Rp : RT) : PT := tAload 3 <| tGetI 7 18 2 <| tIret Rp
def w_X8_storeFact_118 (M : CT) (G : Nat → PT) (Rp : RT) : PT := tAload 3 <| tGetI 7 18 3 <| tIret Rp
def w_X8_storeFact_123 (M : CT) (G : Nat → PT) (Rp : RT) : PT := tAload 3 <| tGetI 7 18 4 <| tIret Rp
def w_X8_storeFact_128 (M : CT) (G : Nat → PT) (Rp : RT) : PT := tAload 3 <| tGetI 7 18 7 <| tIret Rp
def w_X8_storeFact_133 (M : CT) (G : Nat → PT) (Rp : RT) : PT := tAload 3 <| tAload 3 <| tGetI 7 18 7 <| tCallV M jX7_termAt 7 18 1 <| tIret Rp
def w_X8_storeFact_142 (M : CT) (G : Nat → PT) (Rp : RT) : PT := tAload 3 <| tGetR 7 18 16 <| tGetI 6 5 0 <| tIret Rp
def w_X8_storeFact_150 (M : CT) (G : Nat → PT) (Rp : RT) : PT := tAload 3 <| tGetR 7 18 16 <| tGetI 6 5 1 <| tIret Rp
def w_X8_storeFact_158 (M : CT) (G : Nat → PT) (Rp : RT) : PT := tAload 3 <| tGetI 7 18 8 <| tIret Rp
def w_X8_storeFact_163 (M : CT) (G : Nat → PT) (Rp : RT) : PT := tAload 3 <| tGetI 7 18 10 <| tIret Rp
def w_X8_storeFact_168 (M : CT) (G : Nat → PT) (Rp : RT) : PT := tAload 3 <| tGetI 7 18 11 <| tIret Rp
def w_X8_storeFact_173 (M : CT) (G : Nat → PT) (Rp : RT) : PT := tAload 3 <| tGetI 7 18 5 <| tIret Rp
def w_X8_storeFact_178 (M : CT) (G : Nat → PT) (Rp : RT) : PT := tAload 3 <| tGetR 7 18 17 <| tGetI 5 4 0 <| tIret Rp
def w_X8_storeFact_186 (M : CT) (G : Nat → PT) (Rp : RT) : PT := tAload 3 <| tGetR 7 18 17 <| tGetI 5 4 0 <| tIf (fun x => x ≠ 0) (G 200) <| tConst (-1) <| tGoto (G 207)
def w_X8_storeFact_200 (M : CT) (G : Nat → PT) (Rp : RT) : PT := tAload 3 <| tGetR 7 18 17 <| tGetI 5 4 1 <| G 207
def w_X8_storeFact_207 (M : CT) (G : Nat → PT) (Rp : RT) : PT := tIret Rp
def w_X8_storeFact_208 (M : CT) (G : Nat → PT) (Rp : RT) : PT := tAload 3 <| tGetR 7 18 17 <| tGetI 5 4 2 <| tIret Rp
def w_X8_storeFact_216 (M : CT) (G : Nat → PT) (Rp : RT) : PT := tAload 3 <| tGetI 7 18 6 <| tIret Rp
def w_X8_storeFact_221 (M : CT) (G : Nat → PT) (Rp : RT) : PT := tAload 3 <| tGetR 7 18 17 <| tGetI 5 4 3 <| tIret Rp
def w_X8_storeFact_229 (M : CT) (G : Nat → PT) (Rp : RT) : PT := tConst (-2) <| tIret Rp
set_option maxRecDepth 20000 in
theorem b_X8_storeFact_0 {Z : Zt} {d : Nat} {p : Program} {e : Env} {R : Room} {s : State} {m : MethodId} {args : Array Value} {below : List Frame} {meth : Method} {c : Code} {Rp : RT} (C : Cx Z d jX8_storeFact RX8 p R s m args meth c) : Sd Z jX8_storeFact p e R s m args below meth c (MQ below (QcS Z Rp) args s 0 0 (fun a => Z.2.2.1 < a)) 0 (w_X8_storeFact_0 (MS Z d) (Gw Z 4 p e R s m args below meth c (MQ below (QcS Z Rp) args s 0 0 (fun a => Z.2.2.1 < a))) Rp) := by
  unfold w_X8_storeFact_0
  refine s_iload_n (k := 1) C (by decide +kernel) ?_
  refine s_callSN C (by decide +kernel) rfl w_5_94 w_3_103 w_1_1 w_3_104 (by decide +kernel) ?_
  refine s_if_eq (off := 6) (tgt := 10) C (by decide +kernel) (by decide) (fun _ _ _ _ _ _ h => h) ?_
  refine s_bipush (n := (-2)) C (by decide +kernel) (by decide) ?_
  exact s_iret C rfl (by decide +kernel)
set_option maxRecDepth 20000 in
theorem b_X8_storeFact_10 {Z : Zt} {d : Nat} {p : Program} {e : Env} {R : Room} {s : State} {m : MethodId} {args : Array Value} {below : List Frame} {meth : Method} {c : Code} {Rp : RT} (C : Cx Z d jX8_storeFact RX8 p R s m args meth c) : Sd Z jX8_storeFact p e R s m args below meth c (MQ below (QcS Z Rp) args s 0 0 (fun a => Z.2.2.1 < a)) 10 (w_X8_storeFact_10 (MS Z d) (Gw Z 4 p e R s m args below meth c (MQ below (QcS Z Rp) args s 0 0 (fun a => Z.2.2.1 < a))) Rp) := by
  unfold w_X8_storeFact_10
  refine s_aload_n (k := 0) C (by decide +kernel) ?_
  refine s_getR C w_2_114 (by decide +kernel) rfl ?_
  refine s_iload_n (k := 1) C (by decide +kernel) ?_
  refine s_aald C rfl (by decide +kernel) ?_
  refine s_astore_n (k := 3) C (by decide +kernel) ?_
  refine s_iload_n (k := 2) C (by decide +kernel) ?_
  refine s_tsw (df := 211) (lo := 0) (hi := 16) (offs := #[82, 95, 100, 105, 110, 115, 124, 132, 140, 145, 150, 155, 160, 168, 190, 198, 203]) (len := 82) (tgt := 229) C (by decide +kernel) (by decide) (fun _ _ _ _ _ _ h => h) (fun i r h => ?_) (fun x h => tsw_out 17 x (fun q hq => ?_))
  · match i, h with
    | 0, h => cases h; dsimp only; exact ⟨by decide, by decide, 82, 100, by rfl, by decide, (fun _ _ _ _ _ _ h => h)⟩
    | 1, h => cases h; dsimp only; exact ⟨by decide, by decide, 95, 113, by rfl, by decide, (fun _ _ _ _ _ _ h => h)⟩
    | 2, h => cases h; dsimp only; exact ⟨by decide, by decide, 100, 118, by rfl, by decide, (fun _ _ _ _ _ _ h => h)⟩
    | 3, h => cases h; dsimp only; exact ⟨by decide, by decide, 105, 123, by rfl, by decide, (fun _ _ _ _ _ _ h => h)⟩
    | 4, h => cases h; dsimp only; exact ⟨by decide, by decide, 110, 128, by rfl, by decide, (fun _ _ _ _ _ _ h => h)⟩
    | 5, h => cases h; dsimp only; exact ⟨by decide, by decide, 115, 133, by rfl, by decide, (fun _ _ _ _ _ _ h => h)⟩
    | 6, h => cases h; dsimp only; exact ⟨by decide, by decide, 124, 142, by rfl, by decide, (fun _ _ _ _ _ _ h => h)⟩
    | 7, h => cases h; dsimp only; exact ⟨by decide, by decide, 132, 150, by rfl, by decide, (fun _ _ _ _ _ _ h => h)⟩
    | 8, h => cases h; dsimp only; exact ⟨by decide, by decide, 140, 158, by rfl, by decide, (fun _ _ _ _ _ _ h => h)⟩
    | 9, h => cases h; dsimp only; exact ⟨by decide, by decide, 145, 163, by rfl, by decide, (fun _ _ _ _ _ _ h => h)⟩
    | 10, h => cases h; dsimp only; exact ⟨by decide, by decide, 150, 168, by rfl, by decide, (fun _ _ _ _ _ _ h => h)⟩
    | 11, h => cases h; dsimp only; exact ⟨by decide, by decide, 155, 173, by rfl, by decide, (fun _ _ _ _ _ _ h => h)⟩
    | 12, h => cases h; dsimp only; exact ⟨by decide, by decide, 160, 178, by rfl, by decide, (fun _ _ _ _ _ _ h => h)⟩
    | 13, h => cases h; dsimp only; exact ⟨by decide, by decide, 168, 186, by rfl, by decide, (fun _ _ _ _ _ _ h => h)⟩
    | 14, h => cases h; dsimp only; exact ⟨by decide, by decide, 190, 208, by rfl, by decide, (fun _ _ _ _ _ _ h => h)⟩
    | 15, h => cases h; dsimp only; exact ⟨by decide, by decide, 198, 216, by rfl, by decide, (fun _ _ _ _ _ _ h => h)⟩
    | 16, h => cases h; dsimp only; exact ⟨by decide, by decide, 203, 221, by rfl, by decide, (fun _ _ _ _ _ _ h => h)⟩
    | q + 17, h => simp at h
  · match q, hq with
    | 0, _ => exact h _ (List.mem_of_getElem? (i := 0) rfl)
    | 1, _ => exact h _ (List.mem_of_getElem? (i := 1) rfl)
    | 2, _ => exact h _ (List.mem_of_getElem? (i := 2) rfl)
    | 3, _ => exact h _ (List.mem_of_getElem? (i := 3) rfl)
    | 4, _ => exact h _ (List.mem_of_getElem? (i := 4) rfl)
    | 5, _ => exact h _ (List.mem_of_getElem? (i := 5) rfl)
    | 6, _ => exact h _ (List.mem_of_getElem? (i := 6) rfl)
    | 7, _ => exact h _ (List.mem_of_getElem? (i := 7) rfl)
    | 8, _ => exact h _ (List.mem_of_getElem? (i := 8) rfl)
    | 9, _ => exact h _ (List.mem_of_getElem? (i := 9) rfl)
    | 10, _ => exact h _ (List.mem_of_getElem? (i := 10) rfl)
    | 11, _ => exact h _ (List.mem_of_getElem? (i := 11) rfl)
    | 12, _ => exact h _ (List.mem_of_getElem? (i := 12) rfl)
    | 13, _ => exact h _ (List.mem_of_getElem? (i := 13) rfl)
    | 14, _ => exact h _ (List.mem_of_getElem? (i := 14) rfl)
    | 15, _ => exact h _ (List.mem_of_getElem? (i := 15) rfl)
    | 16, _ => exact h _ (List.mem_of_getElem? (i := 16) rfl)
    | q + 17, hq => exact absurd hq (by omega)
set_option maxRecDepth 20000 in
theorem b_X8_storeFact_100 {Z : Zt} {d : Nat} {p : Program} {e : Env} {R : Room} {s : State} {m : MethodId} {args : Array Value} {below : List Frame} {meth : Method} {c : Code} {Rp : RT} (C : Cx Z d jX8_storeFact RX8 p R s m args meth c) : Sd Z jX8_storeFact p e R s m args below meth c (MQ below (QcS Z Rp) args s 0 0 (fun a => Z.2.2.1 < a)) 100 (w_X8_storeFact_100 (MS Z d) (Gw Z 4 p e R s m args below meth c (MQ below (QcS Z Rp) args s 0 0 (fun a => Z.2.2.1 < a))) Rp) := by
  unfold w_X8_storeFact_100
  refine s_aload_n (k := 3) C (by decide +kernel) ?_
  refine s_getI C w_1_223 (by decide +kernel) rfl ?_
  refine s_if_eq (off := 7) (tgt := 111) C (by decide +kernel) (by decide) (fun _ _ _ _ _ _ h => h) ?_
  refine s_iconst (n := 1) C (by decide +kernel) (by decide) ?_
  exact s_goto (off := 4) (tgt := 112) C (by decide +kernel) (by decide) (fun _ _ _ _ _ _ h => h)
set_option maxRecDepth 20000 in
theorem b_X8_storeFact_111 {Z : Zt} {d : Nat} {p : Program} {e : Env} {R : Room} {s : State} {m : MethodId} {args : Array Value} {below : List Frame} {meth : Method} {c : Code} {Rp : RT} (C : Cx Z d jX8_storeFact RX8 p R s m args meth c) : Sd Z jX8_storeFact p e R s m args below meth c (MQ below (QcS Z Rp) args s 0 0 (fun a => Z.2.2.1 < a)) 111 (w_X8_storeFact_111 (MS Z d) (Gw Z 4 p e R s m args below meth c (MQ below (QcS Z Rp) args s 0 0 (fun a => Z.2.2.1 < a))) Rp) := by
  unfold w_X8_storeFact_111
  refine s_iconst (n := 0) C (by decide +kernel) (by decide) ?_
  exact (fun _ _ _ _ _ _ h => h)
set_option maxRecDepth 20000 in
theorem b_X8_storeFact_112 {Z : Zt} {d : Nat} {p : Program} {e : Env} {R : Room} {s : State} {m : MethodId} {args : Array Value} {below : List Frame} {meth : Method} {c : Code} {Rp : RT} (C : Cx Z d jX8_storeFact RX8 p R s m args meth c) : Sd Z jX8_storeFact p e R s m args below meth c (MQ below (QcS Z Rp) args s 0 0 (fun a => Z.2.2.1 < a)) 112 (w_X8_storeFact_112 (MS Z d) (Gw Z 4 p e R s m args below meth c (MQ below (QcS Z Rp) args s 0 0 (fun a => Z.2.2.1 < a))) Rp) := by
  unfold w_X8_storeFact_112
  exact s_iret C rfl (by decide +kernel)
set_option maxRecDepth 20000 in
theorem b_X8_storeFact_113 {Z : Zt} {d : Nat} {p : Program} {e : Env} {R : Room} {s : State} {m : MethodId} {args : Array Value} {below : List Frame} {meth : Method} {c : Code} {Rp : RT} (C : Cx Z d jX8_storeFact RX8 p R s m args meth c) : Sd Z jX8_storeFact p e R s m args below meth c (MQ below (QcS Z Rp) args s 0 0 (fun a => Z.2.2.1 < a)) 113 (w_X8_storeFact_113 (MS Z d) (Gw Z 4 p e R s m args below meth c (MQ below (QcS Z Rp) args s 0 0 (fun a => Z.2.2.1 < a))) Rp) := by
  unfold w_X8_storeFact_113
  refine s_aload_n (k := 3) C (by decide +kernel) ?_
  refine s_getI C w_1_226 (by decide +kernel) rfl ?_
  exact s_iret C rfl (by decide +kernel)
set_option maxRecDepth 20000 in
theorem b_X8_storeFact_118 {Z : Zt} {d : Nat} {p : Program} {e : Env} {R : Room} {s : State} {m : MethodId} {args : Array Value} {below : List Frame} {meth : Method} {c : Code} {Rp : RT} (C : Cx Z d jX8_storeFact RX8 p R s m args meth c) : Sd Z jX8_storeFact p e R s m args below meth c (MQ below (QcS Z Rp) args s 0 0 (fun a => Z.2.2.1 < a)) 118 (w_X8_storeFact_118 (MS Z d) (Gw Z 4 p e R s m args below meth c (MQ below (QcS Z Rp) args s 0 0 (fun a => Z.2.2.1 < a))) Rp) := by
  unfold w_X8_storeFact_118
  refine s_aload_n (k := 3) C (by decide +kernel) ?_
  refine s_getI C w_1_229 (by decide +kernel) rfl ?_
  exact s_iret C rfl (by decide +kernel)
set_option maxRecDepth 20000 in
theorem b_X8_storeFact_123 {Z : Zt} {d : Nat} {p : Program} {e : Env} {R : Room} {s : State} {m : MethodId} {args : Array Value} {below : List Frame} {meth : Method} {c : Code} {Rp : RT} (C : Cx Z d jX8_storeFact RX8 p R s m args meth c) : Sd Z jX8_storeFact p e R s m args below meth c (MQ below (QcS Z Rp) args s 0 0 (fun a => Z.2.2.1 < a)) 123 (w_X8_storeFact_123 (MS Z d) (Gw Z 4 p e R s m args below meth c (MQ below (QcS Z Rp) args s 0 0 (fun a => Z.2.2.1 < a))) Rp) := by
  unfold w_X8_storeFact_123
  refine s_aload_n (k := 3) C (by decide +kernel) ?_
  refine s_getI C w_1_232 (by decide +kernel) rfl ?_
  exact s_iret C rfl (by decide +kernel)
set_option maxRecDepth 20000 in
theorem b_X8_storeFact_128 {Z : Zt} {d : Nat} {p : Program} {e : Env} {R : Room} {s : State} {m : MethodId} {args : Array Value} {below : List Frame} {meth : Method} {c : Code} {Rp : RT} (C : Cx Z d jX8_storeFact RX8 p R s m args meth c) : Sd Z jX8_storeFact p e R s m args below meth c (MQ below (QcS Z Rp) args s 0 0 (fun a => Z.2.2.1 < a)) 128 (w_X8_storeFact_128 (MS Z d) (Gw Z 4 p e R s m args below meth c (MQ below (QcS Z Rp) args s 0 0 (fun a => Z.2.2.1 < a))) Rp) := by
  unfold w_X8_storeFact_128
  refine s_aload_n (k := 3) C (by decide +kernel) ?_
  refine s_getI C w_2_3 (by decide +kernel) rfl ?_
  exact s_iret C rfl (by decide +kernel)
set_option maxRecDepth 20000 in
theorem b_X8_storeFact_133 {Z : Zt} {d : Nat} {p : Program} {e : Env} {R : Room} {s : State} {m : MethodId} {args : Array Value} {below : List Frame} {meth : Method} {c : Code} {Rp : RT} (C : Cx Z d jX8_storeFact RX8 p R s m args meth c) : Sd Z jX8_storeFact p e R s m args below meth c (MQ below (QcS Z Rp) args s 0 0 (fun a => Z.2.2.1 < a)) 133 (w_X8_storeFact_133 (MS Z d) (Gw Z 4 p e R s m args below meth c (MQ below (QcS Z Rp) args s 0 0 (fun a => Z.2.2.1 < a))) Rp) := by
  unfold w_X8_storeFact_133
  refine s_aload_n (k := 3) C (by decide +kernel) ?_
  refine s_aload_n (k := 3) C (by decide +kernel) ?_
  refine s_getI C w_2_3 (by decide +kernel) rfl ?_
  refine s_callV C rfl rfl (by decide +kernel) rfl w_5_95 w_3_130 w_3_131 w_1_5 w_3_132 (by decide +kernel) ?_
  exact s_iret C rfl (by decide +kernel)
set_option maxRecDepth 20000 in
theorem b_X8_storeFact_142 {Z : Zt} {d : Nat} {p : Program} {e : Env} {R : Room} {s : State} {m : MethodId} {args : Array Value} {below : List Frame} {meth : Method} {c : Code} {Rp : RT} (C : Cx Z d jX8_storeFact RX8 p R s m args meth c) : Sd Z jX8_storeFact p e R s m args below meth c (MQ below (QcS Z Rp) args s 0 0 (fun a => Z.2.2.1 < a)) 142 (w_X8_storeFact_142 (MS Z d) (Gw Z 4 p e R s m args below meth c (MQ below (QcS Z Rp) args s 0 0 (fun a => Z.2.2.1 < a))) Rp) := by
  unfold w_X8_storeFact_142
  refine s_aload_n (k := 3) C (by decide +kernel) ?_
  refine s_getR C w_2_33 (by decide +kernel) rfl ?_
  refine s_getI C w_1_161 (by decide +kernel) rfl ?_
  exact s_iret C rfl (by decide +kernel)
set_option maxRecDepth 20000 in
theorem b_X8_storeFact_150 {Z : Zt} {d : Nat} {p : Program} {e : Env} {R : Room} {s : State} {m : MethodId} {args : Array Value} {below : List Frame} {meth : Method} {c : Code} {Rp : RT} (C : Cx Z d jX8_storeFact RX8 p R s m args meth c) : Sd Z jX8_storeFact p e R s m args below meth c (MQ below (QcS Z Rp) args s 0 0 (fun a => Z.2.2.1 < a)) 150 (w_X8_storeFact_150 (MS Z d) (Gw Z 4 p e R s m args below meth c (MQ below (QcS Z Rp) args s 0 0 (fun a => Z.2.2.1 < a))) Rp) := by
  unfold w_X8_storeFact_150
  refine s_aload_n (k := 3) C (by decide +kernel) ?_
  refine s_getR C w_2_33 (by decide +kernel) rfl ?_
  refine s_getI C w_1_165 (by decide +kernel) rfl ?_
  exact s_iret C rfl (by decide +kernel)
set_option maxRecDepth 20000 in
theorem b_X8_storeFact_158 {Z : Zt} {d : Nat} {p : Program} {e : Env} {R : Room} {s : State} {m : MethodId} {args : Array Value} {below : List Frame} {meth : Method} {c : Code} {Rp : RT} (C : Cx Z d jX8_storeFact RX8 p R s m args meth c) : Sd Z jX8_storeFact p e R s m args below meth c (MQ below (QcS Z Rp) args s 0 0 (fun a => Z.2.2.1 < a)) 158 (w_X8_storeFact_158 (MS Z d) (Gw Z 4 p e R s m args below meth c (MQ below (QcS Z Rp) args s 0 0 (fun a => Z.2.2.1 < a))) Rp) := by
  unfold w_X8_storeFact_158
  refine s_aload_n (k := 3) C (by decide +kernel) ?_
  refine s_getI C w_2_7 (by decide +kernel) rfl ?_
  exact s_iret C rfl (by decide +kernel)
set_option maxRecDepth 20000 in
theorem b_X8_storeFact_163 {Z : Zt} {d : Nat} {p : Program} {e : Env} {R : Room} {s : State} {m : MethodId} {args : Array Value} {below : List Frame} {meth : Method} {c : Code} {Rp : RT} (C : Cx Z d jX8_storeFact RX8 p R s m args meth c) : Sd Z jX8_storeFact p e R s m args below meth c (MQ below (QcS Z Rp) args s 0 0 (fun a => Z.2.2.1 < a)) 163 (w_X8_storeFact_163 (MS Z d) (Gw Z 4 p e R s m args below meth c (MQ below (QcS Z Rp) args s 0 0 (fun a => Z.2.2.1 < a))) Rp) := by
  unfold w_X8_storeFact_163
  refine s_aload_n (k := 3) C (by decide +kernel) ?_
  refine s_getI C w_2_12 (by decide +kernel) rfl ?_
  exact s_iret C rfl (by decide +kernel)
set_option maxRecDepth 20000 in
theorem b_X8_storeFact_168 {Z : Zt} {d : Nat} {p : Program} {e : Env} {R : Room} {s : State} {m : MethodId} {args : Array Value} {below : List Frame} {meth : Method} {c : Code} {Rp : RT} (C : Cx Z d jX8_storeFact RX8 p R s m args meth c) : Sd Z jX8_storeFact p e R s m args below meth c (MQ below (QcS Z Rp) args s 0 0 (fun a => Z.2.2.1 < a)) 168 (w_X8_storeFact_168 (MS Z d) (Gw Z 4 p e R s m args below meth c (MQ below (QcS Z Rp) args s 0 0 (fun a => Z.2.2.1 < a))) Rp) := by
  unfold w_X8_storeFact_168
  refine s_aload_n (k := 3) C (by decide +kernel) ?_
  refine s_getI C w_2_16 (by decide +kernel) rfl ?_
  exact s_iret C rfl (by decide +kernel)
set_option maxRecDepth 20000 in
theorem b_X8_storeFact_173 {Z : Zt} {d : Nat} {p : Program} {e : Env} {R : Room} {s : State} {m : MethodId} {args : Array Value} {below : List Frame} {meth : Method} {c : Code} {Rp : RT} (C : Cx Z d jX8_storeFact RX8 p R s m args meth c) : Sd Z jX8_storeFact p e R s m args below meth c (MQ below (QcS Z Rp) args s 0 0 (fun a => Z.2.2.1 < a)) 173 (w_X8_storeFact_173 (MS Z d) (Gw Z 4 p e R s m args below meth c (MQ below (QcS Z Rp) args s 0 0 (fun a => Z.2.2.1 < a))) Rp) := by
  unfold w_X8_storeFact_173
  refine s_aload_n (k := 3) C (by decide +kernel) ?_
  refine s_getI C w_1_237 (by decide +kernel) rfl ?_
  exact s_iret C rfl (by decide +kernel)
set_option maxRecDepth 20000 in
theorem b_X8_storeFact_178 {Z : Zt} {d : Nat} {p : Program} {e : Env} {R : Room} {s : State} {m : MethodId} {args : Array Value} {below : List Frame} {meth : Method} {c : Code} {Rp : RT} (C : Cx Z d jX8_storeFact RX8 p R s m args meth c) : Sd Z jX8_storeFact p e R s m args below meth c (MQ below (QcS Z Rp) args s 0 0 (fun a => Z.2.2.1 < a)) 178 (w_X8_storeFact_178 (MS Z d) (Gw Z 4 p e R s m args below meth c (MQ below (QcS Z Rp) args s 0 0 (fun a => Z.2.2.1 < a))) Rp) := by
  unfold w_X8_storeFact_178
  refine s_aload_n (k := 3) C (by decide +kernel) ?_
  refine s_getR C w_2_36 (by decide +kernel) rfl ?_
  refine s_getI C w_1_195 (by decide +kernel) rfl ?_
  exact s_iret C rfl (by decide +kernel)
set_option maxRecDepth 20000 in
theorem b_X8_storeFact_186 {Z : Zt} {d : Nat} {p : Program} {e : Env} {R : Room} {s : State} {m : MethodId} {args : Array Value} {below : List Frame} {meth : Method} {c : Code} {Rp : RT} (C : Cx Z d jX8_storeFact RX8 p R s m args meth c) : Sd Z jX8_storeFact p e R s m args below meth c (MQ below (QcS Z Rp) args s 0 0 (fun a => Z.2.2.1 < a)) 186 (w_X8_storeFact_186 (MS Z d) (Gw Z 4 p e R s m args below meth c (MQ below (QcS Z Rp) args s 0 0 (fun a => Z.2.2.1 < a))) Rp) := by
  unfold w_X8_storeFact_186
  refine s_aload_n (k := 3) C (by decide +kernel) ?_
  refine s_getR C w_2_36 (by decide +kernel) rfl ?_
  refine s_getI C w_1_195 (by decide +kernel) rfl ?_
  refine s_if_ne (off := 7) (tgt := 200) C (by decide +kernel) (by decide) (fun _ _ _ _ _ _ h => h) ?_
  refine s_iconst (n := (-1)) C (by decide +kernel) (by decide) ?_
  exact s_goto (off := 10) (tgt := 207) C (by decide +kernel) (by decide) (fun _ _ _ _ _ _ h => h)
set_option maxRecDepth 20000 in
theorem b_X8_storeFact_200 {Z : Zt} {d : Nat} {p : Program} {e : Env} {R : Room} {s : State} {m : MethodId} {args : Array Value} {below : List Frame} {meth : Method} {c : Code} {Rp : RT} (C : Cx Z d jX8_storeFact RX8 p R s m args meth c) : Sd Z jX8_storeFact p e R s m args below meth c (MQ below (QcS Z Rp) args s 0 0 (fun a => Z.2.2.1 < a)) 200 (w_X8_storeFact_200 (MS Z d) (Gw Z 4 p e R s m args below meth c (MQ below (QcS Z Rp) args s 0 0 (fun a => Z.2.2.1 < a))) Rp) := by
  unfold w_X8_storeFact_200
  refine s_aload_n (k := 3) C (by decide +kernel) ?_
  refine s_getR C w_2_36 (by decide +kernel) rfl ?_
  refine s_getI C w_1_199 (by decide +kernel) rfl ?_
  exact (fun _ _ _ _ _ _ h => h)
set_option maxRecDepth 20000 in
theorem b_X8_storeFact_207 {Z : Zt} {d : Nat} {p : Program} {e : Env} {R : Room} {s : State} {m : MethodId} {args : Array Value} {below : List Frame} {meth : Method} {c : Code} {Rp : RT} (C : Cx Z d jX8_storeFact RX8 p R s m args meth c) : Sd Z jX8_storeFact p e R s m args below meth c (MQ below (QcS Z Rp) args s 0 0 (fun a => Z.2.2.1 < a)) 207 (w_X8_storeFact_207 (MS Z d) (Gw Z 4 p e R s m args below meth c (MQ below (QcS Z Rp) args s 0 0 (fun a => Z.2.2.1 < a))) Rp) := by
  unfold w_X8_storeFact_207
  exact s_iret C rfl (by decide +kernel)
set_option maxRecDepth 20000 in
theorem b_X8_storeFact_208 {Z : Zt} {d : Nat} {p : Program} {e : Env} {R : Room} {s : State} {m : MethodId} {args : Array Value} {below : List Frame} {meth : Method} {c : Code} {Rp : RT} (C : Cx Z d jX8_storeFact RX8 p R s m args meth c) : Sd Z jX8_storeFact p e R s m args below meth c (MQ below (QcS Z Rp) args s 0 0 (fun a => Z.2.2.1 < a)) 208 (w_X8_storeFact_208 (MS Z d) (Gw Z 4 p e R s m args below meth c (MQ below (QcS Z Rp) args s 0 0 (fun a => Z.2.2.1 < a))) Rp) := by
  unfold w_X8_storeFact_208
  refine s_aload_n (k := 3) C (by decide +kernel) ?_
  refine s_getR C w_2_36 (by decide +kernel) rfl ?_
  refine s_getI C w_1_203 (by decide +kernel) rfl ?_
  exact s_iret C rfl (by decide +kernel)
set_option maxRecDepth 20000 in
theorem b_X8_storeFact_216 {Z : Zt} {d : Nat} {p : Program} {e : Env} {R : Room} {s : State} {m : MethodId} {args : Array Value} {below : List Frame} {meth : Method} {c : Code} {Rp : RT} (C : Cx Z d jX8_storeFact RX8 p R s m args meth c) : Sd Z jX8_storeFact p e R s m args below meth c (MQ below (QcS Z Rp) args s 0 0 (fun a => Z.2.2.1 < a)) 216 (w_X8_storeFact_216 (MS Z d) (Gw Z 4 p e R s m args below meth c (MQ below (QcS Z Rp) args s 0 0 (fun a => Z.2.2.1 < a))) Rp) := by
  unfold w_X8_storeFact_216
  refine s_aload_n (k := 3) C (by decide +kernel) ?_
  refine s_getI C w_2_0 (by decide +kernel) rfl ?_
  exact s_iret C rfl (by decide +kernel)
set_option maxRecDepth 20000 in
theorem b_X8_storeFact_221 {Z : Zt} {d : Nat} {p : Program} {e : Env} {R : Room} {s : State} {m : MethodId} {args : Array Value} {below : List Frame} {meth : Method} {c : Code} {Rp : RT} (C : Cx Z d jX8_storeFact RX8 p R s m args meth c) : Sd Z jX8_storeFact p e R s m args below meth c (MQ below (QcS Z Rp) args s 0 0 (fun a => Z.2.2.1 < a)) 221 (w_X8_storeFact_221 (MS Z d) (Gw Z 4 p e R s m args below meth c (MQ below (QcS Z Rp) args s 0 0 (fun a => Z.2.2.1 < a))) Rp) := by
  unfold w_X8_storeFact_221
  refine s_aload_n (k := 3) C (by decide +kernel) ?_
  refine s_getR C w_2_36 (by decide +kernel) rfl ?_
  refine s_getI C w_1_207 (by decide +kernel) rfl ?_
  exact s_iret C rfl (by decide +kernel)
set_option maxRecDepth 20000 in
theorem b_X8_storeFact_229 {Z : Zt} {d : Nat} {p : Program} {e : Env} {R : Room} {s : State} {m : MethodId} {args : Array Value} {below : List Frame} {meth : Method} {c : Code} {Rp : RT} (C : Cx Z d jX8_storeFact RX8 p R s m args meth c) : Sd Z jX8_storeFact p e R s m args below meth c (MQ below (QcS Z Rp) args s 0 0 (fun a => Z.2.2.1 < a)) 229 (w_X8_storeFact_229 (MS Z d) (Gw Z 4 p e R s m args below meth c (MQ below (QcS Z Rp) args s 0 0 (fun a => Z.2.2.1 < a))) Rp) := by
  unfold w_X8_storeFact_229
  refine s_bipush (n := (-2)) C (by decide +kernel) (by decide) ?_
  exact s_iret C rfl (by decide +kernel)
theorem ms_X8_storeFact {Z : Zt} {d : Nat} {S : Sh} {μ : Mi} {ρ : Mr} {Rp : RT} (a1 : Nat) (x2 : Int32) (x3 : Int32) (h : ∀ G : Nat → PT, (∀ (L st : List Value) (S : Sh) (q : Nat × Nat) (μ : Mi) (ρ : Mr), w_X8_storeFact_10 (MS Z d) G Rp L st S q μ ρ → G 10 L st S q μ ρ) → (∀ (L st : List Value) (S : Sh) (q : Nat × Nat) (μ : Mi) (ρ : Mr), w_X8_storeFact_100 (MS Z d) G Rp L st S q μ ρ → G 100 L st S q μ ρ) → (∀ (L st : List Value) (S : Sh) (q : Nat × Nat) (μ : Mi) (ρ : Mr), w_X8_storeFact_111 (MS Z d) G Rp L st S q μ ρ → G 111 L st S q μ ρ) → (∀ (L st : List Value) (S : Sh) (q : Nat × Nat) (μ : Mi) (ρ : Mr), w_X8_storeFact_112 (MS Z d) G Rp L st S q μ ρ → G 112 L st S q μ ρ) → (∀ (L st : List Value) (S : Sh) (q : Nat × Nat) (μ : Mi) (ρ : Mr), w_X8_storeFact_113 (MS Z d) G Rp L st S q μ ρ → G 113 L st S q μ ρ) → (∀ (L st : List Value) (S : Sh) (q : Nat × Nat) (μ : Mi) (ρ : Mr), w_X8_storeFact_118 (MS Z d) G Rp L st S q μ ρ → G 118 L st S q μ ρ) → (∀ (L st : List Value) (S : Sh) (q : Nat × Nat) (μ : Mi) (ρ : Mr), w_X8_storeFact_123 (MS Z d) G Rp L st S q μ ρ → G 123 L st S q μ ρ) → (∀ (L st : List Value) (S : Sh) (q : Nat × Nat) (μ : Mi) (ρ : Mr), w_X8_storeFact_128 (MS Z d) G Rp L st S q μ ρ → G 128 L st S q μ ρ) → (∀ (L st : List Value) (S : Sh) (q : Nat × Nat) (μ : Mi) (ρ : Mr), w_X8_storeFact_133 (MS Z d) G Rp L st S q μ ρ → G 133 L st S q μ ρ) → (∀ (L st : List Value) (S : Sh) (q : Nat × Nat) (μ : Mi) (ρ : Mr), w_X8_storeFact_142 (MS Z d) G Rp L st S q μ ρ → G 142 L st S q μ ρ) → (∀ (L st : List Value) (S : Sh) (q : Nat × Nat) (μ : Mi) (ρ : Mr), w_X8_storeFact_150 (MS Z d) G Rp L st S q μ ρ → G 150 L st S q μ ρ) → (∀ (L st : List Value) (S : Sh) (q : Nat × Nat) (μ : Mi) (ρ : Mr), w_X8_storeFact_158 (MS Z d) G Rp L st S q μ ρ → G 158 L st S q μ ρ) → (∀ (L st : List Value) (S : Sh) (q : Nat × Nat) (μ : Mi) (ρ : Mr), w_X8_storeFact_163 (MS Z d) G Rp L st S q μ ρ → G 163 L st S q μ ρ) → (∀ (L st : List Value) (S : Sh) (q : Nat × Nat) (μ : Mi) (ρ : Mr), w_X8_storeFact_168 (MS Z d) G Rp L st S q μ ρ → G 168 L st S q μ ρ) → (∀ (L st : List Value) (S : Sh) (q : Nat × Nat) (μ : Mi) (ρ : Mr), w_X8_storeFact_173 (MS Z d) G Rp L st S q μ ρ → G 173 L st S q μ ρ) → (∀ (L st : List Value) (S : Sh) (q : Nat × Nat) (μ : Mi) (ρ : Mr), w_X8_storeFact_178 (MS Z d) G Rp L st S q μ ρ → G 178 L st S q μ ρ) → (∀ (L st : List Value) (S : Sh) (q : Nat × Nat) (μ : Mi) (ρ : Mr), w_X8_storeFact_186 (MS Z d) G Rp L st S q μ ρ → G 186 L st S q μ ρ) → (∀ (L st : List Value) (S : Sh) (q : Nat × Nat) (μ : Mi) (ρ : Mr), w_X8_storeFact_200 (MS Z d) G Rp L st S q μ ρ → G 200 L st S q μ ρ) → (∀ (L st : List Value) (S : Sh) (q : Nat × Nat) (μ : Mi) (ρ : Mr), w_X8_storeFact_207 (MS Z d) G Rp L st S q μ ρ → G 207 L st S q μ ρ) → (∀ (L st : List Value) (S : Sh) (q : Nat × Nat) (μ : Mi) (ρ : Mr), w_X8_storeFact_208 (MS Z d) G Rp L st S q μ ρ → G 208 L st S q μ ρ) → (∀ (L st : List Value) (S : Sh) (q : Nat × Nat) (μ : Mi) (ρ : Mr), w_X8_storeFact_216 (MS Z d) G Rp L st S q μ ρ → G 216 L st S q μ ρ) → (∀ (L st : List Value) (S : Sh) (q : Nat × Nat) (μ : Mi) (ρ : Mr), w_X8_storeFact_221 (MS Z d) G Rp L st S q μ ρ → G 221 L st S q μ ρ) → (∀ (L st : List Value) (S : Sh) (q : Nat × Nat) (μ : Mi) (ρ : Mr), w_X8_storeFact_229 (MS Z d) G Rp L st S q μ ρ → G 229 L st S q μ ρ) → w_X8_storeFact_0 (MS Z d) G Rp [.ref a1, .int x2, .int x3, .null] [] S (0, 0) μ ρ) : MS Z (d + 1) jX8_storeFact [.ref a1, .int x2, .int x3] S μ ρ Rp :=
  MS_of [.ref a1, .int x2, .int x3, .null] (by decide +kernel) rfl rfl (Nat.le_of_ble_eq_true rfl) rfl (fun p e R s m args below meth c C => b_X8_storeFact_0 C _ _ _ _ _ _ (h _ (b_X8_storeFact_10 C) (b_X8_storeFact_100 C) (b_X8_storeFact_111 C) (b_X8_storeFact_112 C) (b_X8_storeFact_113 C) (b_X8_storeFact_118 C) (b_X8_storeFact_123 C) (b_X8_storeFact_128 C) (b_X8_storeFact_133 C) (b_X8_storeFact_142 C) (b_X8_storeFact_150 C) (b_X8_storeFact_158 C) (b_X8_storeFact_163 C) (b_X8_storeFact_168 C) (b_X8_storeFact_173 C) (b_X8_storeFact_178 C) (b_X8_storeFact_186 C) (b_X8_storeFact_200 C) (b_X8_storeFact_207 C) (b_X8_storeFact_208 C) (b_X8_storeFact_216 C) (b_X8_storeFact_221 C) (b_X8_storeFact_229 C)))
def w_X8_messageFact_0 (M : CT) (G : Nat → PT) (Rp : RT) : PT := tIload 1 <| tIf (fun x => x < 0) (G 15) <| tIload 1 <| tAload 0 <| tGetR 10 6 1 <| tGetI 1 6 2 <| tIf2 (fun x y => x < y) (G 18) <| G 15
def w_X8_messageFact_15 (M : CT) (G : Nat → PT) (Rp : RT) : PT := tConst (-2) <| tIret Rp
def w_X8_messageFact_18 (M : CT) (G : Nat → PT) (Rp : RT) : PT := tAload 0 <| tGetR 10 6 1 <| tGetR 1 6 0 <| tIload 1 <| tAldR 32 <| tAstore 3 <| tIload 2 <| tSw [(0, G 84), (1, G 89), (2, G 94), (3, G 99), (4, G 104), (5, G 109), (6, G 114), (7, G 119), (8, G 124), (9, G 138)] (G 143)
def w_X8_messageFact_84 (M : CT) (G : Nat → PT) (Rp : RT) : PT := tAload 3 <| tGetI 2 10 0 <| tIret Rp
def w_X8_messageFact_89 (M : CT) (G : Nat → PT) (Rp : RT) : PT := tAload 3 <| tGetI 2 10 1 <| tIret Rp
def w_X8_messageFact_94 (M : CT) (G : Nat → PT) (Rp : RT) : PT := tAload 3 <| tGetI 2 10 2 <| tIret Rp
def w_X8_messageFact_99 (M : CT) (G : Nat → PT) (Rp : RT) : PT := tAload 3 <| tGetI 2 10 3 <| tIret Rp
def w_X8_messageFact_104 (M : CT) (G : Nat → PT) (Rp : RT) : PT := tAload 3 <| tGetI 2 10 4 <| tIret Rp
def w_X8_messageFact_109 (M : CT) (G : Nat → PT) (Rp : RT) : PT := tAload 3 <| tGetI 2 10 5 <| tIret Rp
def w_X8_messageFact_114 (M : CT) (G : Nat → PT) (Rp : RT) : PT := tAload 3 <| tGetI 2 10 6 <| tIret Rp
def w_X8_messageFact_119 (M : CT) (G : Nat → PT) (Rp : RT) : PT := tAload 3 <| tGetI 2 10 7 <| tIret Rp
def w_X8_messageFact_124 (M : CT) (G : Nat → PT) (Rp : RT) : PT := tAload 0 <| tAload 3 <| tCallV M jX10_canCome 10 6 1 <| tIf (fun x => x = 0) (G 136) <| tConst 1 <| tGoto (G 137)
def w_X8_messageFact_136 (M : CT) (G : Nat → PT) (Rp : RT) : PT := tConst 0 <| G 137
def w_X8_messageFact_137 (M : CT) (G : Nat → PT) (Rp : RT) : PT := tIret Rp
def w_X8_messageFact_138 (M : CT) (G : Nat → PT) (Rp : RT) : PT := tAload 3 <| tGetI 2 10 8 <| tIret Rp
def w_X8_messageFact_143 (M : CT) (G : Nat → PT) (Rp : RT) : PT := tConst (-2) <| tIret Rp
set_option maxRecDepth 20000 in
theorem b_X8_messageFact_0 {Z : Zt} {d : Nat} {p : Program} {e : Env} {R : Room} {s : State} {m : MethodId} {args : Array Value} {below : List Frame} {meth : Method} {c : Code} {Rp : RT} (C : Cx Z d jX8_messageFact RX8 p R s m args meth c) : Sd Z jX8_messageFact p e R s m args below meth c (MQ below (QcS Z Rp) args s 0 0 (fun a => Z.2.2.1 < a)) 0 (w_X8_messageFact_0 (MS Z d) (Gw Z 4 p e R s m args below meth c (MQ below (QcS Z Rp) args s 0 0 (fun a => Z.2.2.1 < a))) Rp) := by
  unfold w_X8_messageFact_0
  refine s_iload_n (k := 1) C (by decide +kernel) ?_
  refine s_if_lt (off := 14) (tgt := 15) C (by decide +kernel) (by decide) (fun _ _ _ _ _ _ h => h) ?_
  refine s_iload_n (k := 1) C (by decide +kernel) ?_
  refine s_aload_n (k := 0) C (by decide +kernel) ?_
  refine s_getR C w_2_119 (by decide +kernel) rfl ?_
  refine s_getI C w_1_125 (by decide +kernel) rfl ?_
  refine s_icmp_lt (off := 6) (tgt := 18) C (by decide +kernel) (by decide) (fun _ _ _ _ _ _ h => h) ?_
  exact (fun _ _ _ _ _ _ h => h)
set_option maxRecDepth 20000 in
theorem b_X8_messageFact_15 {Z : Zt} {d : Nat} {p : Program} {e : Env} {R : Room} {s : State} {m : MethodId} {args : Array Value} {below : List Frame} {meth : Method} {c : Code} {Rp : RT} (C : Cx Z d jX8_messageFact RX8 p R s m args meth c) : Sd Z jX8_messageFact p e R s m args below meth c (MQ below (QcS Z Rp) args s 0 0 (fun a => Z.2.2.1 < a)) 15 (w_X8_messageFact_15 (MS Z d) (Gw Z 4 p e R s m args below meth c (MQ below (QcS Z Rp) args s 0 0 (fun a => Z.2.2.1 < a))) Rp) := by
  unfold w_X8_messageFact_15
  refine s_bipush (n := (-2)) C (by decide +kernel) (by decide) ?_
  exact s_iret C rfl (by decide +kernel)
set_option maxRecDepth 20000 in
theorem b_X8_messageFact_18 {Z : Zt} {d : Nat} {p : Program} {e : Env} {R : Room} {s : State} {m : MethodId} {args : Array Value} {below : List Frame} {meth : Method} {c : Code} {Rp : RT} (C : Cx Z d jX8_messageFact RX8 p R s m args meth c) : Sd Z jX8_messageFact p e R s m args below meth c (MQ below (QcS Z Rp) args s 0 0 (fun a => Z.2.2.1 < a)) 18 (w_X8_messageFact_18 (MS Z d) (Gw Z 4 p e R s m args below meth c (MQ below (QcS Z Rp) args s 0 0 (fun a => Z.2.2.1 < a))) Rp) := by
  unfold w_X8_messageFact_18
  refine s_aload_n (k := 0) C (by decide +kernel) ?_
  refine s_getR C w_2_119 (by decide +kernel) rfl ?_
  refine s_getR C w_1_119 (by decide +kernel) rfl ?_
  refine s_iload_n (k := 1) C (by decide +kernel) ?_
  refine s_aald C rfl (by decide +kernel) ?_
  refine s_astore_n (k := 3) C (by decide +kernel) ?_
  refine s_iload_n (k := 2) C (by decide +kernel) ?_
  refine s_tsw (df := 114) (lo := 0) (hi := 9) (offs := #[55, 60, 65, 70, 75, 80, 85, 90, 95, 109]) (len := 55) (tgt := 143) C (by decide +kernel) (by decide) (fun _ _ _ _ _ _ h => h) (fun i r h => ?_) (fun x h => tsw_out 10 x (fun q hq => ?_))
  · match i, h with
    | 0, h => cases h; dsimp only; exact ⟨by decide, by decide, 55, 84, by rfl, by decide, (fun _ _ _ _ _ _ h => h)⟩
    | 1, h => cases h; dsimp only; exact ⟨by decide, by decide, 60, 89, by rfl, by decide, (fun _ _ _ _ _ _ h => h)⟩
    | 2, h => cases h; dsimp only; exact ⟨by decide, by decide, 65, 94, by rfl, by decide, (fun _ _ _ _ _ _ h => h)⟩
    | 3, h => cases h; dsimp only; exact ⟨by decide, by decide, 70, 99, by rfl, by decide, (fun _ _ _ _ _ _ h => h)⟩
    | 4, h => cases h; dsimp only; exact ⟨by decide, by decide, 75, 104, by rfl, by decide, (fun _ _ _ _ _ _ h => h)⟩
    | 5, h => cases h; dsimp only; exact ⟨by decide, by decide, 80, 109, by rfl, by decide, (fun _ _ _ _ _ _ h => h)⟩
    | 6, h => cases h; dsimp only; exact ⟨by decide, by decide, 85, 114, by rfl, by decide, (fun _ _ _ _ _ _ h => h)⟩
    | 7, h => cases h; dsimp only; exact ⟨by decide, by decide, 90, 119, by rfl, by decide, (fun _ _ _ _ _ _ h => h)⟩
    | 8, h => cases h; dsimp only; exact ⟨by decide, by decide, 95, 124, by rfl, by decide, (fun _ _ _ _ _ _ h => h)⟩
    | 9, h => cases h; dsimp only; exact ⟨by decide, by decide, 109, 138, by rfl, by decide, (fun _ _ _ _ _ _ h => h)⟩
    | q + 10, h => simp at h
  · match q, hq with
    | 0, _ => exact h _ (List.mem_of_getElem? (i := 0) rfl)
    | 1, _ => exact h _ (List.mem_of_getElem? (i := 1) rfl)
    | 2, _ => exact h _ (List.mem_of_getElem? (i := 2) rfl)
    | 3, _ => exact h _ (List.mem_of_getElem? (i := 3) rfl)
    | 4, _ => exact h _ (List.mem_of_getElem? (i := 4) rfl)
    | 5, _ => exact h _ (List.mem_of_getElem? (i := 5) rfl)
    | 6, _ => exact h _ (List.mem_of_getElem? (i := 6) rfl)
    | 7, _ => exact h _ (List.mem_of_getElem? (i := 7) rfl)
    | 8, _ => exact h _ (List.mem_of_getElem? (i := 8) rfl)
    | 9, _ => exact h _ (List.mem_of_getElem? (i := 9) rfl)
    | q + 10, hq => exact absurd hq (by omega)
set_option maxRecDepth 20000 in
theorem b_X8_messageFact_84 {Z : Zt} {d : Nat} {p : Program} {e : Env} {R : Room} {s : State} {m : MethodId} {args : Array Value} {below : List Frame} {meth : Method} {c : Code} {Rp : RT} (C : Cx Z d jX8_messageFact RX8 p R s m args meth c) : Sd Z jX8_messageFact p e R s m args below meth c (MQ below (QcS Z Rp) args s 0 0 (fun a => Z.2.2.1 < a)) 84 (w_X8_messageFact_84 (MS Z d) (Gw Z 4 p e R s m args below meth c (MQ below (QcS Z Rp) args s 0 0 (fun a => Z.2.2.1 < a))) Rp) := by
  unfold w_X8_messageFact_84
  refine s_aload_n (k := 3) C (by decide +kernel) ?_
  refine s_getI C w_1_52 (by decide +kernel) rfl ?_
  exact s_iret C rfl (by decide +kernel)
set_option maxRecDepth 20000 in
theorem b_X8_messageFact_89 {Z : Zt} {d : Nat} {p : Program} {e : Env} {R : Room} {s : State} {m : MethodId} {args : Array Value} {below : List Frame} {meth : Method} {c : Code} {Rp : RT} (C : Cx Z d jX8_messageFact RX8 p R s m args meth c) : Sd Z jX8_messageFact p e R s m args below meth c (MQ below (QcS Z Rp) args s 0 0 (fun a => Z.2.2.1 < a)) 89 (w_X8_messageFact_89 (MS Z d) (Gw Z 4 p e R s m args below meth c (MQ below (QcS Z Rp) args s 0 0 (fun a => Z.2.2.1 < a))) Rp) := by
  unfold w_X8_messageFact_89
  refine s_aload_n (k := 3) C (by decide +kernel) ?_
  refine s_getI C w_1_57 (by decide +kernel) rfl ?_
  exact s_iret C rfl (by decide +kernel)
set_option maxRecDepth 20000 in
theorem b_X8_messageFact_94 {Z : Zt} {d : Nat} {p : Program} {e : Env} {R : Room} {s : State} {m : MethodId} {args : Array Value} {below : List Frame} {meth : Method} {c : Code} {Rp : RT} (C : Cx Z d jX8_messageFact RX8 p R s m args meth c) : Sd Z jX8_messageFact p e R s m args below meth c (MQ below (QcS Z Rp) args s 0 0 (fun a => Z.2.2.1 < a)) 94 (w_X8_messageFact_94 (MS Z d) (Gw Z 4 p e R s m args below meth c (MQ below (QcS Z Rp) args s 0 0 (fun a => Z.2.2.1 < a))) Rp) := by
  unfold w_X8_messageFact_94
  refine s_aload_n (k := 3) C (by decide +kernel) ?_
  refine s_getI C w_1_62 (by decide +kernel) rfl ?_
  exact s_iret C rfl (by decide +kernel)
set_option maxRecDepth 20000 in
theorem b_X8_messageFact_99 {Z : Zt} {d : Nat} {p : Program} {e : Env} {R : Room} {s : State} {m : MethodId} {args : Array Value} {below : List Frame} {meth : Method} {c : Code} {Rp : RT} (C : Cx Z d jX8_messageFact RX8 p R s m args meth c) : Sd Z jX8_messageFact p e R s m args below meth c (MQ below (QcS Z Rp) args s 0 0 (fun a => Z.2.2.1 < a)) 99 (w_X8_messageFact_99 (MS Z d) (Gw Z 4 p e R s m args below meth c (MQ below (QcS Z Rp) args s 0 0 (fun a => Z.2.2.1 < a))) Rp) := by
  unfold w_X8_messageFact_99
  refine s_aload_n (k := 3) C (by decide +kernel) ?_
  refine s_getI C w_1_67 (by decide +kernel) rfl ?_
  exact s_iret C rfl (by decide +kernel)
set_option maxRecDepth 20000 in
theorem b_X8_messageFact_104 {Z : Zt} {d : Nat} {p : Program} {e : Env} {R : Room} {s : State} {m : MethodId} {args : Array Value} {below : List Frame} {meth : Method} {c : Code} {Rp : RT} (C : Cx Z d jX8_messageFact RX8 p R s m args meth c) : Sd Z jX8_messageFact p e R s m args below meth c (MQ below (QcS Z Rp) args s 0 0 (fun a => Z.2.2.1 < a)) 104 (w_X8_messageFact_104 (MS Z d) (Gw Z 4 p e R s m args below meth c (MQ below (QcS Z Rp) args s 0 0 (fun a => Z.2.2.1 < a))) Rp) := by
  unfold w_X8_messageFact_104
  refine s_aload_n (k := 3) C (by decide +kernel) ?_
  refine s_getI C w_1_71 (by decide +kernel) rfl ?_
  exact s_iret C rfl (by decide +kernel)
set_option maxRecDepth 20000 in
theorem b_X8_messageFact_109 {Z : Zt} {d : Nat} {p : Program} {e : Env} {R : Room} {s : State} {m : MethodId} {args : Array Value} {below : List Frame} {meth : Method} {c : Code} {Rp : RT} (C : Cx Z d jX8_messageFact RX8 p R s m args meth c) : Sd Z jX8_messageFact p e R s m args below meth c (MQ below (QcS Z Rp) args s 0 0 (fun a => Z.2.2.1 < a)) 109 (w_X8_messageFact_109 (MS Z d) (Gw Z 4 p e R s m args below meth c (MQ below (QcS Z Rp) args s 0 0 (fun a => Z.2.2.1 < a))) Rp) := by
  unfold w_X8_messageFact_109
  refine s_aload_n (k := 3) C (by decide +kernel) ?_
  refine s_getI C w_1_76 (by decide +kernel) rfl ?_
  exact s_iret C rfl (by decide +kernel)
set_option maxRecDepth 20000 in
theorem b_X8_messageFact_114 {Z : Zt} {d : Nat} {p : Program} {e : Env} {R : Room} {s : State} {m : MethodId} {args : Array Value} {below : List Frame} {meth : Method} {c : Code} {Rp : RT} (C : Cx Z d jX8_messageFact RX8 p R s m args meth c) : Sd Z jX8_messageFact p e R s m args below meth c (MQ below (QcS Z Rp) args s 0 0 (fun a => Z.2.2.1 < a)) 114 (w_X8_messageFact_114 (MS Z d) (Gw Z 4 p e R s m args below meth c (MQ below (QcS Z Rp) args s 0 0 (fun a => Z.2.2.1 < a))) Rp) := by
  unfold w_X8_messageFact_114
  refine s_aload_n (k := 3) C (by decide +kernel) ?_
  refine s_getI C w_1_81 (by decide +kernel) rfl ?_
  exact s_iret C rfl (by decide +kernel)
set_option maxRecDepth 20000 in
theorem b_X8_messageFact_119 {Z : Zt} {d : Nat} {p : Program} {e : Env} {R : Room} {s : State} {m : MethodId} {args : Array Value} {below : List Frame} {meth : Method} {c : Code} {Rp : RT} (C : Cx Z d jX8_messageFact RX8 p R s m args meth c) : Sd Z jX8_messageFact p e R s m args below meth c (MQ below (QcS Z Rp) args s 0 0 (fun a => Z.2.2.1 < a)) 119 (w_X8_messageFact_119 (MS Z d) (Gw Z 4 p e R s m args below meth c (MQ below (QcS Z Rp) args s 0 0 (fun a => Z.2.2.1 < a))) Rp) := by
  unfold w_X8_messageFact_119
  refine s_aload_n (k := 3) C (by decide +kernel) ?_
  refine s_getI C w_1_86 (by decide +kernel) rfl ?_
  exact s_iret C rfl (by decide +kernel)
set_option maxRecDepth 20000 in
theorem b_X8_messageFact_124 {Z : Zt} {d : Nat} {p : Program} {e : Env} {R : Room} {s : State} {m : MethodId} {args : Array Value} {below : List Frame} {meth : Method} {c : Code} {Rp : RT} (C : Cx Z d jX8_messageFact RX8 p R s m args meth c) : Sd Z jX8_messageFact p e R s m args below meth c (MQ below (QcS Z Rp) args s 0 0 (fun a => Z.2.2.1 < a)) 124 (w_X8_messageFact_124 (MS Z d) (Gw Z 4 p e R s m args below meth c (MQ below (QcS Z Rp) args s 0 0 (fun a => Z.2.2.1 < a))) Rp) := by
  unfold w_X8_messageFact_124
  refine s_aload_n (k := 0) C (by decide +kernel) ?_
  refine s_aload_n (k := 3) C (by decide +kernel) ?_
  refine s_callV C rfl rfl (by decide +kernel) rfl w_5_129 w_4_76 w_4_77 w_1_2 w_4_78 (by decide +kernel) ?_
  refine s_if_eq (off := 7) (tgt := 136) C (by decide +kernel) (by decide) (fun _ _ _ _ _ _ h => h) ?_
  refine s_iconst (n := 1) C (by decide +kernel) (by decide) ?_
  exact s_goto (off := 4) (tgt := 137) C (by decide +kernel) (by decide) (fun _ _ _ _ _ _ h => h)
set_option maxRecDepth 20000 in
theorem b_X8_messageFact_136 {Z : Zt} {d : Nat} {p : Program} {e : Env} {R : Room} {s : State} {m : MethodId} {args : Array Value} {below : List Frame} {meth : Method} {c : Code} {Rp : RT} (C : Cx Z d jX8_messageFact RX8 p R s m args meth c) : Sd Z jX8_messageFact p e R s m args below meth c (MQ below (QcS Z Rp) args s 0 0 (fun a => Z.2.2.1 < a)) 136 (w_X8_messageFact_136 (MS Z d) (Gw Z 4 p e R s m args below meth c (MQ below (QcS Z Rp) args s 0 0 (fun a => Z.2.2.1 < a))) Rp) := by
  unfold w_X8_messageFact_136
  refine s_iconst (n := 0) C (by decide +kernel) (by decide) ?_
  exact (fun _ _ _ _ _ _ h => h)
set_option maxRecDepth 20000 in
theorem b_X8_messageFact_137 {Z : Zt} {d : Nat} {p : Program} {e : Env} {R : Room} {s : State} {m : MethodId} {args : Array Value} {below : List Frame} {meth : Method} {c : Code} {Rp : RT} (C : Cx Z d jX8_messageFact RX8 p R s m args meth c) : Sd Z jX8_messageFact p e R s m args below meth c (MQ below (QcS Z Rp) args s 0 0 (fun a => Z.2.2.1 < a)) 137 (w_X8_messageFact_137 (MS Z d) (Gw Z 4 p e R s m args below meth c (MQ below (QcS Z Rp) args s 0 0 (fun a => Z.2.2.1 < a))) Rp) := by
  unfold w_X8_messageFact_137
  exact s_iret C rfl (by decide +kernel)
set_option maxRecDepth 20000 in
theorem b_X8_messageFact_138 {Z : Zt} {d : Nat} {p : Program} {e : Env} {R : Room} {s : State} {m : MethodId} {args : Array Value} {below : List Frame} {meth : Method} {c : Code} {Rp : RT} (C : Cx Z d jX8_messageFact RX8 p R s m args meth c) : Sd Z jX8_messageFact p e R s m args below meth c (MQ below (QcS Z Rp) args s 0 0 (fun a => Z.2.2.1 < a)) 138 (w_X8_messageFact_138 (MS Z d) (Gw Z 4 p e R s m args below meth c (MQ below (QcS Z Rp) args s 0 0 (fun a => Z.2.2.1 < a))) Rp) := by
  unfold w_X8_messageFact_138
  refine s_aload_n (k := 3) C (by decide +kernel) ?_
  refine s_getI C w_1_90 (by decide +kernel) rfl ?_
  exact s_iret C rfl (by decide +kernel)
set_option maxRecDepth 20000 in
theorem b_X8_messageFact_143 {Z : Zt} {d : Nat} {p : Program} {e : Env} {R : Room} {s : State} {m : MethodId} {args : Array Value} {below : List Frame} {meth : Method} {c : Code} {Rp : RT} (C : Cx Z d jX8_messageFact RX8 p R s m args meth c) : Sd Z jX8_messageFact p e R s m args below meth c (MQ below (QcS Z Rp) args s 0 0 (fun a => Z.2.2.1 < a)) 143 (w_X8_messageFact_143 (MS Z d) (Gw Z 4 p e R s m args below meth c (MQ below (QcS Z Rp) args s 0 0 (fun a => Z.2.2.1 < a))) Rp) := by
  unfold w_X8_messageFact_143
  refine s_bipush (n := (-2)) C (by decide +kernel) (by decide) ?_
  exact s_iret C rfl (by decide +kernel)
theorem ms_X8_messageFact {Z : Zt} {d : Nat} {S : Sh} {μ : Mi} {ρ : Mr} {Rp : RT} (a1 : Nat) (x2 : Int32) (x3 : Int32) (h : ∀ G : Nat → PT, (∀ (L st : List Value) (S : Sh) (q : Nat × Nat) (μ : Mi) (ρ : Mr), w_X8_messageFact_15 (MS Z d) G Rp L st S q μ ρ → G 15 L st S q μ ρ) → (∀ (L st : List Value) (S : Sh) (q : Nat × Nat) (μ : Mi) (ρ : Mr), w_X8_messageFact_18 (MS Z d) G Rp L st S q μ ρ → G 18 L st S q μ ρ) → (∀ (L st : List Value) (S : Sh) (q : Nat × Nat) (μ : Mi) (ρ : Mr), w_X8_messageFact_84 (MS Z d) G Rp L st S q μ ρ → G 84 L st S q μ ρ) → (∀ (L st : List Value) (S : Sh) (q : Nat × Nat) (μ : Mi) (ρ : Mr), w_X8_messageFact_89 (MS Z d) G Rp L st S q μ ρ → G 89 L st S q μ ρ) → (∀ (L st : List Value) (S : Sh) (q : Nat × Nat) (μ : Mi) (ρ : Mr), w_X8_messageFact_94 (MS Z d) G Rp L st S q μ ρ → G 94 L st S q μ ρ) → (∀ (L st : List Value) (S : Sh) (q : Nat × Nat) (μ : Mi) (ρ : Mr), w_X8_messageFact_99 (MS Z d) G Rp L st S q μ ρ → G 99 L st S q μ ρ) → (∀ (L st : List Value) (S : Sh) (q : Nat × Nat) (μ : Mi) (ρ : Mr), w_X8_messageFact_104 (MS Z d) G Rp L st S q μ ρ → G 104 L st S q μ ρ) → (∀ (L st : List Value) (S : Sh) (q : Nat × Nat) (μ : Mi) (ρ : Mr), w_X8_messageFact_109 (MS Z d) G Rp L st S q μ ρ → G 109 L st S q μ ρ) → (∀ (L st : List Value) (S : Sh) (q : Nat × Nat) (μ : Mi) (ρ : Mr), w_X8_messageFact_114 (MS Z d) G Rp L st S q μ ρ → G 114 L st S q μ ρ) → (∀ (L st : List Value) (S : Sh) (q : Nat × Nat) (μ : Mi) (ρ : Mr), w_X8_messageFact_119 (MS Z d) G Rp L st S q μ ρ → G 119 L st S q μ ρ) → (∀ (L st : List Value) (S : Sh) (q : Nat × Nat) (μ : Mi) (ρ : Mr), w_X8_messageFact_124 (MS Z d) G Rp L st S q μ ρ → G 124 L st S q μ ρ) → (∀ (L st : List Value) (S : Sh) (q : Nat × Nat) (μ : Mi) (ρ : Mr), w_X8_messageFact_136 (MS Z d) G Rp L st S q μ ρ → G 136 L st S q μ ρ) → (∀ (L st : List Value) (S : Sh) (q : Nat × Nat) (μ : Mi) (ρ : Mr), w_X8_messageFact_137 (MS Z d) G Rp L st S q μ ρ → G 137 L st S q μ ρ) → (∀ (L st : List Value) (S : Sh) (q : Nat × Nat) (μ : Mi) (ρ : Mr), w_X8_messageFact_138 (MS Z d) G Rp L st S q μ ρ → G 138 L st S q μ ρ) → (∀ (L st : List Value) (S : Sh) (q : Nat × Nat) (μ : Mi) (ρ : Mr), w_X8_messageFact_143 (MS Z d) G Rp L st S q μ ρ → G 143 L st S q μ ρ) → w_X8_messageFact_0 (MS Z d) G Rp [.ref a1, .int x2, .int x3, .null] [] S (0, 0) μ ρ) : MS Z (d + 1) jX8_messageFact [.ref a1, .int x2, .int x3] S μ ρ Rp :=
  MS_of [.ref a1, .int x2, .int x3, .null] (by decide +kernel) rfl rfl (Nat.le_of_ble_eq_true rfl) rfl (fun p e R s m args below meth c C => b_X8_messageFact_0 C _ _ _ _ _ _ (h _ (b_X8_messageFact_15 C) (b_X8_messageFact_18 C) (b_X8_messageFact_84 C) (b_X8_messageFact_89 C) (b_X8_messageFact_94 C) (b_X8_messageFact_99 C) (b_X8_messageFact_104 C) (b_X8_messageFact_109 C) (b_X8_messageFact_114 C) (b_X8_messageFact_119 C) (b_X8_messageFact_124 C) (b_X8_messageFact_136 C) (b_X8_messageFact_137 C) (b_X8_messageFact_138 C) (b_X8_messageFact_143 C)))
def w_X8_alikeUpTo_0 (M : CT) (G : Nat → PT) (Rp : RT) : PT := tConst 1 <| tAload 0 <| tGetR 7 18 16 <| tGetI 6 5 0 <| tAload 1 <| tGetR 7 18 16 <| tGetI 6 5 0 <| tMax <| tMax <| tIstore 2 <| tAload 0 <| tGetI 7 18 7 <| tAload 1 <| tGetI 7 18 7 <| tMin <| tIstore 3 <| G 34
def w_X8_alikeUpTo_34 (M : CT) (G : Nat → PT) (Rp : RT) : PT := tIload 3 <| tIload 2 <| tIf2 (fun x y => x < y) (G 60) <| tAload 0 <| tIload 3 <| tCallV M jX7_termAt 7 18 1 <| tAload 1 <| tIload 3 <| tCallV M jX7_termAt 7 18 1 <| tIf2 (fun x y => x ≠ y) (G 54) <| tIload 3 <| tIret Rp
def w_X8_alikeUpTo_54 (M : CT) (G : Nat → PT) (Rp : RT) : PT := tIinc 3 (-1) <| tGoto (G 34)
def w_X8_alikeUpTo_60 (M : CT) (G : Nat → PT) (Rp : RT) : PT := tConst 0 <| tIret Rp
set_option maxRecDepth 20000 in
theorem b_X8_alikeUpTo_0 {Z : Zt} {d : Nat} {p : Program} {e : Env} {R : Room} {s : State} {m : MethodId} {args : Array Value} {below : List Frame} {meth : Method} {c : Code} {Rp : RT} (C : Cx Z d jX8_alikeUpTo RX8 p R s m args meth c) : Sd Z jX8_alikeUpTo p e R s m args below meth c (MQ below (QcS Z Rp) args s 0 0 (fun a => Z.2.2.1 < a)) 0 (w_X8_alikeUpTo_0 (MS Z d) (Gw Z 4 p e R s m args below meth c (MQ below (QcS Z Rp) args s 0 0 (fun a => Z.2.2.1 < a))) Rp) := by
  unfold w_X8_alikeUpTo_0
  refine s_iconst (n := 1) C (by decide +kernel) (by decide) ?_
  refine s_aload_n (k := 0) C (by decide +kernel) ?_
  refine s_getR C w_2_33 (by decide +kernel) rfl ?_
  refine s_getI C w_1_161 (by decide +kernel) rfl ?_
  refine s_aload_n (k := 1) C (by decide +kernel) ?_
  refine s_getR C w_2_33 (by decide +kernel) rfl ?_
  refine s_getI C w_1_161 (by decide +kernel) rfl ?_
  refine s_max C w_5_150 w_3_168 w_1_16 w_max (by decide +kernel) ?_
  refine s_max C w_5_150 w_3_168 w_1_16 w_max (by decide +kernel) ?_
  refine s_istore_n (k := 2) C (by decide +kernel) ?_
  refine s_aload_n (k := 0) C (by decide +kernel) ?_
  refine s_getI C w_2_3 (by decide +kernel) rfl ?_
  refine s_aload_n (k := 1) C (by decide +kernel) ?_
  refine s_getI C w_2_3 (by decide +kernel) rfl ?_
  refine s_min C w_5_151 w_3_84 w_1_16 w_min (by decide +kernel) ?_
  refine s_istore_n (k := 3) C (by decide +kernel) ?_
  exact (fun _ _ _ _ _ _ h => h)
set_option maxRecDepth 20000 in
theorem b_X8_alikeUpTo_34 {Z : Zt} {d : Nat} {p : Program} {e : Env} {R : Room} {s : State} {m : MethodId} {args : Array Value} {below : List Frame} {meth : Method} {c : Code} {Rp : RT} (C : Cx Z d jX8_alikeUpTo RX8 p R s m args meth c) : Sd Z jX8_alikeUpTo p e R s m args below meth c (MQ below (QcS Z Rp) args s 0 0 (fun a => Z.2.2.1 < a)) 34 (w_X8_alikeUpTo_34 (MS Z d) (Gw Z 4 p e R s m args below meth c (MQ below (QcS Z Rp) args s 0 0 (fun a => Z.2.2.1 < a))) Rp) := by
  unfold w_X8_alikeUpTo_34
  refine s_iload_n (k := 3) C (by decide +kernel) ?_
  refine s_iload_n (k := 2) C (by decide +kernel) ?_
  refine s_icmp_lt (off := 24) (tgt := 60) C (by decide +kernel) (by decide) (fun _ _ _ _ _ _ h => h) ?_
  refine s_aload_n (k := 0) C (by decide +kernel) ?_
  refine s_iload_n (k := 3) C (by decide +kernel) ?_
  refine s_callV C rfl rfl (by decide +kernel) rfl w_5_95 w_3_130 w_3_131 w_1_5 w_3_132 (by decide +kernel) ?_
  refine s_aload_n (k := 1) C (by decide +kernel) ?_
  refine s_iload_n (k := 3) C (by decide +kernel) ?_
  refine s_callV C rfl rfl (by decide +kernel) rfl w_5_95 w_3_130 w_3_131 w_1_5 w_3_132 (by decide +kernel) ?_
  refine s_icmp_ne (off := 5) (tgt := 54) C (by decide +kernel) (by decide) (fun _ _ _ _ _ _ h => h) ?_
  refine s_iload_n (k := 3) C (by decide +kernel) ?_
  exact s_iret C rfl (by decide +kernel)
set_option maxRecDepth 20000 in
theorem b_X8_alikeUpTo_54 {Z : Zt} {d : Nat} {p : Program} {e : Env} {R : Room} {s : State} {m : MethodId} {args : Array Value} {below : List Frame} {meth : Method} {c : Code} {Rp : RT} (C : Cx Z d jX8_alikeUpTo RX8 p R s m args meth c) : Sd Z jX8_alikeUpTo p e R s m args below meth c (MQ below (QcS Z Rp) args s 0 0 (fun a => Z.2.2.1 < a)) 54 (w_X8_alikeUpTo_54 (MS Z d) (Gw Z 4 p e R s m args below meth c (MQ below (QcS Z Rp) args s 0 0 (fun a => Z.2.2.1 < a))) Rp) := by
  unfold w_X8_alikeUpTo_54
  refine s_iinc (n := (-1)) C (by decide +kernel) (by decide) ?_
  exact s_goto (off := (-23)) (tgt := 34) C (by decide +kernel) (by decide) (fun _ _ _ _ _ _ h => h)
set_option maxRecDepth 20000 in
theorem b_X8_alikeUpTo_60 {Z : Zt} {d : Nat} {p : Program} {e : Env} {R : Room} {s : State} {m : MethodId} {args : Array Value} {below : List Frame} {meth : Method} {c : Code} {Rp : RT} (C : Cx Z d jX8_alikeUpTo RX8 p R s m args meth c) : Sd Z jX8_alikeUpTo p e R s m args below meth c (MQ below (QcS Z Rp) args s 0 0 (fun a => Z.2.2.1 < a)) 60 (w_X8_alikeUpTo_60 (MS Z d) (Gw Z 4 p e R s m args below meth c (MQ below (QcS Z Rp) args s 0 0 (fun a => Z.2.2.1 < a))) Rp) := by
  unfold w_X8_alikeUpTo_60
  refine s_iconst (n := 0) C (by decide +kernel) (by decide) ?_
  exact s_iret C rfl (by decide +kernel)
theorem ms_X8_alikeUpTo {Z : Zt} {d : Nat} {S : Sh} {μ : Mi} {ρ : Mr} {Rp : RT} (a1 : Nat) (a2 : Nat) (h : ∀ G : Nat → PT, (∀ (L st : List Value) (S : Sh) (q : Nat × Nat) (μ : Mi) (ρ : Mr), w_X8_alikeUpTo_34 (MS Z d) G Rp L st S q μ ρ → G 34 L st S q μ ρ) → (∀ (L st : List Value) (S : Sh) (q : Nat × Nat) (μ : Mi) (ρ : Mr), w_X8_alikeUpTo_54 (MS Z d) G Rp L st S q μ ρ → G 54 L st S q μ ρ) → (∀ (L st : List Value) (S : Sh) (q : Nat × Nat) (μ : Mi) (ρ : Mr), w_X8_alikeUpTo_60 (MS Z d) G Rp L st S q μ ρ → G 60 L st S q μ ρ) → w_X8_alikeUpTo_0 (MS Z d) G Rp [.ref a1, .ref a2, .null, .null] [] S (0, 0) μ ρ) : MS Z (d + 1) jX8_alikeUpTo [.ref a1, .ref a2] S μ ρ Rp :=
  MS_of [.ref a1, .ref a2, .null, .null] (by decide +kernel) rfl rfl (Nat.le_of_ble_eq_true rfl) rfl (fun p e R s m args below meth c C => b_X8_alikeUpTo_0 C _ _ _ _ _ _ (h _ (b_X8_alikeUpTo_34 C) (b_X8_alikeUpTo_54 C) (b_X8_alikeUpTo_60 C)))
def w_X8_granting_0 (M : CT) (G : Nat → PT) (Rp : RT) : PT := tAload 0 <| tGetR 10 6 0 <| tIload 1 <| tAldR 37 <| tAstore 2 <| tAload 2 <| tAload 2 <| tGetI 7 18 7 <| tCallV M jX7_termAt 7 18 1 <| tIstore 3 <| tConst 0 <| tIstore 4 <| tConst 0 <| tIstore 5 <| G 22
def w_X8_granting_22 (M : CT) (G : Nat → PT) (Rp : RT) : PT := tIload 5 <| tConst 5 <| tIf2 (fun x y => y ≤ x) (G 61) <| tAload 0 <| tGetR 10 6 0 <| tIload 5 <| tAldR 37 <| tIload 3 <| tAload 2 <| tGetI 7 18 7 <| tCallV M jX7_findsFresh 7 18 2 <| tIf (fun x => x = 0) (G 55) <| tIload 4 <| tConst 1 <| tIload 5 <| tBin (fun x y => x <<< (y &&& 31)) <| tBin (fun x y => x ||| y) <| tIstore 4 <| G 55
def w_X8_granting_55 (M : CT) (G : Nat → PT) (Rp : RT) : PT := tIinc 5 1 <| tGoto (G 22)
def w_X8_granting_61 (M : CT) (G : Nat → PT) (Rp : RT) : PT := tIload 4 <| tIret Rp
set_option maxRecDepth 20000 in
theorem b_X8_granting_0 {Z : Zt} {d : Nat} {p : Program} {e : Env} {R : Room} {s : State} {m : MethodId} {args : Array Value} {below : List Frame} {meth : Method} {c : Code} {Rp : RT} (C : Cx Z d jX8_granting RX8 p R s m args meth c) : Sd Z jX8_granting p e R s m args below meth c (MQ below (QcS Z Rp) args s 0 0 (fun a => Z.2.2.1 < a)) 0 (w_X8_granting_0 (MS Z d) (Gw Z 6 p e R s m args below meth c (MQ below (QcS Z Rp) args s 0 0 (fun a => Z.2.2.1 < a))) Rp) := by
  unfold w_X8_granting_0
  refine s_aload_n (k := 0) C (by decide +kernel) ?_
  refine s_getR C w_2_114 (by decide +kernel) rfl ?_
  refine s_iload_n (k := 1) C (by decide +kernel) ?_
  refine s_aald C rfl (by decide +kernel) ?_
  refine s_astore_n (k := 2) C (by decide +kernel) ?_
  refine s_aload_n (k := 2) C (by decide +kernel) ?_
  refine s_aload_n (k := 2) C (by decide +kernel) ?_
  refine s_getI C w_2_3 (by decide +kernel) rfl ?_
  refine s_callV C rfl rfl (by decide +kernel) rfl w_5_95 w_3_130 w_3_131 w_1_5 w_3_132 (by decide +kernel) ?_
  refine s_istore_n (k := 3) C (by decide +kernel) ?_
  refine s_iconst (n := 0) C (by decide +kernel) (by decide) ?_
  refine s_istore (k := 4) C (by decide +kernel) ?_
  refine s_iconst (n := 0) C (by decide +kernel) (by decide) ?_
  refine s_istore (k := 5) C (by decide +kernel) ?_
  exact (fun _ _ _ _ _ _ h => h)
set_option maxRecDepth 20000 in
theorem b_X8_granting_22 {Z : Zt} {d : Nat} {p : Program} {e : Env} {R : Room} {s : State} {m : MethodId} {args : Array Value} {below : List Frame} {meth : Method} {c : Code} {Rp : RT} (C : Cx Z d jX8_granting RX8 p R s m args meth c) : Sd Z jX8_granting p e R s m args below meth c (MQ below (QcS Z Rp) args s 0 0 (fun a => Z.2.2.1 < a)) 22 (w_X8_granting_22 (MS Z d) (Gw Z 6 p e R s m args below meth c (MQ below (QcS Z Rp) args s 0 0 (fun a => Z.2.2.1 < a))) Rp) := by
  unfold w_X8_granting_22
  refine s_iload (k := 5) C (by decide +kernel) ?_
  refine s_iconst (n := 5) C (by decide +kernel) (by decide) ?_
  refine s_icmp_ge (off := 36) (tgt := 61) C (by decide +kernel) (by decide) (fun _ _ _ _ _ _ h => h) ?_
  refine s_aload_n (k := 0) C (by decide +kernel) ?_
  refine s_getR C w_2_114 (by decide +kernel) rfl ?_
  refine s_iload (k := 5) C (by decide +kernel) ?_
  refine s_aald C rfl (by decide +kernel) ?_
  refine s_iload_n (k := 3) C (by decide +kernel) ?_
  refine s_aload_n (k := 2) C (by decide +kernel) ?_
  refine s_getI C w_2_3 (by decide +kernel) rfl ?_
  refine s_callV C rfl rfl (by decide +kernel) rfl w_5_159 w_4_88 w_4_89 w_1_5 w_4_90 (by decide +kernel) ?_
  refine s_if_eq (off := 12) (tgt := 55) C (by decide +kernel) (by decide) (fun _ _ _ _ _ _ h => h) ?_
  refine s_iload (k := 4) C (by decide +kernel) ?_
  refine s_iconst (n := 1) C (by decide +kernel) (by decide) ?_
  refine s_iload (k := 5) C (by decide +kernel) ?_
  refine s_ishl C (by decide +kernel) ?_
  refine s_ior C (by decide +kernel) ?_
  refine s_istore (k := 4) C (by decide +kernel) ?_
  exact (fun _ _ _ _ _ _ h => h)
set_option maxRecDepth 20000 in
theorem b_X8_granting_55 {Z : Zt} {d : Nat} {p : Program} {e : Env} {R : Room} {s : State} {m : MethodId} {args : Array Value} {below : List Frame} {meth : Method} {c : Code} {Rp : RT} (C : Cx Z d jX8_granting RX8 p R s m args meth c) : Sd Z jX8_granting p e R s m args below meth c (MQ below (QcS Z Rp) args s 0 0 (fun a => Z.2.2.1 < a)) 55 (w_X8_granting_55 (MS Z d) (Gw Z 6 p e R s m args below meth c (MQ below (QcS Z Rp) args s 0 0 (fun a => Z.2.2.1 < a))) Rp) := by
  unfold w_X8_granting_55
  refine s_iinc (n := 1) C (by decide +kernel) (by decide) ?_
  exact s_goto (off := (-36)) (tgt := 22) C (by decide +kernel) (by decide) (fun _ _ _ _ _ _ h => h)
set_option maxRecDepth 20000 in
theorem b_X8_granting_61 {Z : Zt} {d : Nat} {p : Program} {e : Env} {R : Room} {s : State} {m : MethodId} {args : Array Value} {below : List Frame} {meth : Method} {c : Code} {Rp : RT} (C : Cx Z d jX8_granting RX8 p R s m args meth c) : Sd Z jX8_granting p e R s m args below meth c (MQ below (QcS Z Rp) args s 0 0 (fun a => Z.2.2.1 < a)) 61 (w_X8_granting_61 (MS Z d) (Gw Z 6 p e R s m args below meth c (MQ below (QcS Z Rp) args s 0 0 (fun a => Z.2.2.1 < a))) Rp) := by
  unfold w_X8_granting_61
  refine s_iload (k := 4) C (by decide +kernel) ?_
  exact s_iret C rfl (by decide +kernel)
theorem ms_X8_granting {Z : Zt} {d : Nat} {S : Sh} {μ : Mi} {ρ : Mr} {Rp : RT} (a1 : Nat) (x2 : Int32) (h : ∀ G : Nat → PT, (∀ (L st : List Value) (S : Sh) (q : Nat × Nat) (μ : Mi) (ρ : Mr), w_X8_granting_22 (MS Z d) G Rp L st S q μ ρ → G 22 L st S q μ ρ) → (∀ (L st : List Value) (S : Sh) (q : Nat × Nat) (μ : Mi) (ρ : Mr), w_X8_granting_55 (MS Z d) G Rp L st S q μ ρ → G 55 L st S q μ ρ) → (∀ (L st : List Value) (S : Sh) (q : Nat × Nat) (μ : Mi) (ρ : Mr), w_X8_granting_61 (MS Z d) G Rp L st S q μ ρ → G 61 L st S q μ ρ) → w_X8_granting_0 (MS Z d) G Rp [.ref a1, .int x2, .null, .null, .null, .null] [] S (0, 0) μ ρ) : MS Z (d + 1) jX8_granting [.ref a1, .int x2] S μ ρ Rp :=
  MS_of [.ref a1, .int x2, .null, .null, .null, .null] (by decide +kernel) rfl rfl (Nat.le_of_ble_eq_true rfl) rfl (fun p e R s m args below meth c C => b_X8_granting_0 C _ _ _ _ _ _ (h _ (b_X8_granting_22 C) (b_X8_granting_55 C) (b_X8_granting_61 C)))
def w_X8_canBeElected_0 (M : CT) (G : Nat → PT) (Rp : RT) : PT := tAload 0 <| tGetR 10 6 0 <| tIload 1 <| tAldR 37 <| tAstore 3 <| tIload 2 <| tIload 1 <| tBin (fun x y => x >>> (y &&& 31)) <| tConst 1 <| tBin (fun x y => x &&& y) <| tIf (fun x => x = 0) (G 23) <| tAload 3 <| tIload 1 <| tCallV M jX7_isMember 7 18 1 <| tIf (fun x => x ≠ 0) (G 25) <| G 23
def w_X8_canBeElected_23 (M : CT) (G : Nat → PT) (Rp : RT) : PT := tConst 0 <| tZret Rp
def w_X8_canBeElected_25 (M : CT) (G : Nat → PT) (Rp : RT) : PT := tAload 3 <| tAload 0 <| tIload 1 <| tCallS M jX8_granting 2 <| tIload 2 <| tBin (fun x y => x &&& y) <| tAload 0 <| tIload 1 <| tCallS M jX8_reachable 2 <| tBin (fun x y => x &&& y) <| tCallV M jX7_isMajority 7 18 1 <| tZret Rp
set_option maxRecDepth 20000 in
theorem b_X8_canBeElected_0 {Z : Zt} {d : Nat} {p : Program} {e : Env} {R : Room} {s : State} {m : MethodId} {args : Array Value} {below : List Frame} {meth : Method} {c : Code} {Rp : RT} (C : Cx Z d jX8_canBeElected RX8 p R s m args meth c) : Sd Z jX8_canBeElected p e R s m args below meth c (MQ below (QcS Z Rp) args s 0 0 (fun a => Z.2.2.1 < a)) 0 (w_X8_canBeElected_0 (MS Z d) (Gw Z 4 p e R s m args below meth c (MQ below (QcS Z Rp) args s 0 0 (fun a => Z.2.2.1 < a))) Rp) := by
  unfold w_X8_canBeElected_0
  refine s_aload_n (k := 0) C (by decide +kernel) ?_
  refine s_getR C w_2_114 (by decide +kernel) rfl ?_
  refine s_iload_n (k := 1) C (by decide +kernel) ?_
  refine s_aald C rfl (by decide +kernel) ?_
  refine s_astore_n (k := 3) C (by decide +kernel) ?_
  refine s_iload_n (k := 2) C (by decide +kernel) ?_
  refine s_iload_n (k := 1) C (by decide +kernel) ?_
  refine s_ishr C (by decide +kernel) ?_
  refine s_iconst (n := 1) C (by decide +kernel) (by decide) ?_
  refine s_iand C (by decide +kernel) ?_
  refine s_if_eq (off := 11) (tgt := 23) C (by decide +kernel) (by decide) (fun _ _ _ _ _ _ h => h) ?_
  refine s_aload_n (k := 3) C (by decide +kernel) ?_
  refine s_iload_n (k := 1) C (by decide +kernel) ?_
  refine s_callV C rfl rfl (by decide +kernel) rfl w_5_171 w_3_110 w_3_111 w_1_5 w_3_112 (by decide +kernel) ?_
  refine s_if_ne (off := 5) (tgt := 25) C (by decide +kernel) (by decide) (fun _ _ _ _ _ _ h => h) ?_
  exact (fun _ _ _ _ _ _ h => h)
set_option maxRecDepth 20000 in
theorem b_X8_canBeElected_23 {Z : Zt} {d : Nat} {p : Program} {e : Env} {R : Room} {s : State} {m : MethodId} {args : Array Value} {below : List Frame} {meth : Method} {c : Code} {Rp : RT} (C : Cx Z d jX8_canBeElected RX8 p R s m args meth c) : Sd Z jX8_canBeElected p e R s m args below meth c (MQ below (QcS Z Rp) args s 0 0 (fun a => Z.2.2.1 < a)) 23 (w_X8_canBeElected_23 (MS Z d) (Gw Z 4 p e R s m args below meth c (MQ below (QcS Z Rp) args s 0 0 (fun a => Z.2.2.1 < a))) Rp) := by
  unfold w_X8_canBeElected_23
  refine s_iconst (n := 0) C (by decide +kernel) (by decide) ?_
  exact s_zret C rfl (by decide +kernel)
set_option maxRecDepth 20000 in
theorem b_X8_canBeElected_25 {Z : Zt} {d : Nat} {p : Program} {e : Env} {R : Room} {s : State} {m : MethodId} {args : Array Value} {below : List Frame} {meth : Method} {c : Code} {Rp : RT} (C : Cx Z d jX8_canBeElected RX8 p R s m args meth c) : Sd Z jX8_canBeElected p e R s m args below meth c (MQ below (QcS Z Rp) args s 0 0 (fun a => Z.2.2.1 < a)) 25 (w_X8_canBeElected_25 (MS Z d) (Gw Z 4 p e R s m args below meth c (MQ below (QcS Z Rp) args s 0 0 (fun a => Z.2.2.1 < a))) Rp) := by
  unfold w_X8_canBeElected_25
  refine s_aload_n (k := 3) C (by decide +kernel) ?_
  refine s_aload_n (k := 0) C (by decide +kernel) ?_
  refine s_iload_n (k := 1) C (by decide +kernel) ?_
  refine s_callS C (by decide +kernel) rfl w_5_172 w_5_157 w_1_21 w_5_158 (by decide +kernel) ?_
  refine s_iload_n (k := 2) C (by decide +kernel) ?_
  refine s_iand C (by decide +kernel) ?_
  refine s_aload_n (k := 0) C (by decide +kernel) ?_
  refine s_iload_n (k := 1) C (by decide +kernel) ?_
  refine s_callS C (by decide +kernel) rfl w_5_173 w_5_174 w_1_21 w_5_175 (by decide +kernel) ?_
  refine s_iand C (by decide +kernel) ?_
  refine s_callV C rfl rfl (by decide +kernel) rfl w_5_177 w_3_134 w_3_135 w_1_5 w_3_136 (by decide +kernel) ?_
  exact s_zret C rfl (by decide +kernel)
theorem ms_X8_canBeElected {Z : Zt} {d : Nat} {S : Sh} {μ : Mi} {ρ : Mr} {Rp : RT} (a1 : Nat) (x2 : Int32) (x3 : Int32) (h : ∀ G : Nat → PT, (∀ (L st : List Value) (S : Sh) (q : Nat × Nat) (μ : Mi) (ρ : Mr), w_X8_canBeElected_23 (MS Z d) G Rp L st S q μ ρ → G 23 L st S q μ ρ) → (∀ (L st : List Value) (S : Sh) (q : Nat × Nat) (μ : Mi) (ρ : Mr), w_X8_canBeElected_25 (MS Z d) G Rp L st S q μ ρ → G 25 L st S q μ ρ) → w_X8_canBeElected_0 (MS Z d) G Rp [.ref a1, .int x2, .int x3, .null] [] S (0, 0) μ ρ) : MS Z (d + 1) jX8_canBeElected [.ref a1, .int x2, .int x3] S μ ρ Rp :=
  MS_of [.ref a1, .int x2, .int x3, .null] (by decide +kernel) rfl rfl (Nat.le_of_ble_eq_true rfl) rfl (fun p e R s m args below meth c C => b_X8_canBeElected_0 C _ _ _ _ _ _ (h _ (b_X8_canBeElected_23 C) (b_X8_canBeElected_25 C)))
def w_X8_reachable_0 (M : CT) (G : Nat → PT) (Rp : RT) : PT := tConst 1 <| tIload 1 <| tBin (fun x y => x <<< (y &&& 31)) <| tIstore 2 <| tConst 0 <| tIstore 3 <| G 6
def w_X8_reachable_6 (M : CT) (G : Nat → PT) (Rp : RT) : PT := tIload 3 <| tConst 5 <| tIf2 (fun x y => y ≤ x) (G 35) <| tAload 0 <| tGetR 10 6 1 <| tIload 1 <| tIload 3 <| tCallV M jX1_isCut 1 6 2 <| tIf (fun x => x ≠ 0) (G 29) <| tIload 2 <| tConst 1 <| tIload 3 <| tBin (fun x y => x <<< (y &&& 31)) <| tBin (fun x y => x ||| y) <| tIstore 2 <| G 29
def w_X8_reachable_29 (M : CT) (G : Nat → PT) (Rp : RT) : PT := tIinc 3 1 <| tGoto (G 6)
def w_X8_reachable_35 (M : CT) (G : Nat → PT) (Rp : RT) : PT := tIload 2 <| tIret Rp
set_option maxRecDepth 20000 in
theorem b_X8_reachable_0 {Z : Zt} {d : Nat} {p : Program} {e : Env} {R : Room} {s : State} {m : MethodId} {args : Array Value} {below : List Frame} {meth : Method} {c : Code} {Rp : RT} (C : Cx Z d jX8_reachable RX8 p R s m args meth c) : Sd Z jX8_reachable p e R s m args below meth c (MQ below (QcS Z Rp) args s 0 0 (fun a => Z.2.2.1 < a)) 0 (w_X8_reachable_0 (MS Z d) (Gw Z 4 p e R s m args below meth c (MQ below (QcS Z Rp) args s 0 0 (fun a => Z.2.2.1 < a))) Rp) := by
  unfold w_X8_reachable_0
  refine s_iconst (n := 1) C (by decide +kernel) (by decide) ?_
  refine s_iload_n (k := 1) C (by decide +kernel) ?_
  refine s_ishl C (by decide +kernel) ?_
  refine s_istore_n (k := 2) C (by decide +kernel) ?_
  refine s_iconst (n := 0) C (by decide +kernel) (by decide) ?_
  refine s_istore_n (k := 3) C (by decide +kernel) ?_
  exact (fun _ _ _ _ _ _ h => h)
set_option maxRecDepth 20000 in
theorem b_X8_reachable_6 {Z : Zt} {d : Nat} {p : Program} {e : Env} {R : Room} {s : State} {m : MethodId} {args : Array Value} {below : List Frame} {meth : Method} {c : Code} {Rp : RT} (C : Cx Z d jX8_reachable RX8 p R s m args meth c) : Sd Z jX8_reachable p e R s m args below meth c (MQ below (QcS Z Rp) args s 0 0 (fun a => Z.2.2.1 < a)) 6 (w_X8_reachable_6 (MS Z d) (Gw Z 4 p e R s m args below meth c (MQ below (QcS Z Rp) args s 0 0 (fun a => Z.2.2.1 < a))) Rp) := by
  unfold w_X8_reachable_6
  refine s_iload_n (k := 3) C (by decide +kernel) ?_
  refine s_iconst (n := 5) C (by decide +kernel) (by decide) ?_
  refine s_icmp_ge (off := 27) (tgt := 35) C (by decide +kernel) (by decide) (fun _ _ _ _ _ _ h => h) ?_
  refine s_aload_n (k := 0) C (by decide +kernel) ?_
  refine s_getR C w_2_119 (by decide +kernel) rfl ?_
  refine s_iload_n (k := 1) C (by decide +kernel) ?_
  refine s_iload_n (k := 3) C (by decide +kernel) ?_
  refine s_callV C rfl rfl (by decide +kernel) rfl w_5_176 w_4_48 w_4_49 w_1_3 w_4_50 (by decide +kernel) ?_
  refine s_if_ne (off := 9) (tgt := 29) C (by decide +kernel) (by decide) (fun _ _ _ _ _ _ h => h) ?_
  refine s_iload_n (k := 2) C (by decide +kernel) ?_
  refine s_iconst (n := 1) C (by decide +kernel) (by decide) ?_
  refine s_iload_n (k := 3) C (by decide +kernel) ?_
  refine s_ishl C (by decide +kernel) ?_
  refine s_ior C (by decide +kernel) ?_
  refine s_istore_n (k := 2) C (by decide +kernel) ?_
  exact (fun _ _ _ _ _ _ h => h)
set_option maxRecDepth 20000 in
theorem b_X8_reachable_29 {Z : Zt} {d : Nat} {p : Program} {e : Env} {R : Room} {s : State} {m : MethodId} {args : Array Value} {below : List Frame} {meth : Method} {c : Code} {Rp : RT} (C : Cx Z d jX8_reachable RX8 p R s m args meth c) : Sd Z jX8_reachable p e R s m args below meth c (MQ below (QcS Z Rp) args s 0 0 (fun a => Z.2.2.1 < a)) 29 (w_X8_reachable_29 (MS Z d) (Gw Z 4 p e R s m args below meth c (MQ below (QcS Z Rp) args s 0 0 (fun a => Z.2.2.1 < a))) Rp) := by
  unfold w_X8_reachable_29
  refine s_iinc (n := 1) C (by decide +kernel) (by decide) ?_
  exact s_goto (off := (-26)) (tgt := 6) C (by decide +kernel) (by decide) (fun _ _ _ _ _ _ h => h)
set_option maxRecDepth 20000 in
theorem b_X8_reachable_35 {Z : Zt} {d : Nat} {p : Program} {e : Env} {R : Room} {s : State} {m : MethodId} {args : Array Value} {below : List Frame} {meth : Method} {c : Code} {Rp : RT} (C : Cx Z d jX8_reachable RX8 p R s m args meth c) : Sd Z jX8_reachable p e R s m args below meth c (MQ below (QcS Z Rp) args s 0 0 (fun a => Z.2.2.1 < a)) 35 (w_X8_reachable_35 (MS Z d) (Gw Z 4 p e R s m args below meth c (MQ below (QcS Z Rp) args s 0 0 (fun a => Z.2.2.1 < a))) Rp) := by
  unfold w_X8_reachable_35
  refine s_iload_n (k := 2) C (by decide +kernel) ?_
  exact s_iret C rfl (by decide +kernel)
theorem ms_X8_reachable {Z : Zt} {d : Nat} {S : Sh} {μ : Mi} {ρ : Mr} {Rp : RT} (a1 : Nat) (x2 : Int32) (h : ∀ G : Nat → PT, (∀ (L st : List Value) (S : Sh) (q : Nat × Nat) (μ : Mi) (ρ : Mr), w_X8_reachable_6 (MS Z d) G Rp L st S q μ ρ → G 6 L st S q μ ρ) → (∀ (L st : List Value) (S : Sh) (q : Nat × Nat) (μ : Mi) (ρ : Mr), w_X8_reachable_29 (MS Z d) G Rp L st S q μ ρ → G 29 L st S q μ ρ) → (∀ (L st : List Value) (S : Sh) (q : Nat × Nat) (μ : Mi) (ρ : Mr), w_X8_reachable_35 (MS Z d) G Rp L st S q μ ρ → G 35 L st S q μ ρ) → w_X8_reachable_0 (MS Z d) G Rp [.ref a1, .int x2, .null, .null] [] S (0, 0) μ ρ) : MS Z (d + 1) jX8_reachable [.ref a1, .int x2] S μ ρ Rp :=
  MS_of [.ref a1, .int x2, .null, .null] (by decide +kernel) rfl rfl (Nat.le_of_ble_eq_true rfl) rfl (fun p e R s m args below meth c C => b_X8_reachable_0 C _ _ _ _ _ _ (h _ (b_X8_reachable_6 C) (b_X8_reachable_29 C) (b_X8_reachable_35 C)))
def w_X8_fewestStops_0 (M : CT) (G : Nat → PT) (Rp : RT) : PT := tAload 0 <| tCallV M jX10_whoIsUp 10 6 0 <| tIstore 1 <| tIload 1 <| tCallS M jJ6_bitCount_0f7a4 1 <| tIstore 2 <| tConst 0 <| tIstore 3 <| G 12
def w_X8_fewestStops_12 (M : CT) (G : Nat → PT) (Rp : RT) : PT := tIload 3 <| tConst 31 <| tIf2 (fun x y => y < x) (G 59) <| tIload 1 <| tIload 3 <| tConst (-1) <| tBin (fun x y => x ^^^ y) <| tBin (fun x y => x &&& y) <| tCallS M jJ6_bitCount_0f7a4 1 <| tIstore 4 <| tIload 3 <| tIload 1 <| tConst (-1) <| tBin (fun x y => x ^^^ y) <| tBin (fun x y => x &&& y) <| tIf (fun x => x ≠ 0) (G 53) <| tIload 4 <| tIload 2 <| tIf2 (fun x y => y ≤ x) (G 53) <| tAload 0 <| tIload 3 <| tCallS M jX8_hasElectable 2 <| tIf (fun x => x ≠ 0) (G 53) <| tIload 4 <| tIstore 2 <| G 53
def w_X8_fewestStops_53 (M : CT) (G : Nat → PT) (Rp : RT) : PT := tIinc 3 1 <| tGoto (G 12)
def w_X8_fewestStops_59 (M : CT) (G : Nat → PT) (Rp : RT) : PT := tIload 2 <| tIret Rp
set_option maxRecDepth 20000 in
theorem b_X8_fewestStops_0 {Z : Zt} {d : Nat} {p : Program} {e : Env} {R : Room} {s : State} {m : MethodId} {args : Array Value} {below : List Frame} {meth : Method} {c : Code} {Rp : RT} (C : Cx Z d jX8_fewestStops RX8 p R s m args meth c) : Sd Z jX8_fewestStops p e R s m args below meth c (MQ below (QcS Z Rp) args s 0 0 (fun a => Z.2.2.1 < a)) 0 (w_X8_fewestStops_0 (MS Z d) (Gw Z 5 p e R s m args below meth c (MQ below (QcS Z Rp) args s 0 0 (fun a => Z.2.2.1 < a))) Rp) := by
  unfold w_X8_fewestStops_0
  refine s_aload_n (k := 0) C (by decide +kernel) ?_
  refine s_callV C rfl rfl (by decide +kernel) rfl w_6_37 w_5_165 w_5_166 w_1_2 w_5_167 (by decide +kernel) ?_
  refine s_istore_n (k := 1) C (by decide +kernel) ?_
  refine s_iload_n (k := 1) C (by decide +kernel) ?_
  refine s_callS C (by decide +kernel) rfl w_6_38 w_3_74 w_1_15 w_3_75 (by decide +kernel) ?_
  refine s_istore_n (k := 2) C (by decide +kernel) ?_
  refine s_iconst (n := 0) C (by decide +kernel) (by decide) ?_
  refine s_istore_n (k := 3) C (by decide +kernel) ?_
  exact (fun _ _ _ _ _ _ h => h)
set_option maxRecDepth 20000 in
theorem b_X8_fewestStops_12 {Z : Zt} {d : Nat} {p : Program} {e : Env} {R : Room} {s : State} {m : MethodId} {args : Array Value} {below : List Frame} {meth : Method} {c : Code} {Rp : RT} (C : Cx Z d jX8_fewestStops RX8 p R s m args meth c) : Sd Z jX8_fewestStops p e R s m args below meth c (MQ below (QcS Z Rp) args s 0 0 (fun a => Z.2.2.1 < a)) 12 (w_X8_fewestStops_12 (MS Z d) (Gw Z 5 p e R s m args below meth c (MQ below (QcS Z Rp) args s 0 0 (fun a => Z.2.2.1 < a))) Rp) := by
  unfold w_X8_fewestStops_12
  refine s_iload_n (k := 3) C (by decide +kernel) ?_
  refine s_bipush (n := 31) C (by decide +kernel) (by decide) ?_
  refine s_icmp_gt (off := 44) (tgt := 59) C (by decide +kernel) (by decide) (fun _ _ _ _ _ _ h => h) ?_
  refine s_iload_n (k := 1) C (by decide +kernel) ?_
  refine s_iload_n (k := 3) C (by decide +kernel) ?_
  refine s_iconst (n := (-1)) C (by decide +kernel) (by decide) ?_
  refine s_ixor C (by decide +kernel) ?_
  refine s_iand C (by decide +kernel) ?_
  refine s_callS C (by decide +kernel) rfl w_6_38 w_3_74 w_1_15 w_3_75 (by decide +kernel) ?_
  refine s_istore (k := 4) C (by decide +kernel) ?_
  refine s_iload_n (k := 3) C (by decide +kernel) ?_
  refine s_iload_n (k := 1) C (by decide +kernel) ?_
  refine s_iconst (n := (-1)) C (by decide +kernel) (by decide) ?_
  refine s_ixor C (by decide +kernel) ?_
  refine s_iand C (by decide +kernel) ?_
  refine s_if_ne (off := 20) (tgt := 53) C (by decide +kernel) (by decide) (fun _ _ _ _ _ _ h => h) ?_
  refine s_iload (k := 4) C (by decide +kernel) ?_
  refine s_iload_n (k := 2) C (by decide +kernel) ?_
  refine s_icmp_ge (off := 14) (tgt := 53) C (by decide +kernel) (by decide) (fun _ _ _ _ _ _ h => h) ?_
  refine s_aload_n (k := 0) C (by decide +kernel) ?_
  refine s_iload_n (k := 3) C (by decide +kernel) ?_
  refine s_callS C (by decide +kernel) rfl w_6_39 w_6_40 w_1_21 w_6_41 (by decide +kernel) ?_
  refine s_if_ne (off := 6) (tgt := 53) C (by decide +kernel) (by decide) (fun _ _ _ _ _ _ h => h) ?_
  refine s_iload (k := 4) C (by decide +kernel) ?_
  refine s_istore_n (k := 2) C (by decide +kernel) ?_
  exact (fun _ _ _ _ _ _ h => h)
set_option maxRecDepth 20000 in
theorem b_X8_fewestStops_53 {Z : Zt} {d : Nat} {p : Program} {e : Env} {R : Room} {s : State} {m : MethodId} {args : Array Value} {below : List Frame} {meth : Method} {c : Code} {Rp : RT} (C : Cx Z d jX8_fewestStops RX8 p R s m args meth c) : Sd Z jX8_fewestStops p e R s m args below meth c (MQ below (QcS Z Rp) args s 0 0 (fun a => Z.2.2.1 < a)) 53 (w_X8_fewestStops_53 (MS Z d) (Gw Z 5 p e R s m args below meth c (MQ below (QcS Z Rp) args s 0 0 (fun a => Z.2.2.1 < a))) Rp) := by
  unfold w_X8_fewestStops_53
  refine s_iinc (n := 1) C (by decide +kernel) (by decide) ?_
  exact s_goto (off := (-44)) (tgt := 12) C (by decide +kernel) (by decide) (fun _ _ _ _ _ _ h => h)
set_option maxRecDepth 20000 in
theorem b_X8_fewestStops_59 {Z : Zt} {d : Nat} {p : Program} {e : Env} {R : Room} {s : State} {m : MethodId} {args : Array Value} {below : List Frame} {meth : Method} {c : Code} {Rp : RT} (C : Cx Z d jX8_fewestStops RX8 p R s m args meth c) : Sd Z jX8_fewestStops p e R s m args below meth c (MQ below (QcS Z Rp) args s 0 0 (fun a => Z.2.2.1 < a)) 59 (w_X8_fewestStops_59 (MS Z d) (Gw Z 5 p e R s m args below meth c (MQ below (QcS Z Rp) args s 0 0 (fun a => Z.2.2.1 < a))) Rp) := by
  unfold w_X8_fewestStops_59
  refine s_iload_n (k := 2) C (by decide +kernel) ?_
  exact s_iret C rfl (by decide +kernel)
theorem ms_X8_fewestStops {Z : Zt} {d : Nat} {S : Sh} {μ : Mi} {ρ : Mr} {Rp : RT} (a1 : Nat) (h : ∀ G : Nat → PT, (∀ (L st : List Value) (S : Sh) (q : Nat × Nat) (μ : Mi) (ρ : Mr), w_X8_fewestStops_12 (MS Z d) G Rp L st S q μ ρ → G 12 L st S q μ ρ) → (∀ (L st : List Value) (S : Sh) (q : Nat × Nat) (μ : Mi) (ρ : Mr), w_X8_fewestStops_53 (MS Z d) G Rp L st S q μ ρ → G 53 L st S q μ ρ) → (∀ (L st : List Value) (S : Sh) (q : Nat × Nat) (μ : Mi) (ρ : Mr), w_X8_fewestStops_59 (MS Z d) G Rp L st S q μ ρ → G 59 L st S q μ ρ) → w_X8_fewestStops_0 (MS Z d) G Rp [.ref a1, .null, .null, .null, .null] [] S (0, 0) μ ρ) : MS Z (d + 1) jX8_fewestStops [.ref a1] S μ ρ Rp :=
  MS_of [.ref a1, .null, .null, .null, .null] (by decide +kernel) rfl rfl (Nat.le_of_ble_eq_true rfl) rfl (fun p e R s m args below meth c C => b_X8_fewestStops_0 C _ _ _ _ _ _ (h _ (b_X8_fewestStops_12 C) (b_X8_fewestStops_53 C) (b_X8_fewestStops_59 C)))
def w_X8_hasElectable_0 (M : CT) (G : Nat → PT) (Rp : RT) : PT := tConst 0 <| tIstore 2 <| G 2
def w_X8_hasElectable_2 (M : CT) (G : Nat → PT) (Rp : RT) : PT := tIload 2 <| tConst 5 <| tIf2 (fun x y => y ≤ x) (G 24) <| tAload 0 <| tIload 2 <| tIload 1 <| tCallS M jX8_canBeElected 3 <| tIf (fun x => x = 0) (G 18) <| tConst 1 <| tZret Rp
def w_X8_hasElectable_18 (M : CT) (G : Nat → PT) (Rp : RT) : PT := tIinc 2 1 <| tGoto (G 2)
def w_X8_hasElectable_24 (M : CT) (G : Nat → PT) (Rp : RT) : PT := tConst 0 <| tZret Rp
set_option maxRecDepth 20000 in
theorem b_X8_hasElectable_0 {Z : Zt} {d : Nat} {p : Program} {e : Env} {R : Room} {s : State} {m : MethodId} {args : Array Value} {below : List Frame} {meth : Method} {c : Code} {Rp : RT} (C : Cx Z d jX8_hasElectable RX8 p R s m args meth c) : Sd Z jX8_hasElectable p e R s m args below meth c (MQ below (QcS Z Rp) args s 0 0 (fun a => Z.2.2.1 < a)) 0 (w_X8_hasElectable_0 (MS Z d) (Gw Z 3 p e R s m args below meth c (MQ below (QcS Z Rp) args s 0 0 (fun a => Z.2.2.1 < a))) Rp) := by
  unfold w_X8_hasElectable_0
  refine s_iconst (n := 0) C (by decide +kernel) (by decide) ?_
  refine s_istore_n (k := 2) C (by decide +kernel) ?_
  exact (fun _ _ _ _ _ _ h => h)
set_option maxRecDepth 20000 in
theorem b_X8_hasElectable_2 {Z : Zt} {d : Nat} {p : Program} {e : Env} {R : Room} {s : State} {m : MethodId} {args : Array Value} {below : List Frame} {meth : Method} {c : Code} {Rp : RT} (C : Cx Z d jX8_hasElectable RX8 p R s m args meth c) : Sd Z jX8_hasElectable p e R s m args below meth c (MQ below (QcS Z Rp) args s 0 0 (fun a => Z.2.2.1 < a)) 2 (w_X8_hasElectable_2 (MS Z d) (Gw Z 3 p e R s m args below meth c (MQ below (QcS Z Rp) args s 0 0 (fun a => Z.2.2.1 < a))) Rp) := by
  unfold w_X8_hasElectable_2
  refine s_iload_n (k := 2) C (by decide +kernel) ?_
  refine s_iconst (n := 5) C (by decide +kernel) (by decide) ?_
  refine s_icmp_ge (off := 20) (tgt := 24) C (by decide +kernel) (by decide) (fun _ _ _ _ _ _ h => h) ?_
  refine s_aload_n (k := 0) C (by decide +kernel) ?_
  refine s_iload_n (k := 2) C (by decide +kernel) ?_
  refine s_iload_n (k := 1) C (by decide +kernel) ?_
  refine s_callS C (by decide +kernel) rfl w_6_42 w_5_169 w_1_21 w_5_170 (by decide +kernel) ?_
  refine s_if_eq (off := 5) (tgt := 18) C (by decide +kernel) (by decide) (fun _ _ _ _ _ _ h => h) ?_
  refine s_iconst (n := 1) C (by decide +kernel) (by decide) ?_
  exact s_zret C rfl (by decide +kernel)
set_option maxRecDepth 20000 in
theorem b_X8_hasElectable_18 {Z : Zt} {d : Nat} {p : Program} {e : Env} {R : Room} {s : State} {m : MethodId} {args : Array Value} {below : List Frame} {meth : Method} {c : Code} {Rp : RT} (C : Cx Z d jX8_hasElectable RX8 p R s m args meth c) : Sd Z jX8_hasElectable p e R s m args below meth c (MQ below (QcS Z Rp) args s 0 0 (fun a => Z.2.2.1 < a)) 18 (w_X8_hasElectable_18 (MS Z d) (Gw Z 3 p e R s m args below meth c (MQ below (QcS Z Rp) args s 0 0 (fun a => Z.2.2.1 < a))) Rp) := by
  unfold w_X8_hasElectable_18
  refine s_iinc (n := 1) C (by decide +kernel) (by decide) ?_
  exact s_goto (off := (-19)) (tgt := 2) C (by decide +kernel) (by decide) (fun _ _ _ _ _ _ h => h)
set_option maxRecDepth 20000 in
theorem b_X8_hasElectable_24 {Z : Zt} {d : Nat} {p : Program} {e : Env} {R : Room} {s : State} {m : MethodId} {args : Array Value} {below : List Frame} {meth : Method} {c : Code} {Rp : RT} (C : Cx Z d jX8_hasElectable RX8 p R s m args meth c) : Sd Z jX8_hasElectable p e R s m args below meth c (MQ below (QcS Z Rp) args s 0 0 (fun a => Z.2.2.1 < a)) 24 (w_X8_hasElectable_24 (MS Z d) (Gw Z 3 p e R s m args below meth c (MQ below (QcS Z Rp) args s 0 0 (fun a => Z.2.2.1 < a))) Rp) := by
  unfold w_X8_hasElectable_24
  refine s_iconst (n := 0) C (by decide +kernel) (by decide) ?_
  exact s_zret C rfl (by decide +kernel)
theorem ms_X8_hasElectable {Z : Zt} {d : Nat} {S : Sh} {μ : Mi} {ρ : Mr} {Rp : RT} (a1 : Nat) (x2 : Int32) (h : ∀ G : Nat → PT, (∀ (L st : List Value) (S : Sh) (q : Nat × Nat) (μ : Mi) (ρ : Mr), w_X8_hasElectable_2 (MS Z d) G Rp L st S q μ ρ → G 2 L st S q μ ρ) → (∀ (L st : List Value) (S : Sh) (q : Nat × Nat) (μ : Mi) (ρ : Mr), w_X8_hasElectable_18 (MS Z d) G Rp L st S q μ ρ → G 18 L st S q μ ρ) → (∀ (L st : List Value) (S : Sh) (q : Nat × Nat) (μ : Mi) (ρ : Mr), w_X8_hasElectable_24 (MS Z d) G Rp L st S q μ ρ → G 24 L st S q μ ρ) → w_X8_hasElectable_0 (MS Z d) G Rp [.ref a1, .int x2, .null] [] S (0, 0) μ ρ) : MS Z (d + 1) jX8_hasElectable [.ref a1, .int x2] S μ ρ Rp :=
  MS_of [.ref a1, .int x2, .null] (by decide +kernel) rfl rfl (Nat.le_of_ble_eq_true rfl) rfl (fun p e R s m args below meth c C => b_X8_hasElectable_0 C _ _ _ _ _ _ (h _ (b_X8_hasElectable_2 C) (b_X8_hasElectable_18 C) (b_X8_hasElectable_24 C)))
def w_X8_holding_0 (M : CT) (G : Nat → PT) (Rp : RT) : PT := tAload 0 <| tGetR 10 6 0 <| tIload 1 <| tAldR 37 <| tIload 2 <| tCallV M jX7_termAt 7 18 1 <| tIstore 3 <| tAload 0 <| tGetR 10 6 2 <| tIload 2 <| tAld 20 <| tIstore 4 <| tIload 4 <| tIf (fun x => x = 0) (G 37) <| tIload 4 <| tCallS M jX0_termOf 1 <| tIload 3 <| tIf2 (fun x y => x ≠ y) (G 37) <| tConst 1 <| tGoto (G 38)
def w_X8_holding_37 (M : CT) (G : Nat → PT) (Rp : RT) : PT := tConst 0 <| G 38
def w_X8_holding_38 (M : CT) (G : Nat → PT) (Rp : RT) : PT := tIstore 5 <| tConst 0 <| tIstore 6 <| tConst 0 <| tIstore 7 <| G 46
def w_X8_holding_46 (M : CT) (G : Nat → PT) (Rp : RT) : PT := tIload 7 <| tConst 5 <| tIf2 (fun x y => y ≤ x) (G 124) <| tAload 0 <| tGetR 10 6 0 <| tIload 7 <| tAldR 37 <| tAstore 8 <| tAload 8 <| tIload 2 <| tCallV M jX7_holds 7 18 1 <| tIf (fun x => x = 0) (G 84) <| tAload 8 <| tIload 2 <| tCallV M jX7_termAt 7 18 1 <| tIload 3 <| tIf2 (fun x y => x ≠ y) (G 84) <| tConst 1 <| tGoto (G 85)
def w_X8_holding_84 (M : CT) (G : Nat → PT) (Rp : RT) : PT := tConst 0 <| G 85
def w_X8_holding_85 (M : CT) (G : Nat → PT) (Rp : RT) : PT := tIstore 9 <| tIload 9 <| tIf (fun x => x ≠ 0) (G 109) <| tIload 5 <| tIf (fun x => x = 0) (G 118) <| tAload 8 <| tGetR 7 18 16 <| tGetI 6 5 0 <| tIload 2 <| tIf2 (fun x y => x < y) (G 118) <| G 109
def w_X8_holding_109 (M : CT) (G : Nat → PT) (Rp : RT) : PT := tIload 6 <| tConst 1 <| tIload 7 <| tBin (fun x y => x <<< (y &&& 31)) <| tBin (fun x y => x ||| y) <| tIstore 6 <| G 118
def w_X8_holding_118 (M : CT) (G : Nat → PT) (Rp : RT) : PT := tIinc 7 1 <| tGoto (G 46)
def w_X8_holding_124 (M : CT) (G : Nat → PT) (Rp : RT) : PT := tIload 6 <| tIret Rp
set_option maxRecDepth 20000 in
theorem b_X8_holding_0 {Z : Zt} {d : Nat} {p : Program} {e : Env} {R : Room} {s : State} {m : MethodId} {args : Array Value} {below : List Frame} {meth : Method} {c : Code} {Rp : RT} (C : Cx Z d jX8_holding RX8 p R s m args meth c) : Sd Z jX8_holding p e R s m args below meth c (MQ below (QcS Z Rp) args s 0 0 (fun a => Z.2.2.1 < a)) 0 (w_X8_holding_0 (MS Z d) (Gw Z 10 p e R s m args below meth c (MQ below (QcS Z Rp) args s 0 0 (fun a => Z.2.2.1 < a))) Rp) := by
  unfold w_X8_holding_0
  refine s_aload_n (k := 0) C (by decide +kernel) ?_
  refine s_getR C w_2_114 (by decide +kernel) rfl ?_
  refine s_iload_n (k := 1) C (by decide +kernel) ?_
  refine s_aald C rfl (by decide +kernel) ?_
  refine s_iload_n (k := 2) C (by decide +kernel) ?_
  refine s_callV C rfl rfl (by decide +kernel) rfl w_5_95 w_3_130 w_3_131 w_1_5 w_3_132 (by decide +kernel) ?_
  refine s_istore_n (k := 3) C (by decide +kernel) ?_
  refine s_aload_n (k := 0) C (by decide +kernel) ?_
  refine s_getR C w_2_122 (by decide +kernel) rfl ?_
  refine s_iload_n (k := 2) C (by decide +kernel) ?_
  refine s_iald C (by decide +kernel) ?_
  refine s_istore (k := 4) C (by decide +kernel) ?_
  refine s_iload (k := 4) C (by decide +kernel) ?_
  refine s_if_eq (off := 16) (tgt := 37) C (by decide +kernel) (by decide) (fun _ _ _ _ _ _ h => h) ?_
  refine s_iload (k := 4) C (by decide +kernel) ?_
  refine s_callS C (by decide +kernel) rfl w_5_185 w_3_175 w_1_9 w_3_176 (by decide +kernel) ?_
  refine s_iload_n (k := 3) C (by decide +kernel) ?_
  refine s_icmp_ne (off := 7) (tgt := 37) C (by decide +kernel) (by decide) (fun _ _ _ _ _ _ h => h) ?_
  refine s_iconst (n := 1) C (by decide +kernel) (by decide) ?_
  exact s_goto (off := 4) (tgt := 38) C (by decide +kernel) (by decide) (fun _ _ _ _ _ _ h => h)
set_option maxRecDepth 20000 in
theorem b_X8_holding_37 {Z : Zt} {d : Nat} {p : Program} {e : Env} {R : Room} {s : State} {m : MethodId} {args : Array Value} {below : List Frame} {meth : Method} {c : Code} {Rp : RT} (C : Cx Z d jX8_holding RX8 p R s m args meth c) : Sd Z jX8_holding p e R s m args below meth c (MQ below (QcS Z Rp) args s 0 0 (fun a => Z.2.2.1 < a)) 37 (w_X8_holding_37 (MS Z d) (Gw Z 10 p e R s m args below meth c (MQ below (QcS Z Rp) args s 0 0 (fun a => Z.2.2.1 < a))) Rp) := by
  unfold w_X8_holding_37
  refine s_iconst (n := 0) C (by decide +kernel) (by decide) ?_
  exact (fun _ _ _ _ _ _ h => h)
set_option maxRecDepth 20000 in
theorem b_X8_holding_38 {Z : Zt} {d : Nat} {p : Program} {e : Env} {R : Room} {s : State} {m : MethodId} {args : Array Value} {below : List Frame} {meth : Method} {c : Code} {Rp : RT} (C : Cx Z d jX8_holding RX8 p R s m args meth c) : Sd Z jX8_holding p e R s m args below meth c (MQ below (QcS Z Rp) args s 0 0 (fun a => Z.2.2.1 < a)) 38 (w_X8_holding_38 (MS Z d) (Gw Z 10 p e R s m args below meth c (MQ below (QcS Z Rp) args s 0 0 (fun a => Z.2.2.1 < a))) Rp) := by
  unfold w_X8_holding_38
  refine s_istore (k := 5) C (by decide +kernel) ?_
  refine s_iconst (n := 0) C (by decide +kernel) (by decide) ?_
  refine s_istore (k := 6) C (by decide +kernel) ?_
  refine s_iconst (n := 0) C (by decide +kernel) (by decide) ?_
  refine s_istore (k := 7) C (by decide +kernel) ?_
  exact (fun _ _ _ _ _ _ h => h)
set_option maxRecDepth 20000 in
theorem b_X8_holding_46 {Z : Zt} {d : Nat} {p : Program} {e : Env} {R : Room} {s : State} {m : MethodId} {args : Array Value} {below : List Frame} {meth : Method} {c : Code} {Rp : RT} (C : Cx Z d jX8_holding RX8 p R s m args meth c) : Sd Z jX8_holding p e R s m args below meth c (MQ below (QcS Z Rp) args s 0 0 (fun a => Z.2.2.1 < a)) 46 (w_X8_holding_46 (MS Z d) (Gw Z 10 p e R s m args below meth c (MQ below (QcS Z Rp) args s 0 0 (fun a => Z.2.2.1 < a))) Rp) := by
  unfold w_X8_holding_46
  refine s_iload (k := 7) C (by decide +kernel) ?_
  refine s_iconst (n := 5) C (by decide +kernel) (by decide) ?_
  refine s_icmp_ge (off := 75) (tgt := 124) C (by decide +kernel) (by decide) (fun _ _ _ _ _ _ h => h) ?_
  refine s_aload_n (k := 0) C (by decide +kernel) ?_
  refine s_getR C w_2_114 (by decide +kernel) rfl ?_
  refine s_iload (k := 7) C (by decide +kernel) ?_
  refine s_aald C rfl (by decide +kernel) ?_
  refine s_astore (k := 8) C (by decide +kernel) ?_
  refine s_aload (k := 8) C (by decide +kernel) ?_
  refine s_iload_n (k := 2) C (by decide +kernel) ?_
  refine s_callV C rfl rfl (by decide +kernel) rfl w_5_186 w_5_108 w_5_109 w_1_5 w_5_110 (by decide +kernel) ?_
  refine s_if_eq (off := 17) (tgt := 84) C (by decide +kernel) (by decide) (fun _ _ _ _ _ _ h => h) ?_
  refine s_aload (k := 8) C (by decide +kernel) ?_
  refine s_iload_n (k := 2) C (by decide +kernel) ?_
  refine s_callV C rfl rfl (by decide +kernel) rfl w_5_95 w_3_130 w_3_131 w_1_5 w_3_132 (by decide +kernel) ?_
  refine s_iload_n (k := 3) C (by decide +kernel) ?_
  refine s_icmp_ne (off := 7) (tgt := 84) C (by decide +kernel) (by decide) (fun _ _ _ _ _ _ h => h) ?_
  refine s_iconst (n := 1) C (by decide +kernel) (by decide) ?_
  exact s_goto (off := 4) (tgt := 85) C (by decide +kernel) (by decide) (fun _ _ _ _ _ _ h => h)
set_option maxRecDepth 20000 in
theorem b_X8_holding_84 {Z : Zt} {d : Nat} {p : Program} {e : Env} {R : Room} {s : State} {m : MethodId} {args : Array Value} {below : List Frame} {meth : Method} {c : Code} {Rp : RT} (C : Cx Z d jX8_holding RX8 p R s m args meth c) : Sd Z jX8_holding p e R s m args below meth c (MQ below (QcS Z Rp) args s 0 0 (fun a => Z.2.2.1 < a)) 84 (w_X8_holding_84 (MS Z d) (Gw Z 10 p e R s m args below meth c (MQ below (QcS Z Rp) args s 0 0 (fun a => Z.2.2.1 < a))) Rp) := by
  unfold w_X8_holding_84
  refine s_iconst (n := 0) C (by decide +kernel) (by decide) ?_
  exact (fun _ _ _ _ _ _ h => h)
set_option maxRecDepth 20000 in
theorem b_X8_holding_85 {Z : Zt} {d : Nat} {p : Program} {e : Env} {R : Room} {s : State} {m : MethodId} {args : Array Value} {below : List Frame} {meth : Method} {c : Code} {Rp : RT} (C : Cx Z d jX8_holding RX8 p R s m args meth c) : Sd Z jX8_holding p e R s m args below meth c (MQ below (QcS Z Rp) args s 0 0 (fun a => Z.2.2.1 < a)) 85 (w_X8_holding_85 (MS Z d) (Gw Z 10 p e R s m args below meth c (MQ below (QcS Z Rp) args s 0 0 (fun a => Z.2.2.1 < a))) Rp) := by
  unfold w_X8_holding_85
  refine s_istore (k := 9) C (by decide +kernel) ?_
  refine s_iload (k := 9) C (by decide +kernel) ?_
  refine s_if_ne (off := 20) (tgt := 109) C (by decide +kernel) (by decide) (fun _ _ _ _ _ _ h => h) ?_
  refine s_iload (k := 5) C (by decide +kernel) ?_
  refine s_if_eq (off := 24) (tgt := 118) C (by decide +kernel) (by decide) (fun _ _ _ _ _ _ h => h) ?_
  refine s_aload (k := 8) C (by decide +kernel) ?_
  refine s_getR C w_2_33 (by decide +kernel) rfl ?_
  refine s_getI C w_1_161 (by decide +kernel) rfl ?_
  refine s_iload_n (k := 2) C (by decide +kernel) ?_
  refine s_icmp_lt (off := 12) (tgt := 118) C (by decide +kernel) (by decide) (fun _ _ _ _ _ _ h => h) ?_
  exact (fun _ _ _ _ _ _ h => h)
set_option maxRecDepth 20000 in
theorem b_X8_holding_109 {Z : Zt} {d : Nat} {p : Program} {e : Env} {R : Room} {s : State} {m : MethodId} {args : Array Value} {below : List Frame} {meth : Method} {c : Code} {Rp : RT} (C : Cx Z d jX8_holding RX8 p R s m args meth c) : Sd Z jX8_holding p e R s m args below meth c (MQ below (QcS Z Rp) args s 0 0 (fun a => Z.2.2.1 < a)) 109 (w_X8_holding_109 (MS Z d) (Gw Z 10 p e R s m args below meth c (MQ below (QcS Z Rp) args s 0 0 (fun a => Z.2.2.1 < a))) Rp) := by
  unfold w_X8_holding_109
  refine s_iload (k := 6) C (by decide +kernel) ?_
  refine s_iconst (n := 1) C (by decide +kernel) (by decide) ?_
  refine s_iload (k := 7) C (by decide +kernel) ?_
  refine s_ishl C (by decide +kernel) ?_
  refine s_ior C (by decide +kernel) ?_
  refine s_istore (k := 6) C (by decide +kernel) ?_
  exact (fun _ _ _ _ _ _ h => h)
set_option maxRecDepth 20000 in
theorem b_X8_holding_118 {Z : Zt} {d : Nat} {p : Program} {e : Env} {R : Room} {s : State} {m : MethodId} {args : Array Value} {below : List Frame} {meth : Method} {c : Code} {Rp : RT} (C : Cx Z d jX8_holding RX8 p R s m args meth c) : Sd Z jX8_holding p e R s m args below meth c (MQ below (QcS Z Rp) args s 0 0 (fun a => Z.2.2.1 < a)) 118 (w_X8_holding_118 (MS Z d) (Gw Z 10 p e R s m args below meth c (MQ below (QcS Z Rp) args s 0 0 (fun a => Z.2.2.1 < a))) Rp) := by
  unfold w_X8_holding_118
  refine s_iinc (n := 1) C (by decide +kernel) (by decide) ?_
  exact s_goto (off := (-75)) (tgt := 46) C (by decide +kernel) (by decide) (fun _ _ _ _ _ _ h => h)
set_option maxRecDepth 20000 in
theorem b_X8_holding_124 {Z : Zt} {d : Nat} {p : Program} {e : Env} {R : Room} {s : State} {m : MethodId} {args : Array Value} {below : List Frame} {meth : Method} {c : Code} {Rp : RT} (C : Cx Z d jX8_holding RX8 p R s m args meth c) : Sd Z jX8_holding p e R s m args below meth c (MQ below (QcS Z Rp) args s 0 0 (fun a => Z.2.2.1 < a)) 124 (w_X8_holding_124 (MS Z d) (Gw Z 10 p e R s m args below meth c (MQ below (QcS Z Rp) args s 0 0 (fun a => Z.2.2.1 < a))) Rp) := by
  unfold w_X8_holding_124
  refine s_iload (k := 6) C (by decide +kernel) ?_
  exact s_iret C rfl (by decide +kernel)
theorem ms_X8_holding {Z : Zt} {d : Nat} {S : Sh} {μ : Mi} {ρ : Mr} {Rp : RT} (a1 : Nat) (x2 : Int32) (x3 : Int32) (h : ∀ G : Nat → PT, (∀ (L st : List Value) (S : Sh) (q : Nat × Nat) (μ : Mi) (ρ : Mr), w_X8_holding_37 (MS Z d) G Rp L st S q μ ρ → G 37 L st S q μ ρ) → (∀ (L st : List Value) (S : Sh) (q : Nat × Nat) (μ : Mi) (ρ : Mr), w_X8_holding_38 (MS Z d) G Rp L st S q μ ρ → G 38 L st S q μ ρ) → (∀ (L st : List Value) (S : Sh) (q : Nat × Nat) (μ : Mi) (ρ : Mr), w_X8_holding_46 (MS Z d) G Rp L st S q μ ρ → G 46 L st S q μ ρ) → (∀ (L st : List Value) (S : Sh) (q : Nat × Nat) (μ : Mi) (ρ : Mr), w_X8_holding_84 (MS Z d) G Rp L st S q μ ρ → G 84 L st S q μ ρ) → (∀ (L st : List Value) (S : Sh) (q : Nat × Nat) (μ : Mi) (ρ : Mr), w_X8_holding_85 (MS Z d) G Rp L st S q μ ρ → G 85 L st S q μ ρ) → (∀ (L st : List Value) (S : Sh) (q : Nat × Nat) (μ : Mi) (ρ : Mr), w_X8_holding_109 (MS Z d) G Rp L st S q μ ρ → G 109 L st S q μ ρ) → (∀ (L st : List Value) (S : Sh) (q : Nat × Nat) (μ : Mi) (ρ : Mr), w_X8_holding_118 (MS Z d) G Rp L st S q μ ρ → G 118 L st S q μ ρ) → (∀ (L st : List Value) (S : Sh) (q : Nat × Nat) (μ : Mi) (ρ : Mr), w_X8_holding_124 (MS Z d) G Rp L st S q μ ρ → G 124 L st S q μ ρ) → w_X8_holding_0 (MS Z d) G Rp [.ref a1, .int x2, .int x3, .null, .null, .null, .null, .null, .null, .null] [] S (0, 0) μ ρ) : MS Z (d + 1) jX8_holding [.ref a1, .int x2, .int x3] S μ ρ Rp :=
  MS_of [.ref a1, .int x2, .int x3, .null, .null, .null, .null, .null, .null, .null] (by decide +kernel) rfl rfl (Nat.le_of_ble_eq_true rfl) rfl (fun p e R s m args below meth c C => b_X8_holding_0 C _ _ _ _ _ _ (h _ (b_X8_holding_37 C) (b_X8_holding_38 C) (b_X8_holding_46 C) (b_X8_holding_84 C) (b_X8_holding_85 C) (b_X8_holding_109 C) (b_X8_holding_118 C) (b_X8_holding_124 C)))
def w_X8_leaderNow_0 (M : CT) (G : Nat → PT) (Rp : RT) : PT := tConst (-1) <| tIstore 1 <| tConst 0 <| tIstore 2 <| G 4
def w_X8_leaderNow_4 (M : CT) (G : Nat → PT) (Rp : RT) : PT := tIload 2 <| tConst 5 <| tIf2 (fun x y => y ≤ x) (G 53) <| tAload 0 <| tGetR 10 6 0 <| tIload 2 <| tAldR 37 <| tAstore 3 <| tAload 3 <| tGetI 7 18 4 <| tConst 2 <| tIf2 (fun x y => x ≠ y) (G 47) <| tIload 1 <| tConst (-1) <| tIf2 (fun x y => x = y) (G 45) <| tAload 3 <| tGetI 7 18 2 <| tAload 0 <| tGetR 10 6 0 <| tIload 1 <| tAldR 37 <| tGetI 7 18 2 <| tIf2 (fun x y => x ≤ y) (G 47) <| G 45
def w_X8_leaderNow_45 (M : CT) (G : Nat → PT) (Rp : RT) : PT := tIload 2 <| tIstore 1 <| G 47
def w_X8_leaderNow_47 (M : CT) (G : Nat → PT) (Rp : RT) : PT := tIinc 2 1 <| tGoto (G 4)
def w_X8_leaderNow_53 (M : CT) (G : Nat → PT) (Rp : RT) : PT := tIload 1 <| tIret Rp
set_option maxRecDepth 20000 in
theorem b_X8_leaderNow_0 {Z : Zt} {d : Nat} {p : Program} {e : Env} {R : Room} {s : State} {m : MethodId} {args : Array Value} {below : List Frame} {meth : Method} {c : Code} {Rp : RT} (C : Cx Z d jX8_leaderNow RX8 p R s m args meth c) : Sd Z jX8_leaderNow p e R s m args below meth c (MQ below (QcS Z Rp) args s 0 0 (fun a => Z.2.2.1 < a)) 0 (w_X8_leaderNow_0 (MS Z d) (Gw Z 4 p e R s m args below meth c (MQ below (QcS Z Rp) args s 0 0 (fun a => Z.2.2.1 < a))) Rp) := by
  unfold w_X8_leaderNow_0
  refine s_iconst (n := (-1)) C (by decide +kernel) (by decide) ?_
  refine s_istore_n (k := 1) C (by decide +kernel) ?_
  refine s_iconst (n := 0) C (by decide +kernel) (by decide) ?_
  refine s_istore_n (k := 2) C (by decide +kernel) ?_
  exact (fun _ _ _ _ _ _ h => h)
set_option maxRecDepth 20000 in
theorem b_X8_leaderNow_4 {Z : Zt} {d : Nat} {p : Program} {e : Env} {R : Room} {s : State} {m : MethodId} {args : Array Value} {below : List Frame} {meth : Method} {c : Code} {Rp : RT} (C : Cx Z d jX8_leaderNow RX8 p R s m args meth c) : Sd Z jX8_leaderNow p e R s m args below meth c (MQ below (QcS Z Rp) args s 0 0 (fun a => Z.2.2.1 < a)) 4 (w_X8_leaderNow_4 (MS Z d) (Gw Z 4 p e R s m args below meth c (MQ below (QcS Z Rp) args s 0 0 (fun a => Z.2.2.1 < a))) Rp) := by
  unfold w_X8_leaderNow_4
  refine s_iload_n (k := 2) C (by decide +kernel) ?_
  refine s_iconst (n := 5) C (by decide +kernel) (by decide) ?_
  refine s_icmp_ge (off := 47) (tgt := 53) C (by decide +kernel) (by decide) (fun _ _ _ _ _ _ h => h) ?_
  refine s_aload_n (k := 0) C (by decide +kernel) ?_
  refine s_getR C w_2_114 (by decide +kernel) rfl ?_
  refine s_iload_n (k := 2) C (by decide +kernel) ?_
  refine s_aald C rfl (by decide +kernel) ?_
  refine s_astore_n (k := 3) C (by decide +kernel) ?_
  refine s_aload_n (k := 3) C (by decide +kernel) ?_
  refine s_getI C w_1_232 (by decide +kernel) rfl ?_
  refine s_iconst (n := 2) C (by decide +kernel) (by decide) ?_
  refine s_icmp_ne (off := 26) (tgt := 47) C (by decide +kernel) (by decide) (fun _ _ _ _ _ _ h => h) ?_
  refine s_iload_n (k := 1) C (by decide +kernel) ?_
  refine s_iconst (n := (-1)) C (by decide +kernel) (by decide) ?_
  refine s_icmp_eq (off := 19) (tgt := 45) C (by decide +kernel) (by decide) (fun _ _ _ _ _ _ h => h) ?_
  refine s_aload_n (k := 3) C (by decide +kernel) ?_
  refine s_getI C w_1_226 (by decide +kernel) rfl ?_
  refine s_aload_n (k := 0) C (by decide +kernel) ?_
  refine s_getR C w_2_114 (by decide +kernel) rfl ?_
  refine s_iload_n (k := 1) C (by decide +kernel) ?_
  refine s_aald C rfl (by decide +kernel) ?_
  refine s_getI C w_1_226 (by decide +kernel) rfl ?_
  refine s_icmp_le (off := 5) (tgt := 47) C (by decide +kernel) (by decide) (fun _ _ _ _ _ _ h => h) ?_
  exact (fun _ _ _ _ _ _ h => h)
set_option maxRecDepth 20000 in
theorem b_X8_leaderNow_45 {Z : Zt} {d : Nat} {p : Program} {e : Env} {R : Room} {s : State} {m : MethodId} {args : Array Value} {below : List Frame} {meth : Method} {c : Code} {Rp : RT} (C : Cx Z d jX8_leaderNow RX8 p R s m args meth c) : Sd Z jX8_leaderNow p e R s m args below meth c (MQ below (QcS Z Rp) args s 0 0 (fun a => Z.2.2.1 < a)) 45 (w_X8_leaderNow_45 (MS Z d) (Gw Z 4 p e R s m args below meth c (MQ below (QcS Z Rp) args s 0 0 (fun a => Z.2.2.1 < a))) Rp) := by
  unfold w_X8_leaderNow_45
  refine s_iload_n (k := 2) C (by decide +kernel) ?_
  refine s_istore_n (k := 1) C (by decide +kernel) ?_
  exact (fun _ _ _ _ _ _ h => h)
set_option maxRecDepth 20000 in
theorem b_X8_leaderNow_47 {Z : Zt} {d : Nat} {p : Program} {e : Env} {R : Room} {s : State} {m : MethodId} {args : Array Value} {below : List Frame} {meth : Method} {c : Code} {Rp : RT} (C : Cx Z d jX8_leaderNow RX8 p R s m args meth c) : Sd Z jX8_leaderNow p e R s m args below meth c (MQ below (QcS Z Rp) args s 0 0 (fun a => Z.2.2.1 < a)) 47 (w_X8_leaderNow_47 (MS Z d) (Gw Z 4 p e R s m args below meth c (MQ below (QcS Z Rp) args s 0 0 (fun a => Z.2.2.1 < a))) Rp) := by
  unfold w_X8_leaderNow_47
  refine s_iinc (n := 1) C (by decide +kernel) (by decide) ?_
  exact s_goto (off := (-46)) (tgt := 4) C (by decide +kernel) (by decide) (fun _ _ _ _ _ _ h => h)
set_option maxRecDepth 20000 in
theorem b_X8_leaderNow_53 {Z : Zt} {d : Nat} {p : Program} {e : Env} {R : Room} {s : State} {m : MethodId} {args : Array Value} {below : List Frame} {meth : Method} {c : Code} {Rp : RT} (C : Cx Z d jX8_leaderNow RX8 p R s m args meth c) : Sd Z jX8_leaderNow p e R s m args below meth c (MQ below (QcS Z Rp) args s 0 0 (fun a => Z.2.2.1 < a)) 53 (w_X8_leaderNow_53 (MS Z d) (Gw Z 4 p e R s m args below meth c (MQ below (QcS Z Rp) args s 0 0 (fun a => Z.2.2.1 < a))) Rp) := by
  unfold w_X8_leaderNow_53
  refine s_iload_n (k := 1) C (by decide +kernel) ?_
  exact s_iret C rfl (by decide +kernel)
theorem ms_X8_leaderNow {Z : Zt} {d : Nat} {S : Sh} {μ : Mi} {ρ : Mr} {Rp : RT} (a1 : Nat) (h : ∀ G : Nat → PT, (∀ (L st : List Value) (S : Sh) (q : Nat × Nat) (μ : Mi) (ρ : Mr), w_X8_leaderNow_4 (MS Z d) G Rp L st S q μ ρ → G 4 L st S q μ ρ) → (∀ (L st : List Value) (S : Sh) (q : Nat × Nat) (μ : Mi) (ρ : Mr), w_X8_leaderNow_45 (MS Z d) G Rp L st S q μ ρ → G 45 L st S q μ ρ) → (∀ (L st : List Value) (S : Sh) (q : Nat × Nat) (μ : Mi) (ρ : Mr), w_X8_leaderNow_47 (MS Z d) G Rp L st S q μ ρ → G 47 L st S q μ ρ) → (∀ (L st : List Value) (S : Sh) (q : Nat × Nat) (μ : Mi) (ρ : Mr), w_X8_leaderNow_53 (MS Z d) G Rp L st S q μ ρ → G 53 L st S q μ ρ) → w_X8_leaderNow_0 (MS Z d) G Rp [.ref a1, .null, .null, .null] [] S (0, 0) μ ρ) : MS Z (d + 1) jX8_leaderNow [.ref a1] S μ ρ Rp :=
  MS_of [.ref a1, .null, .null, .null] (by decide +kernel) rfl rfl (Nat.le_of_ble_eq_true rfl) rfl (fun p e R s m args below meth c C => b_X8_leaderNow_0 C _ _ _ _ _ _ (h _ (b_X8_leaderNow_4 C) (b_X8_leaderNow_45 C) (b_X8_leaderNow_47 C) (b_X8_leaderNow_53 C)))
def w_X8_countOf_0 (M : CT) (G : Nat → PT) (Rp : RT) : PT := tIload 1 <| tSw [(0, G 56), (1, G 64), (2, G 72), (3, G 80), (4, G 85), (5, G 90), (6, G 95), (7, G 118), (8, G 100), (9, G 105)] (G 118)
def w_X8_countOf_56 (M : CT) (G : Nat → PT) (Rp : RT) : PT := tAload 0 <| tGetR 10 6 1 <| tGetI 1 6 2 <| tIret Rp
def w_X8_countOf_64 (M : CT) (G : Nat → PT) (Rp : RT) : PT := tAload 0 <| tGetR 10 6 1 <| tGetI 1 6 3 <| tIret Rp
def w_X8_countOf_72 (M : CT) (G : Nat → PT) (Rp : RT) : PT := tAload 0 <| tGetR 10 6 1 <| tGetI 1 6 4 <| tIret Rp
def w_X8_countOf_80 (M : CT) (G : Nat → PT) (Rp : RT) : PT := tAload 0 <| tCallV M jX10_whoIsUp 10 6 0 <| tIret Rp
def w_X8_countOf_85 (M : CT) (G : Nat → PT) (Rp : RT) : PT := tAload 0 <| tCallS M jX8_leadersNow 1 <| tIret Rp
def w_X8_countOf_90 (M : CT) (G : Nat → PT) (Rp : RT) : PT := tAload 0 <| tCallS M jX8_greatestTerm 1 <| tIret Rp
def w_X8_countOf_95 (M : CT) (G : Nat → PT) (Rp : RT) : PT := tAload 0 <| tCallS M jX8_greatestAgreed 1 <| tIret Rp
def w_X8_countOf_100 (M : CT) (G : Nat → PT) (Rp : RT) : PT := tAload 0 <| tGetI 10 6 4 <| tIret Rp
def w_X8_countOf_105 (M : CT) (G : Nat → PT) (Rp : RT) : PT := tAload 0 <| tGetI 10 6 5 <| tIf (fun x => x = 0) (G 116) <| tConst 1 <| tGoto (G 117)
def w_X8_countOf_116 (M : CT) (G : Nat → PT) (Rp : RT) : PT := tConst 0 <| G 117
def w_X8_countOf_117 (M : CT) (G : Nat → PT) (Rp : RT) : PT := tIret Rp
def w_X8_countOf_118 (M : CT) (G : Nat → PT) (Rp : RT) : PT := tConst (-1) <| tIret Rp
set_option maxRecDepth 20000 in
theorem b_X8_countOf_0 {Z : Zt} {d : Nat} {p : Program} {e : Env} {R : Room} {s : State} {m : MethodId} {args : Array Value} {below : List Frame} {meth : Method} {c : Code} {Rp : RT} (C : Cx Z d jX8_countOf RX8 p R s m args meth c) : Sd Z jX8_countOf p e R s m args below meth c (MQ below (QcS Z Rp) args s 0 0 (fun a => Z.2.2.1 < a)) 0 (w_X8_countOf_0 (MS Z d) (Gw Z 2 p e R s m args below meth c (MQ below (QcS Z Rp) args s 0 0 (fun a => Z.2.2.1 < a))) Rp) := by
  unfold w_X8_countOf_0
  refine s_iload_n (k := 1) C (by decide +kernel) ?_
  refine s_tsw (df := 117) (lo := 0) (hi := 9) (offs := #[55, 63, 71, 79, 84, 89, 94, 117, 99, 104]) (len := 55) (tgt := 118) C (by decide +kernel) (by decide) (fun _ _ _ _ _ _ h => h) (fun i r h => ?_) (fun x h => tsw_out 10 x (fun q hq => ?_))
  · match i, h with
    | 0, h => cases h; dsimp only; exact ⟨by decide, by decide, 55, 56, by rfl, by decide, (fun _ _ _ _ _ _ h => h)⟩
    | 1, h => cases h; dsimp only; exact ⟨by decide, by decide, 63, 64, by rfl, by decide, (fun _ _ _ _ _ _ h => h)⟩
    | 2, h => cases h; dsimp only; exact ⟨by decide, by decide, 71, 72, by rfl, by decide, (fun _ _ _ _ _ _ h => h)⟩
    | 3, h => cases h; dsimp only; exact ⟨by decide, by decide, 79, 80, by rfl, by decide, (fun _ _ _ _ _ _ h => h)⟩
    | 4, h => cases h; dsimp only; exact ⟨by decide, by decide, 84, 85, by rfl, by decide, (fun _ _ _ _ _ _ h => h)⟩
    | 5, h => cases h; dsimp only; exact ⟨by decide, by decide, 89, 90, by rfl, by decide, (fun _ _ _ _ _ _ h => h)⟩
    | 6, h => cases h; dsimp only; exact ⟨by decide, by decide, 94, 95, by rfl, by decide, (fun _ _ _ _ _ _ h => h)⟩
    | 7, h => cases h; dsimp only; exact ⟨by decide, by decide, 117, 118, by rfl, by decide, (fun _ _ _ _ _ _ h => h)⟩
    | 8, h => cases h; dsimp only; exact ⟨by decide, by decide, 99, 100, by rfl, by decide, (fun _ _ _ _ _ _ h => h)⟩
    | 9, h => cases h; dsimp only; exact ⟨by decide, by decide, 104, 105, by rfl, by decide, (fun _ _ _ _ _ _ h => h)⟩
    | q + 10, h => simp at h
  · match q, hq with
    | 0, _ => exact h _ (List.mem_of_getElem? (i := 0) rfl)
    | 1, _ => exact h _ (List.mem_of_getElem? (i := 1) rfl)
    | 2, _ => exact h _ (List.mem_of_getElem? (i := 2) rfl)
    | 3, _ => exact h _ (List.mem_of_getElem? (i := 3) rfl)
    | 4, _ => exact h _ (List.mem_of_getElem? (i := 4) rfl)
    | 5, _ => exact h _ (List.mem_of_getElem? (i := 5) rfl)
    | 6, _ => exact h _ (List.mem_of_getElem? (i := 6) rfl)
    | 7, _ => exact h _ (List.mem_of_getElem? (i := 7) rfl)
    | 8, _ => exact h _ (List.mem_of_getElem? (i := 8) rfl)
    | 9, _ => exact h _ (List.mem_of_getElem? (i := 9) rfl)
    | q + 10, hq => exact absurd hq (by omega)
set_option maxRecDepth 20000 in
theorem b_X8_countOf_56 {Z : Zt} {d : Nat} {p : Program} {e : Env} {R : Room} {s : State} {m : MethodId} {args : Array Value} {below : List Frame} {meth : Method} {c : Code} {Rp : RT} (C : Cx Z d jX8_countOf RX8 p R s m args meth c) : Sd Z jX8_countOf p e R s m args below meth c (MQ below (QcS Z Rp) args s 0 0 (fun a => Z.2.2.1 < a)) 56 (w_X8_countOf_56 (MS Z d) (Gw Z 2 p e R s m args below meth c (MQ below (QcS Z Rp) args s 0 0 (fun a => Z.2.2.1 < a))) Rp) := by
  unfold w_X8_countOf_56
  refine s_aload_n (k := 0) C (by decide +kernel) ?_
  refine s_getR C w_2_119 (by decide +kernel) rfl ?_
  refine s_getI C w_1_125 (by decide +kernel) rfl ?_
  exact s_iret C rfl (by decide +kernel)
set_option maxRecDepth 20000 in
theorem b_X8_countOf_64 {Z : Zt} {d : Nat} {p : Program} {e : Env} {R : Room} {s : State} {m : MethodId} {args : Array Value} {below : List Frame} {meth : Method} {c : Code} {Rp : RT} (C : Cx Z d jX8_countOf RX8 p R s m args meth c) : Sd Z jX8_countOf p e R s m args below meth c (MQ below (QcS Z Rp) args s 0 0 (fun a => Z.2.2.1 < a)) 64 (w_X8_countOf_64 (MS Z d) (Gw Z 2 p e R s m args below meth c (MQ below (QcS Z Rp) args s 0 0 (fun a => Z.2.2.1 < a))) Rp) := by
  unfold w_X8_countOf_64
  refine s_aload_n (k := 0) C (by decide +kernel) ?_
  refine s_getR C w_2_119 (by decide +kernel) rfl ?_
  refine s_getI C w_1_130 (by decide +kernel) rfl ?_
  exact s_iret C rfl (by decide +kernel)
set_option maxRecDepth 20000 in
theorem b_X8_countOf_72 {Z : Zt} {d : Nat} {p : Program} {e : Env} {R : Room} {s : State} {m : MethodId} {args : Array Value} {below : List Frame} {meth : Method} {c : Code} {Rp : RT} (C : Cx Z d jX8_countOf RX8 p R s m args meth c) : Sd Z jX8_countOf p e R s m args below meth c (MQ below (QcS Z Rp) args s 0 0 (fun a => Z.2.2.1 < a)) 72 (w_X8_countOf_72 (MS Z d) (Gw Z 2 p e R s m args below meth c (MQ below (QcS Z Rp) args s 0 0 (fun a => Z.2.2.1 < a))) Rp) := by
  unfold w_X8_countOf_72
  refine s_aload_n (k := 0) C (by decide +kernel) ?_
  refine s_getR C w_2_119 (by decide +kernel) rfl ?_
  refine s_getI C w_1_133 (by decide +kernel) rfl ?_
  exact s_iret C rfl (by decide +kernel)
set_option maxRecDepth 20000 in
theorem b_X8_countOf_80 {Z : Zt} {d : Nat} {p : Program} {e : Env} {R : Room} {s : State} {m : MethodId} {args : Array Value} {below : List Frame} {meth : Method} {c : Code} {Rp : RT} (C : Cx Z d jX8_countOf RX8 p R s m args meth c) : Sd Z jX8_countOf p e R s m args below meth c (MQ below (QcS Z Rp) args s 0 0 (fun a => Z.2.2.1 < a)) 80 (w_X8_countOf_80 (MS Z d) (Gw Z 2 p e R s m args below meth c (MQ below (QcS Z Rp) args s 0 0 (fun a => Z.2.2.1 < a))) Rp) := by
  unfold w_X8_countOf_80
  refine s_aload_n (k := 0) C (by decide +kernel) ?_
  refine s_callV C rfl rfl (by decide +kernel) rfl w_6_37 w_5_165 w_5_166 w_1_2 w_5_167 (by decide +kernel) ?_
  exact s_iret C rfl (by decide +kernel)
set_option maxRecDepth 20000 in
theorem b_X8_countOf_85 {Z : Zt} {d : Nat} {p : Program} {e : Env} {R : Room} {s : State} {m : MethodId} {args : Array Value} {below : List Frame} {meth : Method} {c : Code} {Rp : RT} (C : Cx Z d jX8_countOf RX8 p R s m args meth c) : Sd Z jX8_countOf p e R s m args below meth c (MQ below (QcS Z Rp) args s 0 0 (fun a => Z.2.2.1 < a)) 85 (w_X8_countOf_85 (MS Z d) (Gw Z 2 p e R s m args below meth c (MQ below (QcS Z Rp) args s 0 0 (fun a => Z.2.2.1 < a))) Rp) := by
  unfold w_X8_countOf_85
  refine s_aload_n (k := 0) C (by decide +kernel) ?_
  refine s_callS C (by decide +kernel) rfl w_6_62 w_6_63 w_1_21 w_6_64 (by decide +kernel) ?_
  exact s_iret C rfl (by decide +kernel)
set_option maxRecDepth 20000 in
theorem b_X8_countOf_90 {Z : Zt} {d : Nat} {p : Program} {e : Env} {R : Room} {s : State} {m : MethodId} {args : Array Value} {below : List Frame} {meth : Method} {c : Code} {Rp : RT} (C : Cx Z d jX8_countOf RX8 p R s m args meth c) : Sd Z jX8_countOf p e R s m args below meth c (MQ below (QcS Z Rp) args s 0 0 (fun a => Z.2.2.1 < a)) 90 (w_X8_countOf_90 (MS Z d) (Gw Z 2 p e R s m args below meth c (MQ below (QcS Z Rp) args s 0 0 (fun a => Z.2.2.1 < a))) Rp) := by
  unfold w_X8_countOf_90
  refine s_aload_n (k := 0) C (by decide +kernel) ?_
  refine s_callS C (by decide +kernel) rfl w_6_65 w_6_66 w_1_21 w_6_67 (by decide +kernel) ?_
  exact s_iret C rfl (by decide +kernel)
set_option maxRecDepth 20000 in
theorem b_X8_countOf_95 {Z : Zt} {d : Nat} {p : Program} {e : Env} {R : Room} {s : State} {m : MethodId} {args : Array Value} {below : List Frame} {meth : Method} {c : Code} {Rp : RT} (C : Cx Z d jX8_countOf RX8 p R s m args meth c) : Sd Z jX8_countOf p e R s m args below meth c (MQ below (QcS Z Rp) args s 0 0 (fun a => Z.2.2.1 < a)) 95 (w_X8_countOf_95 (MS Z d) (Gw Z 2 p e R s m args below meth c (MQ below (QcS Z Rp) args s 0 0 (fun a => Z.2.2.1 < a))) Rp) := by
  unfold w_X8_countOf_95
  refine s_aload_n (k := 0) C (by decide +kernel) ?_
  refine s_callS C (by decide +kernel) rfl w_6_68 w_6_69 w_1_21 w_6_70 (by decide +kernel) ?_
  exact s_iret C rfl (by decide +kernel)
set_option maxRecDepth 20000 in
theorem b_X8_countOf_100 {Z : Zt} {d : Nat} {p : Program} {e : Env} {R : Room} {s : State} {m : MethodId} {args : Array Value} {below : List Frame} {meth : Method} {c : Code} {Rp : RT} (C : Cx Z d jX8_countOf RX8 p R s m args meth c) : Sd Z jX8_countOf p e R s m args below meth c (MQ below (QcS Z Rp) args s 0 0 (fun a => Z.2.2.1 < a)) 100 (w_X8_countOf_100 (MS Z d) (Gw Z 2 p e R s m args below meth c (MQ below (QcS Z Rp) args s 0 0 (fun a => Z.2.2.1 < a))) Rp) := by
  unfold w_X8_countOf_100
  refine s_aload_n (k := 0) C (by decide +kernel) ?_
  refine s_getI C w_2_127 (by decide +kernel) rfl ?_
  exact s_iret C rfl (by decide +kernel)
set_option maxRecDepth 20000 in
theorem b_X8_countOf_105 {Z : Zt} {d : Nat} {p : Program} {e : Env} {R : Room} {s : State} {m : MethodId} {args : Array Value} {below : List Frame} {meth : Method} {c : Code} {Rp : RT} (C : Cx Z d jX8_countOf RX8 p R s m args meth c) : Sd Z jX8_countOf p e R s m args below meth c (MQ below (QcS Z Rp) args s 0 0 (fun a => Z.2.2.1 < a)) 105 (w_X8_countOf_105 (MS Z d) (Gw Z 2 p e R s m args below meth c (MQ below (QcS Z Rp) args s 0 0 (fun a => Z.2.2.1 < a))) Rp) := by
  unfold w_X8_countOf_105
  refine s_aload_n (k := 0) C (by decide +kernel) ?_
  refine s_getI C w_2_129 (by decide +kernel) rfl ?_
  refine s_if_eq (off := 7) (tgt := 116) C (by decide +kernel) (by decide) (fun _ _ _ _ _ _ h => h) ?_
  refine s_iconst (n := 1) C (by decide +kernel) (by decide) ?_
  exact s_goto (off := 4) (tgt := 117) C (by decide +kernel) (by decide) (fun _ _ _ _ _ _ h => h)
set_option maxRecDepth 20000 in
theorem b_X8_countOf_116 {Z : Zt} {d : Nat} {p : Program} {e : Env} {R : Room} {s : State} {m : MethodId} {args : Array Value} {below : List Frame} {meth : Method} {c : Code} {Rp : RT} (C : Cx Z d jX8_countOf RX8 p R s m args meth c) : Sd Z jX8_countOf p e R s m args below meth c (MQ below (QcS Z Rp) args s 0 0 (fun a => Z.2.2.1 < a)) 116 (w_X8_countOf_116 (MS Z d) (Gw Z 2 p e R s m args below meth c (MQ below (QcS Z Rp) args s 0 0 (fun a => Z.2.2.1 < a))) Rp) := by
  unfold w_X8_countOf_116
  refine s_iconst (n := 0) C (by decide +kernel) (by decide) ?_
  exact (fun _ _ _ _ _ _ h => h)
set_option maxRecDepth 20000 in
theorem b_X8_countOf_117 {Z : Zt} {d : Nat} {p : Program} {e : Env} {R : Room} {s : State} {m : MethodId} {args : Array Value} {below : List Frame} {meth : Method} {c : Code} {Rp : RT} (C : Cx Z d jX8_countOf RX8 p R s m args meth c) : Sd Z jX8_countOf p e R s m args below meth c (MQ below (QcS Z Rp) args s 0 0 (fun a => Z.2.2.1 < a)) 117 (w_X8_countOf_117 (MS Z d) (Gw Z 2 p e R s m args below meth c (MQ below (QcS Z Rp) args s 0 0 (fun a => Z.2.2.1 < a))) Rp) := by
  unfold w_X8_countOf_117
  exact s_iret C rfl (by decide +kernel)
set_option maxRecDepth 20000 in
theorem b_X8_countOf_118 {Z : Zt} {d : Nat} {p : Program} {e : Env} {R : Room} {s : State} {m : MethodId} {args : Array Value} {below : List Frame} {meth : Method} {c : Code} {Rp : RT} (C : Cx Z d jX8_countOf RX8 p R s m args meth c) : Sd Z jX8_countOf p e R s m args below meth c (MQ below (QcS Z Rp) args s 0 0 (fun a => Z.2.2.1 < a)) 118 (w_X8_countOf_118 (MS Z d) (Gw Z 2 p e R s m args below meth c (MQ below (QcS Z Rp) args s 0 0 (fun a => Z.2.2.1 < a))) Rp) := by
  unfold w_X8_countOf_118
  refine s_iconst (n := (-1)) C (by decide +kernel) (by decide) ?_
  exact s_iret C rfl (by decide +kernel)
theorem ms_X8_countOf {Z : Zt} {d : Nat} {S : Sh} {μ : Mi} {ρ : Mr} {Rp : RT} (a1 : Nat) (x2 : Int32) (h : ∀ G : Nat → PT, (∀ (L st : List Value) (S : Sh) (q : Nat × Nat) (μ : Mi) (ρ : Mr), w_X8_countOf_56 (MS Z d) G Rp L st S q μ ρ → G 56 L st S q μ ρ) → (∀ (L st : List Value) (S : Sh) (q : Nat × Nat) (μ : Mi) (ρ : Mr), w_X8_countOf_64 (MS Z d) G Rp L st S q μ ρ → G 64 L st S q μ ρ) → (∀ (L st : List Value) (S : Sh) (q : Nat × Nat) (μ : Mi) (ρ : Mr), w_X8_countOf_72 (MS Z d) G Rp L st S q μ ρ → G 72 L st S q μ ρ) → (∀ (L st : List Value) (S : Sh) (q : Nat × Nat) (μ : Mi) (ρ : Mr), w_X8_countOf_80 (MS Z d) G Rp L st S q μ ρ → G 80 L st S q μ ρ) → (∀ (L st : List Value) (S : Sh) (q : Nat × Nat) (μ : Mi) (ρ : Mr), w_X8_countOf_85 (MS Z d) G Rp L st S q μ ρ → G 85 L st S q μ ρ) → (∀ (L st : List Value) (S : Sh) (q : Nat × Nat) (μ : Mi) (ρ : Mr), w_X8_countOf_90 (MS Z d) G Rp L st S q μ ρ → G 90 L st S q μ ρ) → (∀ (L st : List Value) (S : Sh) (q : Nat × Nat) (μ : Mi) (ρ : Mr), w_X8_countOf_95 (MS Z d) G Rp L st S q μ ρ → G 95 L st S q μ ρ) → (∀ (L st : List Value) (S : Sh) (q : Nat × Nat) (μ : Mi) (ρ : Mr), w_X8_countOf_100 (MS Z d) G Rp L st S q μ ρ → G 100 L st S q μ ρ) → (∀ (L st : List Value) (S : Sh) (q : Nat × Nat) (μ : Mi) (ρ : Mr), w_X8_countOf_105 (MS Z d) G Rp L st S q μ ρ → G 105 L st S q μ ρ) → (∀ (L st : List Value) (S : Sh) (q : Nat × Nat) (μ : Mi) (ρ : Mr), w_X8_countOf_116 (MS Z d) G Rp L st S q μ ρ → G 116 L st S q μ ρ) → (∀ (L st : List Value) (S : Sh) (q : Nat × Nat) (μ : Mi) (ρ : Mr), w_X8_countOf_117 (MS Z d) G Rp L st S q μ ρ → G 117 L st S q μ ρ) → (∀ (L st : List Value) (S : Sh) (q : Nat × Nat) (μ : Mi) (ρ : Mr), w_X8_countOf_118 (MS Z d) G Rp L st S q μ ρ → G 118 L st S q μ ρ) → w_X8_countOf_0 (MS Z d) G Rp [.ref a1, .int x2] [] S (0, 0) μ ρ) : MS Z (d + 1) jX8_countOf [.ref a1, .int x2] S μ ρ Rp :=
  MS_of [.ref a1, .int x2] (by decide +kernel) rfl rfl (Nat.le_of_ble_eq_true rfl) rfl (fun p e R s m args below meth c C => b_X8_countOf_0 C _ _ _ _ _ _ (h _ (b_X8_countOf_56 C) (b_X8_countOf_64 C) (b_X8_countOf_72 C) (b_X8_countOf_80 C) (b_X8_countOf_85 C) (b_X8_countOf_90 C) (b_X8_countOf_95 C) (b_X8_countOf_100 C) (b_X8_countOf_105 C) (b_X8_countOf_116 C) (b_X8_countOf_117 C) (b_X8_countOf_118 C)))
def w_X8_leadersNow_0 (M : CT) (G : Nat → PT) (Rp : RT) : PT := tConst 0 <| tIstore 1 <| tConst 0 <| tIstore 2 <| G 4
def w_X8_leadersNow_4 (M : CT) (G : Nat → PT) (Rp : RT) : PT := tIload 2 <| tConst 5 <| tIf2 (fun x y => y ≤ x) (G 34) <| tAload 0 <| tGetR 10 6 0 <| tIload 2 <| tAldR 37 <| tGetI 7 18 4 <| tConst 2 <| tIf2 (fun x y => x ≠ y) (G 28) <| tIload 1 <| tConst 1 <| tIload 2 <| tBin (fun x y => x <<< (y &&& 31)) <| tBin (fun x y => x ||| y) <| tIstore 1 <| G 28
def w_X8_leadersNow_28 (M : CT) (G : Nat → PT) (Rp : RT) : PT := tIinc 2 1 <| tGoto (G 4)
def w_X8_leadersNow_34 (M : CT) (G : Nat → PT) (Rp : RT) : PT := tIload 1 <| tIret Rp
set_option maxRecDepth 20000 in
theorem b_X8_leadersNow_0 {Z : Zt} {d : Nat} {p : Program} {e : Env} {R : Room} {s : State} {m : MethodId} {args : Array Value} {below : List Frame} {meth : Method} {c : Code} {Rp : RT} (C : Cx Z d jX8_leadersNow RX8 p R s m args meth c) : Sd Z jX8_leadersNow p e R s m args below meth c (MQ below (QcS Z Rp) args s 0 0 (fun a => Z.2.2.1 < a)) 0 (w_X8_leadersNow_0 (MS Z d) (Gw Z 3 p e R s m args below meth c (MQ below (QcS Z Rp) args s 0 0 (fun a => Z.2.2.1 < a))) Rp) := by
  unfold w_X8_leadersNow_0
  refine s_iconst (n := 0) C (by decide +kernel) (by decide) ?_
  refine s_istore_n (k := 1) C (by decide +kernel) ?_
  refine s_iconst (n := 0) C (by decide +kernel) (by decide) ?_
  refine s_istore_n (k := 2) C (by decide +kernel) ?_
  exact (fun _ _ _ _ _ _ h => h)
set_option maxRecDepth 20000 in
theorem b_X8_leadersNow_4 {Z : Zt} {d : Nat} {p : Program} {e : Env} {R : Room} {s : State} {m : MethodId} {args : Array Value} {below : List Frame} {meth : Method} {c : Code} {Rp : RT} (C : Cx Z d jX8_leadersNow RX8 p R s m args meth c) : Sd Z jX8_leadersNow p e R s m args below meth c (MQ below (QcS Z Rp) args s 0 0 (fun a => Z.2.2.1 < a)) 4 (w_X8_leadersNow_4 (MS Z d) (Gw Z 3 p e R s m args below meth c (MQ below (QcS Z Rp) args s 0 0 (fun a => Z.2.2.1 < a))) Rp) := by
  unfold w_X8_leadersNow_4
  refine s_iload_n (k := 2) C (by decide +kernel) ?_
  refine s_iconst (n := 5) C (by decide +kernel) (by decide) ?_
  refine s_icmp_ge (off := 28) (tgt := 34) C (by decide +kernel) (by decide) (fun _ _ _ _ _ _ h => h) ?_
  refine s_aload_n (k := 0) C (by decide +kernel) ?_
  refine s_getR C w_2_114 (by decide +kernel) rfl ?_
  refine s_iload_n (k := 2) C (by decide +kernel) ?_
  refine s_aald C rfl (by decide +kernel) ?_
  refine s_getI C w_1_232 (by decide +kernel) rfl ?_
  refine s_iconst (n := 2) C (by decide +kernel) (by decide) ?_
  refine s_icmp_ne (off := 9) (tgt := 28) C (by decide +kernel) (by decide) (fun _ _ _ _ _ _ h => h) ?_
  refine s_iload_n (k := 1) C (by decide +kernel) ?_
  refine s_iconst (n := 1) C (by decide +kernel) (by decide) ?_
  refine s_iload_n (k := 2) C (by decide +kernel) ?_
  refine s_ishl C (by decide +kernel) ?_
  refine s_ior C (by decide +kernel) ?_
  refine s_istore_n (k := 1) C (by decide +kernel) ?_
  exact (fun _ _ _ _ _ _ h => h)
set_option maxRecDepth 20000 in
theorem b_X8_leadersNow_28 {Z : Zt} {d : Nat} {p : Program} {e : Env} {R : Room} {s : State} {m : MethodId} {args : Array Value} {below : List Frame} {meth : Method} {c : Code} {Rp : RT} (C : Cx Z d jX8_leadersNow RX8 p R s m args meth c) : Sd Z jX8_leadersNow p e R s m args below meth c (MQ below (QcS Z Rp) args s 0 0 (fun a => Z.2.2.1 < a)) 28 (w_X8_leadersNow_28 (MS Z d) (Gw Z 3 p e R s m args below meth c (MQ below (QcS Z Rp) args s 0 0 (fun a => Z.2.2.1 < a))) Rp) := by
  unfold w_X8_leadersNow_28
  refine s_iinc (n := 1) C (by decide +kernel) (by decide) ?_
  exact s_goto (off := (-27)) (tgt := 4) C (by decide +kernel) (by decide) (fun _ _ _ _ _ _ h => h)
set_option maxRecDepth 20000 in
theorem b_X8_leadersNow_34 {Z : Zt} {d : Nat} {p : Program} {e : Env} {R : Room} {s : State} {m : MethodId} {args : Array Value} {below : List Frame} {meth : Method} {c : Code} {Rp : RT} (C : Cx Z d jX8_leadersNow RX8 p R s m args meth c) : Sd Z jX8_leadersNow p e R s m args below meth c (MQ below (QcS Z Rp) args s 0 0 (fun a => Z.2.2.1 < a)) 34 (w_X8_leadersNow_34 (MS Z d) (Gw Z 3 p e R s m args below meth c (MQ below (QcS Z Rp) args s 0 0 (fun a => Z.2.2.1 < a))) Rp) := by
  unfold w_X8_leadersNow_34
  refine s_iload_n (k := 1) C (by decide +kernel) ?_
  exact s_iret C rfl (by decide +kernel)
theorem ms_X8_leadersNow {Z : Zt} {d : Nat} {S : Sh} {μ : Mi} {ρ : Mr} {Rp : RT} (a1 : Nat) (h : ∀ G : Nat → PT, (∀ (L st : List Value) (S : Sh) (q : Nat × Nat) (μ : Mi) (ρ : Mr), w_X8_leadersNow_4 (MS Z d) G Rp L st S q μ ρ → G 4 L st S q μ ρ) → (∀ (L st : List Value) (S : Sh) (q : Nat × Nat) (μ : Mi) (ρ : Mr), w_X8_leadersNow_28 (MS Z d) G Rp L st S q μ ρ → G 28 L st S q μ ρ) → (∀ (L st : List Value) (S : Sh) (q : Nat × Nat) (μ : Mi) (ρ : Mr), w_X8_leadersNow_34 (MS Z d) G Rp L st S q μ ρ → G 34 L st S q μ ρ) → w_X8_leadersNow_0 (MS Z d) G Rp [.ref a1, .null, .null] [] S (0, 0) μ ρ) : MS Z (d + 1) jX8_leadersNow [.ref a1] S μ ρ Rp :=
  MS_of [.ref a1, .null, .null] (by decide +kernel) rfl rfl (Nat.le_of_ble_eq_true rfl) rfl (fun p e R s m args below meth c C => b_X8_leadersNow_0 C _ _ _ _ _ _ (h _ (b_X8_leadersNow_4 C) (b_X8_leadersNow_28 C) (b_X8_leadersNow_34 C)))
def w_X8_greatestTerm_0 (M : CT) (G : Nat → PT) (Rp : RT) : PT := tConst 0 <| tIstore 1 <| tConst 0 <| tIstore 2 <| G 4
def w_X8_greatestTerm_4 (M : CT) (G : Nat → PT) (Rp : RT) : PT := tIload 2 <| tConst 5 <| tIf2 (fun x y => y ≤ x) (G 29) <| tIload 1 <| tAload 0 <| tGetR 10 6 0 <| tIload 2 <| tAldR 37 <| tGetI 7 18 2 <| tMax <| tIstore 1 <| tIinc 2 1 <| tGoto (G 4)
def w_X8_greatestTerm_29 (M : CT) (G : Nat → PT) (Rp : RT) : PT := tIload 1 <| tIret Rp
set_option maxRecDepth 20000 in
theorem b_X8_greatestTerm_0 {Z : Zt} {d : Nat} {p : Program} {e : Env} {R : Room} {s : State} {m : MethodId} {args : Array Value} {below : List Frame} {meth : Method} {c : Code} {Rp : RT} (C : Cx Z d jX8_greatestTerm RX8 p R s m args meth c) : Sd Z jX8_greatestTerm p e R s m args below meth c (MQ below (QcS Z Rp) args s 0 0 (fun a => Z.2.2.1 < a)) 0 (w_X8_greatestTerm_0 (MS Z d) (Gw Z 3 p e R s m args below meth c (MQ below (QcS Z Rp) args s 0 0 (fun a => Z.2.2.1 < a))) Rp) := by
  unfold w_X8_greatestTerm_0
  refine s_iconst (n := 0) C (by decide +kernel) (by decide) ?_
  refine s_istore_n (k := 1) C (by decide +kernel) ?_
  refine s_iconst (n := 0) C (by decide +kernel) (by decide) ?_
  refine s_istore_n (k := 2) C (by decide +kernel) ?_
  exact (fun _ _ _ _ _ _ h => h)
set_option maxRecDepth 20000 in
theorem b_X8_greatestTerm_4 {Z : Zt} {d : Nat} {p : Program} {e : Env} {R : Room} {s : State} {m : MethodId} {args : Array Value} {below : List Frame} {meth : Method} {c : Code} {Rp : RT} (C : Cx Z d jX8_greatestTerm RX8 p R s m args meth c) : Sd Z jX8_greatestTerm p e R s m args below meth c (MQ below (QcS Z Rp) args s 0 0 (fun a => Z.2.2.1 < a)) 4 (w_X8_greatestTerm_4 (MS Z d) (Gw Z 3 p e R s m args below meth c (MQ below (QcS Z Rp) args s 0 0 (fun a => Z.2.2.1 < a))) Rp) := by
  unfold w_X8_greatestTerm_4
  refine s_iload_n (k := 2) C (by decide +kernel) ?_
  refine s_iconst (n := 5) C (by decide +kernel) (by decide) ?_
  refine s_icmp_ge (off := 23) (tgt := 29) C (by decide +kernel) (by decide) (fun _ _ _ _ _ _ h => h) ?_
  refine s_iload_n (k := 1) C (by decide +kernel) ?_
  refine s_aload_n (k := 0) C (by decide +kernel) ?_
  refine s_getR C w_2_114 (by decide +kernel) rfl ?_
  refine s_iload_n (k := 2) C (by decide +kernel) ?_
  refine s_aald C rfl (by decide +kernel) ?_
  refine s_getI C w_1_226 (by decide +kernel) rfl ?_
  refine s_max C w_5_150 w_3_168 w_1_16 w_max (by decide +kernel) ?_
  refine s_istore_n (k := 1) C (by decide +kernel) ?_
  refine s_iinc (n := 1) C (by decide +kernel) (by decide) ?_
  exact s_goto (off := (-22)) (tgt := 4) C (by decide +kernel) (by decide) (fun _ _ _ _ _ _ h => h)
set_option maxRecDepth 20000 in
theorem b_X8_greatestTerm_29 {Z : Zt} {d : Nat} {p : Program} {e : Env} {R : Room} {s : State} {m : MethodId} {args : Array Value} {below : List Frame} {meth : Method} {c : Code} {Rp : RT} (C : Cx Z d jX8_greatestTerm RX8 p R s m args meth c) : Sd Z jX8_greatestTerm p e R s m args below meth c (MQ below (QcS Z Rp) args s 0 0 (fun a => Z.2.2.1 < a)) 29 (w_X8_greatestTerm_29 (MS Z d) (Gw Z 3 p e R s m args below meth c (MQ below (QcS Z Rp) args s 0 0 (fun a => Z.2.2.1 < a))) Rp) := by
  unfold w_X8_greatestTerm_29
  refine s_iload_n (k := 1) C (by decide +kernel) ?_
  exact s_iret C rfl (by decide +kernel)
theorem ms_X8_greatestTerm {Z : Zt} {d : Nat} {S : Sh} {μ : Mi} {ρ : Mr} {Rp : RT} (a1 : Nat) (h : ∀ G : Nat → PT, (∀ (L st : List Value) (S : Sh) (q : Nat × Nat) (μ : Mi) (ρ : Mr), w_X8_greatestTerm_4 (MS Z d) G Rp L st S q μ ρ → G 4 L st S q μ ρ) → (∀ (L st : List Value) (S : Sh) (q : Nat × Nat) (μ : Mi) (ρ : Mr), w_X8_greatestTerm_29 (MS Z d) G Rp L st S q μ ρ → G 29 L st S q μ ρ) → w_X8_greatestTerm_0 (MS Z d) G Rp [.ref a1, .null, .null] [] S (0, 0) μ ρ) : MS Z (d + 1) jX8_greatestTerm [.ref a1] S μ ρ Rp :=
  MS_of [.ref a1, .null, .null] (by decide +kernel) rfl rfl (Nat.le_of_ble_eq_true rfl) rfl (fun p e R s m args below meth c C => b_X8_greatestTerm_0 C _ _ _ _ _ _ (h _ (b_X8_greatestTerm_4 C) (b_X8_greatestTerm_29 C)))
def w_X8_greatestAgreed_0 (M : CT) (G : Nat → PT) (Rp : RT) : PT := tConst 0 <| tIstore 1 <| tConst 0 <| tIstore 2 <| G 4
def w_X8_greatestAgreed_4 (M : CT) (G : Nat → PT) (Rp : RT) : PT := tIload 2 <| tConst 5 <| tIf2 (fun x y => y ≤ x) (G 29) <| tIload 1 <| tAload 0 <| tGetR 10 6 0 <| tIload 2 <| tAldR 37 <| tGetI 7 18 8 <| tMax <| tIstore 1 <| tIinc 2 1 <| tGoto (G 4)
def w_X8_greatestAgreed_29 (M : CT) (G : Nat → PT) (Rp : RT) : PT := tIload 1 <| tIret Rp
set_option maxRecDepth 20000 in
theorem b_X8_greatestAgreed_0 {Z : Zt} {d : Nat} {p : Program} {e : Env} {R : Room} {s : State} {m : MethodId} {args : Array Value} {below : List Frame} {meth : Method} {c : Code} {Rp : RT} (C : Cx Z d jX8_greatestAgreed RX8 p R s m args meth c) : Sd Z jX8_greatestAgreed p e R s m args below meth c (MQ below (QcS Z Rp) args s 0 0 (fun a => Z.2.2.1 < a)) 0 (w_X8_greatestAgreed_0 (MS Z d) (Gw Z 3 p e R s m args below meth c (MQ below (QcS Z Rp) args s 0 0 (fun a => Z.2.2.1 < a))) Rp) := by
  unfold w_X8_greatestAgreed_0
  refine s_iconst (n := 0) C (by decide +kernel) (by decide) ?_
  refine s_istore_n (k := 1) C (by decide +kernel) ?_
  refine s_iconst (n := 0) C (by decide +kernel) (by decide) ?_
  refine s_istore_n (k := 2) C (by decide +kernel) ?_
  exact (fun _ _ _ _ _ _ h => h)
set_option maxRecDepth 20000 in
theorem b_X8_greatestAgreed_4 {Z : Zt} {d : Nat} {p : Program} {e : Env} {R : Room} {s : State} {m : MethodId} {args : Array Value} {below : List Frame} {meth : Method} {c : Code} {Rp : RT} (C : Cx Z d jX8_greatestAgreed RX8 p R s m args meth c) : Sd Z jX8_greatestAgreed p e R s m args below meth c (MQ below (QcS Z Rp) args s 0 0 (fun a => Z.2.2.1 < a)) 4 (w_X8_greatestAgreed_4 (MS Z d) (Gw Z 3 p e R s m args below meth c (MQ below (QcS Z Rp) args s 0 0 (fun a => Z.2.2.1 < a))) Rp) := by
  unfold w_X8_greatestAgreed_4
  refine s_iload_n (k := 2) C (by decide +kernel) ?_
  refine s_iconst (n := 5) C (by decide +kernel) (by decide) ?_
  refine s_icmp_ge (off := 23) (tgt := 29) C (by decide +kernel) (by decide) (fun _ _ _ _ _ _ h => h) ?_
  refine s_iload_n (k := 1) C (by decide +kernel) ?_
  refine s_aload_n (k := 0) C (by decide +kernel) ?_
  refine s_getR C w_2_114 (by decide +kernel) rfl ?_
  refine s_iload_n (k := 2) C (by decide +kernel) ?_
  refine s_aald C rfl (by decide +kernel) ?_
  refine s_getI C w_2_7 (by decide +kernel) rfl ?_
  refine s_max C w_5_150 w_3_168 w_1_16 w_max (by decide +kernel) ?_
  refine s_istore_n (k := 1) C (by decide +kernel) ?_
  refine s_iinc (n := 1) C (by decide +kernel) (by decide) ?_
  exact s_goto (off := (-22)) (tgt := 4) C (by decide +kernel) (by decide) (fun _ _ _ _ _ _ h => h)
set_option maxRecDepth 20000 in
theorem b_X8_greatestAgreed_29 {Z : Zt} {d : Nat} {p : Program} {e : Env} {R : Room} {s : State} {m : MethodId} {args : Array Value} {below : List Frame} {meth : Method} {c : Code} {Rp : RT} (C : Cx Z d jX8_greatestAgreed RX8 p R s m args meth c) : Sd Z jX8_greatestAgreed p e R s m args below meth c (MQ below (QcS Z Rp) args s 0 0 (fun a => Z.2.2.1 < a)) 29 (w_X8_greatestAgreed_29 (MS Z d) (Gw Z 3 p e R s m args below meth c (MQ below (QcS Z Rp) args s 0 0 (fun a => Z.2.2.1 < a))) Rp) := by
  unfold w_X8_greatestAgreed_29
  refine s_iload_n (k := 1) C (by decide +kernel) ?_
  exact s_iret C rfl (by decide +kernel)
theorem ms_X8_greatestAgreed {Z : Zt} {d : Nat} {S : Sh} {μ : Mi} {ρ : Mr} {Rp : RT} (a1 : Nat) (h : ∀ G : Nat → PT, (∀ (L st : List Value) (S : Sh) (q : Nat × Nat) (μ : Mi) (ρ : Mr), w_X8_greatestAgreed_4 (MS Z d) G Rp L st S q μ ρ → G 4 L st S q μ ρ) → (∀ (L st : List Value) (S : Sh) (q : Nat × Nat) (μ : Mi) (ρ : Mr), w_X8_greatestAgreed_29 (MS Z d) G Rp L st S q μ ρ → G 29 L st S q μ ρ) → w_X8_greatestAgreed_0 (MS Z d) G Rp [.ref a1, .null, .null] [] S (0, 0) μ ρ) : MS Z (d + 1) jX8_greatestAgreed [.ref a1] S μ ρ Rp :=
  MS_of [.ref a1, .null, .null] (by decide +kernel) rfl rfl (Nat.le_of_ble_eq_true rfl) rfl (fun p e R s m args below meth c C => b_X8_greatestAgreed_0 C _ _ _ _ _ _ (h _ (b_X8_greatestAgreed_4 C) (b_X8_greatestAgreed_29 C)))
def w_X3_init_0 (M : CT) (G : Nat → PT) (Rp : RT) : PT := tAload 0 <| tObjI <| tAload 0 <| tConst 3 <| tAnew 10 681 8891 <| tPutR 3 2 0 <| tAload 0 <| tNew 10 6 681 8891 <| tDup <| tCallI M jX10_init 0 681 8891 <| tPutR 3 2 1 <| tConst 0 <| tIstore 1 <| G 25
def w_X3_init_25 (M : CT) (G : Nat → PT) (Rp : RT) : PT := tIload 1 <| tConst 3 <| tIf2 (fun x y => y ≤ x) (G 49) <| tAload 0 <| tGetR 3 2 0 <| tIload 1 <| tNew 10 6 681 8891 <| tDup <| tCallI M jX10_init 0 681 8891 <| tAast 10 <| tIinc 1 1 <| tGoto (G 25)
def w_X3_init_49 (M : CT) (G : Nat → PT) (Rp : RT) : PT := tVret Rp
set_option maxRecDepth 20000 in
theorem b_X3_init_0 {Z : Zt} {d : Nat} {p : Program} {e : Env} {R : Room} {s : State} {m : MethodId} {args : Array Value} {below : List Frame} {meth : Method} {c : Code} {Rp : RT} (C : Cx Z d jX3_init RX3 p R s m args meth c) : Sd Z jX3_init p e R s m args below meth c (MQ below (QcS Z Rp) args s 681 8891 (fun a => Z.2.2.1 < a)) 0 (w_X3_init_0 (MS Z d) (Gw Z 2 p e R s m args below meth c (MQ below (QcS Z Rp) args s 681 8891 (fun a => Z.2.2.1 < a))) Rp) := by
  unfold w_X3_init_0
  refine s_aload_n (k := 0) C (by decide +kernel) ?_
  refine s_objI C w_2_149 w_1_28 w_1_29 (by decide +kernel) ?_
  refine s_aload_n (k := 0) C (by decide +kernel) ?_
  refine s_iconst (n := 3) C (by decide +kernel) (by decide) ?_
  refine s_anew C rfl w_2_150 w_2_143 (by decide +kernel) ?_
  refine s_putR C w_2_152 (by decide +kernel) rfl (Or.inr ⟨rfl, rfl, rfl⟩) ?_
  refine s_aload_n (k := 0) C (by decide +kernel) ?_
  refine s_new C rfl w_2_150 w_1_31 w_1_2 (by decide +kernel) ?_
  refine s_dup C (by decide +kernel) ?_
  refine s_callI C (by decide +kernel) ⟨rfl, rfl⟩ w_2_151 w_1_33 w_1_2 w_1_34 (by decide +kernel) ?_
  refine s_putR C w_2_153 (by decide +kernel) rfl (Or.inr ⟨rfl, rfl, rfl⟩) ?_
  refine s_iconst (n := 0) C (by decide +kernel) (by decide) ?_
  refine s_istore_n (k := 1) C (by decide +kernel) ?_
  exact (fun _ _ _ _ _ _ h => h)
set_option maxRecDepth 20000 in
theorem b_X3_init_25 {Z : Zt} {d : Nat} {p : Program} {e : Env} {R : Room} {s : State} {m : MethodId} {args : Array Value} {below : List Frame} {meth : Method} {c : Code} {Rp : RT} (C : Cx Z d jX3_init RX3 p R s m args meth c) : Sd Z jX3_init p e R s m args below meth c (MQ below (QcS Z Rp) args s 681 8891 (fun a => Z.2.2.1 < a)) 25 (w_X3_init_25 (MS Z d) (Gw Z 2 p e R s m args below meth c (MQ below (QcS Z Rp) args s 681 8891 (fun a => Z.2.2.1 < a))) Rp) := by
  unfold w_X3_init_25
  refine s_iload_n (k := 1) C (by decide +kernel) ?_
  refine s_iconst (n := 3) C (by decide +kernel) (by decide) ?_
  refine s_icmp_ge (off := 22) (tgt := 49) C (by decide +kernel) (by decide) (fun _ _ _ _ _ _ h => h) ?_
  refine s_aload_n (k := 0) C (by decide +kernel) ?_
  refine s_getR C w_2_152 (by decide +kernel) rfl ?_
  refine s_iload_n (k := 1) C (by decide +kernel) ?_
  refine s_new C rfl w_2_150 w_1_31 w_1_2 (by decide +kernel) ?_
  refine s_dup C (by decide +kernel) ?_
  refine s_callI C (by decide +kernel) ⟨rfl, rfl⟩ w_2_151 w_1_33 w_1_2 w_1_34 (by decide +kernel) ?_
  refine s_aast C rfl (by decide +kernel) ?_
  refine s_iinc (n := 1) C (by decide +kernel) (by decide) ?_
  exact s_goto (off := (-21)) (tgt := 25) C (by decide +kernel) (by decide) (fun _ _ _ _ _ _ h => h)
set_option maxRecDepth 20000 in
theorem b_X3_init_49 {Z : Zt} {d : Nat} {p : Program} {e : Env} {R : Room} {s : State} {m : MethodId} {args : Array Value} {below : List Frame} {meth : Method} {c : Code} {Rp : RT} (C : Cx Z d jX3_init RX3 p R s m args meth c) : Sd Z jX3_init p e R s m args below meth c (MQ below (QcS Z Rp) args s 681 8891 (fun a => Z.2.2.1 < a)) 49 (w_X3_init_49 (MS Z d) (Gw Z 2 p e R s m args below meth c (MQ below (QcS Z Rp) args s 681 8891 (fun a => Z.2.2.1 < a))) Rp) := by
  unfold w_X3_init_49
  exact s_vret C rfl (by decide +kernel)
theorem ms_X3_init {Z : Zt} {d : Nat} {S : Sh} {μ : Mi} {ρ : Mr} {Rp : RT} (a0 : Nat) (h : ∀ G : Nat → PT, (∀ (L st : List Value) (S : Sh) (q : Nat × Nat) (μ : Mi) (ρ : Mr), w_X3_init_25 (MS Z d) G Rp L st S q μ ρ → G 25 L st S q μ ρ) → (∀ (L st : List Value) (S : Sh) (q : Nat × Nat) (μ : Mi) (ρ : Mr), w_X3_init_49 (MS Z d) G Rp L st S q μ ρ → G 49 L st S q μ ρ) → w_X3_init_0 (MS Z d) G Rp [.ref a0, .null] [] S (0, 0) μ ρ) : MS Z (d + 1) jX3_init [.ref a0] S μ ρ Rp :=
  MS_of [.ref a0, .null] (by decide +kernel) rfl rfl (Nat.le_of_ble_eq_true rfl) rfl (fun p e R s m args below meth c C => b_X3_init_0 C _ _ _ _ _ _ (h _ (b_X3_init_25 C) (b_X3_init_49 C)))
def w_X3_drain_0 (M : CT) (G : Nat → PT) (Rp : RT) : PT := tConst 0 <| tIstore 1 <| G 2
def w_X3_drain_2 (M : CT) (G : Nat → PT) (Rp : RT) : PT := tIload 1 <| tConst 300 <| tIf2 (fun x y => y ≤ x) (G 31) <| tAload 0 <| tGetR 10 6 1 <| tGetI 1 6 2 <| tIf (fun x => x ≤ 0) (G 31) <| tAload 0 <| tConst 0 <| tCallV M jX10_takeIn 10 6 1 <| tPop <| tIinc 1 1 <| tGoto (G 2)
def w_X3_drain_31 (M : CT) (G : Nat → PT) (Rp : RT) : PT := tIload 1 <| tIret Rp
set_option maxRecDepth 20000 in
theorem b_X3_drain_0 {Z : Zt} {d : Nat} {p : Program} {e : Env} {R : Room} {s : State} {m : MethodId} {args : Array Value} {below : List Frame} {meth : Method} {c : Code} {Rp : RT} (C : Cx Z d jX3_drain RX3 p R s m args meth c) : Sd Z jX3_drain p e R s m args below meth c (MQ below (QcS Z Rp) args s 0 0 (fun a => Z.2.2.1 < a)) 0 (w_X3_drain_0 (MS Z d) (Gw Z 2 p e R s m args below meth c (MQ below (QcS Z Rp) args s 0 0 (fun a => Z.2.2.1 < a))) Rp) := by
  unfold w_X3_drain_0
  refine s_iconst (n := 0) C (by decide +kernel) (by decide) ?_
  refine s_istore_n (k := 1) C (by decide +kernel) ?_
  exact (fun _ _ _ _ _ _ h => h)
set_option maxRecDepth 20000 in
theorem b_X3_drain_2 {Z : Zt} {d : Nat} {p : Program} {e : Env} {R : Room} {s : State} {m : MethodId} {args : Array Value} {below : List Frame} {meth : Method} {c : Code} {Rp : RT} (C : Cx Z d jX3_drain RX3 p R s m args meth c) : Sd Z jX3_drain p e R s m args below meth c (MQ below (QcS Z Rp) args s 0 0 (fun a => Z.2.2.1 < a)) 2 (w_X3_drain_2 (MS Z d) (Gw Z 2 p e R s m args below meth c (MQ below (QcS Z Rp) args s 0 0 (fun a => Z.2.2.1 < a))) Rp) := by
  unfold w_X3_drain_2
  refine s_iload_n (k := 1) C (by decide +kernel) ?_
  refine s_sipush (n := 300) C (by decide +kernel) (by decide) ?_
  refine s_icmp_ge (off := 25) (tgt := 31) C (by decide +kernel) (by decide) (fun _ _ _ _ _ _ h => h) ?_
  refine s_aload_n (k := 0) C (by decide +kernel) ?_
  refine s_getR C w_2_118 (by decide +kernel) rfl ?_
  refine s_getI C w_1_124 (by decide +kernel) rfl ?_
  refine s_if_le (off := 15) (tgt := 31) C (by decide +kernel) (by decide) (fun _ _ _ _ _ _ h => h) ?_
  refine s_aload_n (k := 0) C (by decide +kernel) ?_
  refine s_iconst (n := 0) C (by decide +kernel) (by decide) ?_
  refine s_callV C rfl rfl (by decide +kernel) rfl w_5_219 w_4_68 w_4_69 w_1_2 w_4_70 (by decide +kernel) ?_
  refine s_pop C (by decide +kernel) ?_
  refine s_iinc (n := 1) C (by decide +kernel) (by decide) ?_
  exact s_goto (off := (-26)) (tgt := 2) C (by decide +kernel) (by decide) (fun _ _ _ _ _ _ h => h)
set_option maxRecDepth 20000 in
theorem b_X3_drain_31 {Z : Zt} {d : Nat} {p : Program} {e : Env} {R : Room} {s : State} {m : MethodId} {args : Array Value} {below : List Frame} {meth : Method} {c : Code} {Rp : RT} (C : Cx Z d jX3_drain RX3 p R s m args meth c) : Sd Z jX3_drain p e R s m args below meth c (MQ below (QcS Z Rp) args s 0 0 (fun a => Z.2.2.1 < a)) 31 (w_X3_drain_31 (MS Z d) (Gw Z 2 p e R s m args below meth c (MQ below (QcS Z Rp) args s 0 0 (fun a => Z.2.2.1 < a))) Rp) := by
  unfold w_X3_drain_31
  refine s_iload_n (k := 1) C (by decide +kernel) ?_
  exact s_iret C rfl (by decide +kernel)
theorem ms_X3_drain {Z : Zt} {d : Nat} {S : Sh} {μ : Mi} {ρ : Mr} {Rp : RT} (a1 : Nat) (h : ∀ G : Nat → PT, (∀ (L st : List Value) (S : Sh) (q : Nat × Nat) (μ : Mi) (ρ : Mr), w_X3_drain_2 (MS Z d) G Rp L st S q μ ρ → G 2 L st S q μ ρ) → (∀ (L st : List Value) (S : Sh) (q : Nat × Nat) (μ : Mi) (ρ : Mr), w_X3_drain_31 (MS Z d) G Rp L st S q μ ρ → G 31 L st S q μ ρ) → w_X3_drain_0 (MS Z d) G Rp [.ref a1, .null] [] S (0, 0) μ ρ) : MS Z (d + 1) jX3_drain [.ref a1] S μ ρ Rp :=
  MS_of [.ref a1, .null] (by decide +kernel) rfl rfl (Nat.le_of_ble_eq_true rfl) rfl (fun p e R s m args below meth c C => b_X3_drain_0 C _ _ _ _ _ _ (h _ (b_X3_drain_2 C) (b_X3_drain_31 C)))
def w_X3_wouldWin_0 (M : CT) (G : Nat → PT) (Rp : RT) : PT := tAload 0 <| tGetR 3 2 1 <| tAload 1 <| tCallV M jX10_copyFrom 10 6 1 <| tAload 0 <| tGetR 3 2 1 <| tCallS M jX3_drain 1 <| tPop <| tAload 0 <| tGetR 3 2 1 <| tIload 2 <| tCallV M jX10_canTimeOut 10 6 1 <| tIf (fun x => x ≠ 0) (G 29) <| tConst (-1) <| tIret Rp
def w_X3_wouldWin_29 (M : CT) (G : Nat → PT) (Rp : RT) : PT := tAload 0 <| tGetR 3 2 1 <| tIload 2 <| tCallV M jX10_timesOut 10 6 1 <| tPop <| tAload 0 <| tGetR 3 2 1 <| tCallS M jX3_drain 1 <| tPop <| tAload 0 <| tGetR 3 2 1 <| tGetR 10 6 0 <| tIload 2 <| tAldR 37 <| tGetI 7 18 4 <| tConst 2 <| tIf2 (fun x y => x ≠ y) (G 66) <| tConst 1 <| tGoto (G 67)
def w_X3_wouldWin_66 (M : CT) (G : Nat → PT) (Rp : RT) : PT := tConst 0 <| G 67
def w_X3_wouldWin_67 (M : CT) (G : Nat → PT) (Rp : RT) : PT := tIret Rp
set_option maxRecDepth 20000 in
theorem b_X3_wouldWin_0 {Z : Zt} {d : Nat} {p : Program} {e : Env} {R : Room} {s : State} {m : MethodId} {args : Array Value} {below : List Frame} {meth : Method} {c : Code} {Rp : RT} (C : Cx Z d jX3_wouldWin RX3 p R s m args meth c) : Sd Z jX3_wouldWin p e R s m args below meth c (MQ below (QcS Z Rp) args s 0 0 (fun a => Z.2.2.1 < a)) 0 (w_X3_wouldWin_0 (MS Z d) (Gw Z 3 p e R s m args below meth c (MQ below (QcS Z Rp) args s 0 0 (fun a => Z.2.2.1 < a))) Rp) := by
  unfold w_X3_wouldWin_0
  refine s_aload_n (k := 0) C (by decide +kernel) ?_
  refine s_getR C w_2_153 (by decide +kernel) rfl ?_
  refine s_aload_n (k := 1) C (by decide +kernel) ?_
  refine s_callV C rfl rfl (by decide +kernel) rfl w_5_215 w_3_37 w_3_38 w_1_2 w_3_39 (by decide +kernel) ?_
  refine s_aload_n (k := 0) C (by decide +kernel) ?_
  refine s_getR C w_2_153 (by decide +kernel) rfl ?_
  refine s_callS C (by decide +kernel) rfl w_5_216 w_5_217 w_1_10 w_5_218 (by decide +kernel) ?_
  refine s_pop C (by decide +kernel) ?_
  refine s_aload_n (k := 0) C (by decide +kernel) ?_
  refine s_getR C w_2_153 (by decide +kernel) rfl ?_
  refine s_iload_n (k := 2) C (by decide +kernel) ?_
  refine s_callV C rfl rfl (by decide +kernel) rfl w_5_220 w_3_106 w_3_107 w_1_2 w_3_108 (by decide +kernel) ?_
  refine s_if_ne (off := 5) (tgt := 29) C (by decide +kernel) (by decide) (fun _ _ _ _ _ _ h => h) ?_
  refine s_iconst (n := (-1)) C (by decide +kernel) (by decide) ?_
  exact s_iret C rfl (by decide +kernel)
set_option maxRecDepth 20000 in
theorem b_X3_wouldWin_29 {Z : Zt} {d : Nat} {p : Program} {e : Env} {R : Room} {s : State} {m : MethodId} {args : Array Value} {below : List Frame} {meth : Method} {c : Code} {Rp : RT} (C : Cx Z d jX3_wouldWin RX3 p R s m args meth c) : Sd Z jX3_wouldWin p e R s m args below meth c (MQ below (QcS Z Rp) args s 0 0 (fun a => Z.2.2.1 < a)) 29 (w_X3_wouldWin_29 (MS Z d) (Gw Z 3 p e R s m args below meth c (MQ below (QcS Z Rp) args s 0 0 (fun a => Z.2.2.1 < a))) Rp) := by
  unfold w_X3_wouldWin_29
  refine s_aload_n (k := 0) C (by decide +kernel) ?_
  refine s_getR C w_2_153 (by decide +kernel) rfl ?_
  refine s_iload_n (k := 2) C (by decide +kernel) ?_
  refine s_callV C rfl rfl (by decide +kernel) rfl w_5_221 w_3_99 w_3_100 w_1_2 w_3_101 (by decide +kernel) ?_
  refine s_pop C (by decide +kernel) ?_
  refine s_aload_n (k := 0) C (by decide +kernel) ?_
  refine s_getR C w_2_153 (by decide +kernel) rfl ?_
  refine s_callS C (by decide +kernel) rfl w_5_216 w_5_217 w_1_10 w_5_218 (by decide +kernel) ?_
  refine s_pop C (by decide +kernel) ?_
  refine s_aload_n (k := 0) C (by decide +kernel) ?_
  refine s_getR C w_2_153 (by decide +kernel) rfl ?_
  refine s_getR C w_2_115 (by decide +kernel) rfl ?_
  refine s_iload_n (k := 2) C (by decide +kernel) ?_
  refine s_aald C rfl (by decide +kernel) ?_
  refine s_getI C w_1_233 (by decide +kernel) rfl ?_
  refine s_iconst (n := 2) C (by decide +kernel) (by decide) ?_
  refine s_icmp_ne (off := 7) (tgt := 66) C (by decide +kernel) (by decide) (fun _ _ _ _ _ _ h => h) ?_
  refine s_iconst (n := 1) C (by decide +kernel) (by decide) ?_
  exact s_goto (off := 4) (tgt := 67) C (by decide +kernel) (by decide) (fun _ _ _ _ _ _ h => h)
set_option maxRecDepth 20000 in
theorem b_X3_wouldWin_66 {Z : Zt} {d : Nat} {p : Program} {e : Env} {R : Room} {s : State} {m : MethodId} {args : Array Value} {below : List Frame} {meth : Method} {c : Code} {Rp : RT} (C : Cx Z d jX3_wouldWin RX3 p R s m args meth c) : Sd Z jX3_wouldWin p e R s m args below meth c (MQ below (QcS Z Rp) args s 0 0 (fun a => Z.2.2.1 < a)) 66 (w_X3_wouldWin_66 (MS Z d) (Gw Z 3 p e R s m args below meth c (MQ below (QcS Z Rp) args s 0 0 (fun a => Z.2.2.1 < a))) Rp) := by
  unfold w_X3_wouldWin_66
  refine s_iconst (n := 0) C (by decide +kernel) (by decide) ?_
  exact (fun _ _ _ _ _ _ h => h)
set_option maxRecDepth 20000 in
theorem b_X3_wouldWin_67 {Z : Zt} {d : Nat} {p : Program} {e : Env} {R : Room} {s : State} {m : MethodId} {args : Array Value} {below : List Frame} {meth : Method} {c : Code} {Rp : RT} (C : Cx Z d jX3_wouldWin RX3 p R s m args meth c) : Sd Z jX3_wouldWin p e R s m args below meth c (MQ below (QcS Z Rp) args s 0 0 (fun a => Z.2.2.1 < a)) 67 (w_X3_wouldWin_67 (MS Z d) (Gw Z 3 p e R s m args below meth c (MQ below (QcS Z Rp) args s 0 0 (fun a => Z.2.2.1 < a))) Rp) := by
  unfold w_X3_wouldWin_67
  exact s_iret C rfl (by decide +kernel)
theorem ms_X3_wouldWin {Z : Zt} {d : Nat} {S : Sh} {μ : Mi} {ρ : Mr} {Rp : RT} (a0 : Nat) (a1 : Nat) (x2 : Int32) (h : ∀ G : Nat → PT, (∀ (L st : List Value) (S : Sh) (q : Nat × Nat) (μ : Mi) (ρ : Mr), w_X3_wouldWin_29 (MS Z d) G Rp L st S q μ ρ → G 29 L st S q μ ρ) → (∀ (L st : List Value) (S : Sh) (q : Nat × Nat) (μ : Mi) (ρ : Mr), w_X3_wouldWin_66 (MS Z d) G Rp L st S q μ ρ → G 66 L st S q μ ρ) → (∀ (L st : List Value) (S : Sh) (q : Nat × Nat) (μ : Mi) (ρ : Mr), w_X3_wouldWin_67 (MS Z d) G Rp L st S q μ ρ → G 67 L st S q μ ρ) → w_X3_wouldWin_0 (MS Z d) G Rp [.ref a0, .ref a1, .int x2] [] S (0, 0) μ ρ) : MS Z (d + 1) jX3_wouldWin [.ref a0, .ref a1, .int x2] S μ ρ Rp :=
  MS_of [.ref a0, .ref a1, .int x2] (by decide +kernel) rfl rfl (Nat.le_of_ble_eq_true rfl) rfl (fun p e R s m args below meth c C => b_X3_wouldWin_0 C _ _ _ _ _ _ (h _ (b_X3_wouldWin_29 C) (b_X3_wouldWin_66 C) (b_X3_wouldWin_67 C)))
def w_X3_factThen_0 (M : CT) (G : Nat → PT) (Rp : RT) : PT := tAload 0 <| tGetR 3 2 1 <| tAload 1 <| tCallV M jX10_copyFrom 10 6 1 <| tAload 0 <| tGetR 3 2 1 <| tCallS M jX3_drain 1 <| tPop <| tAload 0 <| tGetR 3 2 1 <| tIload 2 <| tIload 3 <| tCallS M jX8_storeFact 3 <| tIret Rp
set_option maxRecDepth 20000 in
theorem b_X3_factThen_0 {Z : Zt} {d : Nat} {p : Program} {e : Env} {R : Room} {s : State} {m : MethodId} {args : Array Value} {below : List Frame} {meth : Method} {c : Code} {Rp : RT} (C : Cx Z d jX3_factThen RX3 p R s m args meth c) : Sd Z jX3_factThen p e R s m args below meth c (MQ below (QcS Z Rp) args s 0 0 (fun a => Z.2.2.1 < a)) 0 (w_X3_factThen_0 (MS Z d) (Gw Z 4 p e R s m args below meth c (MQ below (QcS Z Rp) args s 0 0 (fun a => Z.2.2.1 < a))) Rp) := by
  unfold w_X3_factThen_0
  refine s_aload_n (k := 0) C (by decide +kernel) ?_
  refine s_getR C w_2_153 (by decide +kernel) rfl ?_
  refine s_aload_n (k := 1) C (by decide +kernel) ?_
  refine s_callV C rfl rfl (by decide +kernel) rfl w_5_215 w_3_37 w_3_38 w_1_2 w_3_39 (by decide +kernel) ?_
  refine s_aload_n (k := 0) C (by decide +kernel) ?_
  refine s_getR C w_2_153 (by decide +kernel) rfl ?_
  refine s_callS C (by decide +kernel) rfl w_5_216 w_5_217 w_1_10 w_5_218 (by decide +kernel) ?_
  refine s_pop C (by decide +kernel) ?_
  refine s_aload_n (k := 0) C (by decide +kernel) ?_
  refine s_getR C w_2_153 (by decide +kernel) rfl ?_
  refine s_iload_n (k := 2) C (by decide +kernel) ?_
  refine s_iload_n (k := 3) C (by decide +kernel) ?_
  refine s_callS C (by decide +kernel) rfl w_5_230 w_5_92 w_1_21 w_5_93 (by decide +kernel) ?_
  exact s_iret C rfl (by decide +kernel)
theorem ms_X3_factThen {Z : Zt} {d : Nat} {S : Sh} {μ : Mi} {ρ : Mr} {Rp : RT} (a0 : Nat) (a1 : Nat) (x2 : Int32) (x3 : Int32) (h : ∀ G : Nat → PT, w_X3_factThen_0 (MS Z d) G Rp [.ref a0, .ref a1, .int x2, .int x3] [] S (0, 0) μ ρ) : MS Z (d + 1) jX3_factThen [.ref a0, .ref a1, .int x2, .int x3] S μ ρ Rp :=
  MS_of [.ref a0, .ref a1, .int x2, .int x3] (by decide +kernel) rfl rfl (Nat.le_of_ble_eq_true rfl) rfl (fun p e R s m args below meth c C => b_X3_factThen_0 C _ _ _ _ _ _ (h _ ))
def w_X3_stormOf_0 (M : CT) (G : Nat → PT) (Rp : RT) : PT := tAload 0 <| tGetR 3 2 1 <| tAload 1 <| tCallV M jX10_copyFrom 10 6 1 <| tAload 0 <| tGetR 3 2 1 <| tCallS M jX3_drain 1 <| tIstore 3 <| tIload 2 <| tIf (fun x => x ≠ 0) (G 24) <| tIload 3 <| tGoto (G 42)
def w_X3_stormOf_24 (M : CT) (G : Nat → PT) (Rp : RT) : PT := tAload 0 <| tGetR 3 2 1 <| tGetR 10 6 1 <| tGetI 1 6 3 <| tAload 1 <| tGetR 10 6 1 <| tGetI 1 6 3 <| tBin (fun x y => x - y) <| G 42
def w_X3_stormOf_42 (M : CT) (G : Nat → PT) (Rp : RT) : PT := tIret Rp
set_option maxRecDepth 20000 in
theorem b_X3_stormOf_0 {Z : Zt} {d : Nat} {p : Program} {e : Env} {R : Room} {s : State} {m : MethodId} {args : Array Value} {below : List Frame} {meth : Method} {c : Code} {Rp : RT} (C : Cx Z d jX3_stormOf RX3 p R s m args meth c) : Sd Z jX3_stormOf p e R s m args below meth c (MQ below (QcS Z Rp) args s 0 0 (fun a => Z.2.2.1 < a)) 0 (w_X3_stormOf_0 (MS Z d) (Gw Z 4 p e R s m args below meth c (MQ below (QcS Z Rp) args s 0 0 (fun a => Z.2.2.1 < a))) Rp) := by
  unfold w_X3_stormOf_0
  refine s_aload_n (k := 0) C (by decide +kernel) ?_
  refine s_getR C w_2_153 (by decide +kernel) rfl ?_
  refine s_aload_n (k := 1) C (by decide +kernel) ?_
  refine s_callV C rfl rfl (by decide +kernel) rfl w_5_215 w_3_37 w_3_38 w_1_2 w_3_39 (by decide +kernel) ?_
  refine s_aload_n (k := 0) C (by decide +kernel) ?_
  refine s_getR C w_2_153 (by decide +kernel) rfl ?_
  refine s_callS C (by decide +kernel) rfl w_5_216 w_5_217 w_1_10 w_5_218 (by decide +kernel) ?_
  refine s_istore_n (k := 3) C (by decide +kernel) ?_
  refine s_iload_n (k := 2) C (by decide +kernel) ?_
  refine s_if_ne (off := 7) (tgt := 24) C (by decide +kernel) (by decide) (fun _ _ _ _ _ _ h => h) ?_
  refine s_iload_n (k := 3) C (by decide +kernel) ?_
  exact s_goto (off := 21) (tgt := 42) C (by decide +kernel) (by decide) (fun _ _ _ _ _ _ h => h)
set_option maxRecDepth 20000 in
theorem b_X3_stormOf_24 {Z : Zt} {d : Nat} {p : Program} {e : Env} {R : Room} {s : State} {m : MethodId} {args : Array Value} {below : List Frame} {meth : Method} {c : Code} {Rp : RT} (C : Cx Z d jX3_stormOf RX3 p R s m args meth c) : Sd Z jX3_stormOf p e R s m args below meth c (MQ below (QcS Z Rp) args s 0 0 (fun a => Z.2.2.1 < a)) 24 (w_X3_stormOf_24 (MS Z d) (Gw Z 4 p e R s m args below meth c (MQ below (QcS Z Rp) args s 0 0 (fun a => Z.2.2.1 < a))) Rp) := by
  unfold w_X3_stormOf_24
  refine s_aload_n (k := 0) C (by decide +kernel) ?_
  refine s_getR C w_2_153 (by decide +kernel) rfl ?_
  refine s_getR C w_2_118 (by decide +kernel) rfl ?_
  refine s_getI C w_1_129 (by decide +kernel) rfl ?_
  refine s_aload_n (k := 1) C (by decide +kernel) ?_
  refine s_getR C w_2_118 (by decide +kernel) rfl ?_
  refine s_getI C w_1_129 (by decide +kernel) rfl ?_
  refine s_isub C (by decide +kernel) ?_
  exact (fun _ _ _ _ _ _ h => h)
set_option maxRecDepth 20000 in
theorem b_X3_stormOf_42 {Z : Zt} {d : Nat} {p : Program} {e : Env} {R : Room} {s : State} {m : MethodId} {args : Array Value} {below : List Frame} {meth : Method} {c : Code} {Rp : RT} (C : Cx Z d jX3_stormOf RX3 p R s m args meth c) : Sd Z jX3_stormOf p e R s m args below meth c (MQ below (QcS Z Rp) args s 0 0 (fun a => Z.2.2.1 < a)) 42 (w_X3_stormOf_42 (MS Z d) (Gw Z 4 p e R s m args below meth c (MQ below (QcS Z Rp) args s 0 0 (fun a => Z.2.2.1 < a))) Rp) := by
  unfold w_X3_stormOf_42
  exact s_iret C rfl (by decide +kernel)
theorem ms_X3_stormOf {Z : Zt} {d : Nat} {S : Sh} {μ : Mi} {ρ : Mr} {Rp : RT} (a0 : Nat) (a1 : Nat) (x2 : Int32) (h : ∀ G : Nat → PT, (∀ (L st : List Value) (S : Sh) (q : Nat × Nat) (μ : Mi) (ρ : Mr), w_X3_stormOf_24 (MS Z d) G Rp L st S q μ ρ → G 24 L st S q μ ρ) → (∀ (L st : List Value) (S : Sh) (q : Nat × Nat) (μ : Mi) (ρ : Mr), w_X3_stormOf_42 (MS Z d) G Rp L st S q μ ρ → G 42 L st S q μ ρ) → w_X3_stormOf_0 (MS Z d) G Rp [.ref a0, .ref a1, .int x2, .null] [] S (0, 0) μ ρ) : MS Z (d + 1) jX3_stormOf [.ref a0, .ref a1, .int x2] S μ ρ Rp :=
  MS_of [.ref a0, .ref a1, .int x2, .null] (by decide +kernel) rfl rfl (Nat.le_of_ble_eq_true rfl) rfl (fun p e R s m args below meth c C => b_X3_stormOf_0 C _ _ _ _ _ _ (h _ (b_X3_stormOf_24 C) (b_X3_stormOf_42 C)))
def w_X3_roundsNeeded_0 (M : CT) (G : Nat → PT) (Rp : RT) : PT := tAload 1 <| tCallS M jX8_leaderNow 1 <| tIstore 2 <| tIload 2 <| tConst (-1) <| tIf2 (fun x y => x ≠ y) (G 12) <| tConst (-1) <| tIret Rp
def w_X3_roundsNeeded_12 (M : CT) (G : Nat → PT) (Rp : RT) : PT := tAload 0 <| tGetR 3 2 1 <| tAload 1 <| tCallV M jX10_copyFrom 10 6 1 <| tAload 0 <| tGetR 3 2 1 <| tGetR 10 6 0 <| tIload 2 <| tAldR 37 <| tAstore 3 <| tConst 1 <| tIstore 4 <| G 33
def w_X3_roundsNeeded_33 (M : CT) (G : Nat → PT) (Rp : RT) : PT := tIload 4 <| tConst 20 <| tIf2 (fun x y => y < x) (G 94) <| tAload 0 <| tGetR 3 2 1 <| tAload 3 <| tCallV M jX10_sendToAll 10 6 1 <| tAload 0 <| tGetR 3 2 1 <| tCallS M jX3_drain 1 <| tPop <| tAload 3 <| tGetI 7 18 4 <| tConst 2 <| tIf2 (fun x y => x = y) (G 66) <| tConst (-1) <| tIret Rp
def w_X3_roundsNeeded_66 (M : CT) (G : Nat → PT) (Rp : RT) : PT := tAload 3 <| tGetI 7 18 8 <| tAload 3 <| tGetI 7 18 7 <| tIf2 (fun x y => x ≠ y) (G 88) <| tAload 0 <| tAload 3 <| tCallV M jX3_allAgreeWith 3 2 1 <| tIf (fun x => x = 0) (G 88) <| tIload 4 <| tIret Rp
def w_X3_roundsNeeded_88 (M : CT) (G : Nat → PT) (Rp : RT) : PT := tIinc 4 1 <| tGoto (G 33)
def w_X3_roundsNeeded_94 (M : CT) (G : Nat → PT) (Rp : RT) : PT := tConst (-1) <| tIret Rp
set_option maxRecDepth 20000 in
theorem b_X3_roundsNeeded_0 {Z : Zt} {d : Nat} {p : Program} {e : Env} {R : Room} {s : State} {m : MethodId} {args : Array Value} {below : List Frame} {meth : Method} {c : Code} {Rp : RT} (C : Cx Z d jX3_roundsNeeded RX3 p R s m args meth c) : Sd Z jX3_roundsNeeded p e R s m args below meth c (MQ below (QcS Z Rp) args s 0 0 (fun a => Z.2.2.1 < a)) 0 (w_X3_roundsNeeded_0 (MS Z d) (Gw Z 5 p e R s m args below meth c (MQ below (QcS Z Rp) args s 0 0 (fun a => Z.2.2.1 < a))) Rp) := by
  unfold w_X3_roundsNeeded_0
  refine s_aload_n (k := 1) C (by decide +kernel) ?_
  refine s_callS C (by decide +kernel) rfl w_6_7 w_5_205 w_1_21 w_5_206 (by decide +kernel) ?_
  refine s_istore_n (k := 2) C (by decide +kernel) ?_
  refine s_iload_n (k := 2) C (by decide +kernel) ?_
  refine s_iconst (n := (-1)) C (by decide +kernel) (by decide) ?_
  refine s_icmp_ne (off := 5) (tgt := 12) C (by decide +kernel) (by decide) (fun _ _ _ _ _ _ h => h) ?_
  refine s_iconst (n := (-1)) C (by decide +kernel) (by decide) ?_
  exact s_iret C rfl (by decide +kernel)
set_option maxRecDepth 20000 in
theorem b_X3_roundsNeeded_12 {Z : Zt} {d : Nat} {p : Program} {e : Env} {R : Room} {s : State} {m : MethodId} {args : Array Value} {below : List Frame} {meth : Method} {c : Code} {Rp : RT} (C : Cx Z d jX3_roundsNeeded RX3 p R s m args meth c) : Sd Z jX3_roundsNeeded p e R s m args below meth c (MQ below (QcS Z Rp) args s 0 0 (fun a => Z.2.2.1 < a)) 12 (w_X3_roundsNeeded_12 (MS Z d) (Gw Z 5 p e R s m args below meth c (MQ below (QcS Z Rp) args s 0 0 (fun a => Z.2.2.1 < a))) Rp) := by
  unfold w_X3_roundsNeeded_12
  refine s_aload_n (k := 0) C (by decide +kernel) ?_
  refine s_getR C w_2_153 (by decide +kernel) rfl ?_
  refine s_aload_n (k := 1) C (by decide +kernel) ?_
  refine s_callV C rfl rfl (by decide +kernel) rfl w_5_215 w_3_37 w_3_38 w_1_2 w_3_39 (by decide +kernel) ?_
  refine s_aload_n (k := 0) C (by decide +kernel) ?_
  refine s_getR C w_2_153 (by decide +kernel) rfl ?_
  refine s_getR C w_2_115 (by decide +kernel) rfl ?_
  refine s_iload_n (k := 2) C (by decide +kernel) ?_
  refine s_aald C rfl (by decide +kernel) ?_
  refine s_astore_n (k := 3) C (by decide +kernel) ?_
  refine s_iconst (n := 1) C (by decide +kernel) (by decide) ?_
  refine s_istore (k := 4) C (by decide +kernel) ?_
  exact (fun _ _ _ _ _ _ h => h)
set_option maxRecDepth 20000 in
theorem b_X3_roundsNeeded_33 {Z : Zt} {d : Nat} {p : Program} {e : Env} {R : Room} {s : State} {m : MethodId} {args : Array Value} {below : List Frame} {meth : Method} {c : Code} {Rp : RT} (C : Cx Z d jX3_roundsNeeded RX3 p R s m args meth c) : Sd Z jX3_roundsNeeded p e R s m args below meth c (MQ below (QcS Z Rp) args s 0 0 (fun a => Z.2.2.1 < a)) 33 (w_X3_roundsNeeded_33 (MS Z d) (Gw Z 5 p e R s m args below meth c (MQ below (QcS Z Rp) args s 0 0 (fun a => Z.2.2.1 < a))) Rp) := by
  unfold w_X3_roundsNeeded_33
  refine s_iload (k := 4) C (by decide +kernel) ?_
  refine s_bipush (n := 20) C (by decide +kernel) (by decide) ?_
  refine s_icmp_gt (off := 57) (tgt := 94) C (by decide +kernel) (by decide) (fun _ _ _ _ _ _ h => h) ?_
  refine s_aload_n (k := 0) C (by decide +kernel) ?_
  refine s_getR C w_2_153 (by decide +kernel) rfl ?_
  refine s_aload_n (k := 3) C (by decide +kernel) ?_
  refine s_callV C rfl rfl (by decide +kernel) rfl w_6_8 w_3_159 w_3_160 w_1_2 w_3_161 (by decide +kernel) ?_
  refine s_aload_n (k := 0) C (by decide +kernel) ?_
  refine s_getR C w_2_153 (by decide +kernel) rfl ?_
  refine s_callS C (by decide +kernel) rfl w_5_216 w_5_217 w_1_10 w_5_218 (by decide +kernel) ?_
  refine s_pop C (by decide +kernel) ?_
  refine s_aload_n (k := 3) C (by decide +kernel) ?_
  refine s_getI C w_1_233 (by decide +kernel) rfl ?_
  refine s_iconst (n := 2) C (by decide +kernel) (by decide) ?_
  refine s_icmp_eq (off := 5) (tgt := 66) C (by decide +kernel) (by decide) (fun _ _ _ _ _ _ h => h) ?_
  refine s_iconst (n := (-1)) C (by decide +kernel) (by decide) ?_
  exact s_iret C rfl (by decide +kernel)
set_option maxRecDepth 20000 in
theorem b_X3_roundsNeeded_66 {Z : Zt} {d : Nat} {p : Program} {e : Env} {R : Room} {s : State} {m : MethodId} {args : Array Value} {below : List Frame} {meth : Method} {c : Code} {Rp : RT} (C : Cx Z d jX3_roundsNeeded RX3 p R s m args meth c) : Sd Z jX3_roundsNeeded p e R s m args below meth c (MQ below (QcS Z Rp) args s 0 0 (fun a => Z.2.2.1 < a)) 66 (w_X3_roundsNeeded_66 (MS Z d) (Gw Z 5 p e R s m args below meth c (MQ below (QcS Z Rp) args s 0 0 (fun a => Z.2.2.1 < a))) Rp) := by
  unfold w_X3_roundsNeeded_66
  refine s_aload_n (k := 3) C (by decide +kernel) ?_
  refine s_getI C w_2_8 (by decide +kernel) rfl ?_
  refine s_aload_n (k := 3) C (by decide +kernel) ?_
  refine s_getI C w_2_4 (by decide +kernel) rfl ?_
  refine s_icmp_ne (off := 14) (tgt := 88) C (by decide +kernel) (by decide) (fun _ _ _ _ _ _ h => h) ?_
  refine s_aload_n (k := 0) C (by decide +kernel) ?_
  refine s_aload_n (k := 3) C (by decide +kernel) ?_
  refine s_callV C rfl rfl (by decide +kernel) rfl w_6_9 w_6_11 w_p3_2 w_1_10 w_6_12 (by decide +kernel) ?_
  refine s_if_eq (off := 6) (tgt := 88) C (by decide +kernel) (by decide) (fun _ _ _ _ _ _ h => h) ?_
  refine s_iload (k := 4) C (by decide +kernel) ?_
  exact s_iret C rfl (by decide +kernel)
set_option maxRecDepth 20000 in
theorem b_X3_roundsNeeded_88 {Z : Zt} {d : Nat} {p : Program} {e : Env} {R : Room} {s : State} {m : MethodId} {args : Array Value} {below : List Frame} {meth : Method} {c : Code} {Rp : RT} (C : Cx Z d jX3_roundsNeeded RX3 p R s m args meth c) : Sd Z jX3_roundsNeeded p e R s m args below meth c (MQ below (QcS Z Rp) args s 0 0 (fun a => Z.2.2.1 < a)) 88 (w_X3_roundsNeeded_88 (MS Z d) (Gw Z 5 p e R s m args below meth c (MQ below (QcS Z Rp) args s 0 0 (fun a => Z.2.2.1 < a))) Rp) := by
  unfold w_X3_roundsNeeded_88
  refine s_iinc (n := 1) C (by decide +kernel) (by decide) ?_
  exact s_goto (off := (-58)) (tgt := 33) C (by decide +kernel) (by decide) (fun _ _ _ _ _ _ h => h)
set_option maxRecDepth 20000 in
theorem b_X3_roundsNeeded_94 {Z : Zt} {d : Nat} {p : Program} {e : Env} {R : Room} {s : State} {m : MethodId} {args : Array Value} {below : List Frame} {meth : Method} {c : Code} {Rp : RT} (C : Cx Z d jX3_roundsNeeded RX3 p R s m args meth c) : Sd Z jX3_roundsNeeded p e R s m args below meth c (MQ below (QcS Z Rp) args s 0 0 (fun a => Z.2.2.1 < a)) 94 (w_X3_roundsNeeded_94 (MS Z d) (Gw Z 5 p e R s m args below meth c (MQ below (QcS Z Rp) args s 0 0 (fun a => Z.2.2.1 < a))) Rp) := by
  unfold w_X3_roundsNeeded_94
  refine s_iconst (n := (-1)) C (by decide +kernel) (by decide) ?_
  exact s_iret C rfl (by decide +kernel)
theorem ms_X3_roundsNeeded {Z : Zt} {d : Nat} {S : Sh} {μ : Mi} {ρ : Mr} {Rp : RT} (a0 : Nat) (a1 : Nat) (h : ∀ G : Nat → PT, (∀ (L st : List Value) (S : Sh) (q : Nat × Nat) (μ : Mi) (ρ : Mr), w_X3_roundsNeeded_12 (MS Z d) G Rp L st S q μ ρ → G 12 L st S q μ ρ) → (∀ (L st : List Value) (S : Sh) (q : Nat × Nat) (μ : Mi) (ρ : Mr), w_X3_roundsNeeded_33 (MS Z d) G Rp L st S q μ ρ → G 33 L st S q μ ρ) → (∀ (L st : List Value) (S : Sh) (q : Nat × Nat) (μ : Mi) (ρ : Mr), w_X3_roundsNeeded_66 (MS Z d) G Rp L st S q μ ρ → G 66 L st S q μ ρ) → (∀ (L st : List Value) (S : Sh) (q : Nat × Nat) (μ : Mi) (ρ : Mr), w_X3_roundsNeeded_88 (MS Z d) G Rp L st S q μ ρ → G 88 L st S q μ ρ) → (∀ (L st : List Value) (S : Sh) (q : Nat × Nat) (μ : Mi) (ρ : Mr), w_X3_roundsNeeded_94 (MS Z d) G Rp L st S q μ ρ → G 94 L st S q μ ρ) → w_X3_roundsNeeded_0 (MS Z d) G Rp [.ref a0, .ref a1, .null, .null, .null] [] S (0, 0) μ ρ) : MS Z (d + 1) jX3_roundsNeeded [.ref a0, .ref a1] S μ ρ Rp :=
  MS_of [.ref a0, .ref a1, .null, .null, .null] (by decide +kernel) rfl rfl (Nat.le_of_ble_eq_true rfl) rfl (fun p e R s m args below meth c C => b_X3_roundsNeeded_0 C _ _ _ _ _ _ (h _ (b_X3_roundsNeeded_12 C) (b_X3_roundsNeeded_33 C) (b_X3_roundsNeeded_66 C) (b_X3_roundsNeeded_88 C) (b_X3_roundsNeeded_94 C)))
def w_X3_allAgreeWith_0 (M : CT) (G : Nat → PT) (Rp : RT) : PT := tAload 1 <| tGetI 7 18 10 <| tAload 1 <| tGetI 7 18 11 <| tBin (fun x y => x ||| y) <| tAload 0 <| tGetR 3 2 1 <| tCallV M jX10_whoIsUp 10 6 0 <| tBin (fun x y => x &&& y) <| tAload 0 <| tGetR 3 2 1 <| tAload 1 <| tGetI 7 18 0 <| tCallS M jX8_reachable 2 <| tBin (fun x y => x &&& y) <| tIstore 2 <| tConst 0 <| tIstore 3 <| G 32
def w_X3_allAgreeWith_32 (M : CT) (G : Nat → PT) (Rp : RT) : PT := tIload 3 <| tConst 5 <| tIf2 (fun x y => y ≤ x) (G 73) <| tIload 2 <| tIload 3 <| tBin (fun x y => x >>> (y &&& 31)) <| tConst 1 <| tBin (fun x y => x &&& y) <| tConst 1 <| tIf2 (fun x y => x ≠ y) (G 67) <| tAload 0 <| tGetR 3 2 1 <| tGetR 10 6 0 <| tIload 3 <| tAldR 37 <| tGetI 7 18 8 <| tAload 1 <| tGetI 7 18 8 <| tIf2 (fun x y => x = y) (G 67) <| tConst 0 <| tZret Rp
def w_X3_allAgreeWith_67 (M : CT) (G : Nat → PT) (Rp : RT) : PT := tIinc 3 1 <| tGoto (G 32)
def w_X3_allAgreeWith_73 (M : CT) (G : Nat → PT) (Rp : RT) : PT := tConst 1 <| tZret Rp
set_option maxRecDepth 20000 in
theorem b_X3_allAgreeWith_0 {Z : Zt} {d : Nat} {p : Program} {e : Env} {R : Room} {s : State} {m : MethodId} {args : Array Value} {below : List Frame} {meth : Method} {c : Code} {Rp : RT} (C : Cx Z d jX3_allAgreeWith RX3 p R s m args meth c) : Sd Z jX3_allAgreeWith p e R s m args below meth c (MQ below (QcS Z Rp) args s 0 0 (fun a => Z.2.2.1 < a)) 0 (w_X3_allAgreeWith_0 (MS Z d) (Gw Z 4 p e R s m args below meth c (MQ below (QcS Z Rp) args s 0 0 (fun a => Z.2.2.1 < a))) Rp) := by
  unfold w_X3_allAgreeWith_0
  refine s_aload_n (k := 1) C (by decide +kernel) ?_
  refine s_getI C w_2_14 (by decide +kernel) rfl ?_
  refine s_aload_n (k := 1) C (by decide +kernel) ?_
  refine s_getI C w_2_18 (by decide +kernel) rfl ?_
  refine s_ior C (by decide +kernel) ?_
  refine s_aload_n (k := 0) C (by decide +kernel) ?_
  refine s_getR C w_2_153 (by decide +kernel) rfl ?_
  refine s_callV C rfl rfl (by decide +kernel) rfl w_6_13 w_5_165 w_5_166 w_1_2 w_5_167 (by decide +kernel) ?_
  refine s_iand C (by decide +kernel) ?_
  refine s_aload_n (k := 0) C (by decide +kernel) ?_
  refine s_getR C w_2_153 (by decide +kernel) rfl ?_
  refine s_aload_n (k := 1) C (by decide +kernel) ?_
  refine s_getI C w_1_220 (by decide +kernel) rfl ?_
  refine s_callS C (by decide +kernel) rfl w_6_14 w_5_174 w_1_21 w_5_175 (by decide +kernel) ?_
  refine s_iand C (by decide +kernel) ?_
  refine s_istore_n (k := 2) C (by decide +kernel) ?_
  refine s_iconst (n := 0) C (by decide +kernel) (by decide) ?_
  refine s_istore_n (k := 3) C (by decide +kernel) ?_
  exact (fun _ _ _ _ _ _ h => h)
set_option maxRecDepth 20000 in
theorem b_X3_allAgreeWith_32 {Z : Zt} {d : Nat} {p : Program} {e : Env} {R : Room} {s : State} {m : MethodId} {args : Array Value} {below : List Frame} {meth : Method} {c : Code} {Rp : RT} (C : Cx Z d jX3_allAgreeWith RX3 p R s m args meth c) : Sd Z jX3_allAgreeWith p e R s m args below meth c (MQ below (QcS Z Rp) args s 0 0 (fun a => Z.2.2.1 < a)) 32 (w_X3_allAgreeWith_32 (MS Z d) (Gw Z 4 p e R s m args below meth c (MQ below (QcS Z Rp) args s 0 0 (fun a => Z.2.2.1 < a))) Rp) := by
  unfold w_X3_allAgreeWith_32
  refine s_iload_n (k := 3) C (by decide +kernel) ?_
  refine s_iconst (n := 5) C (by decide +kernel) (by decide) ?_
  refine s_icmp_ge (off := 39) (tgt := 73) C (by decide +kernel) (by decide) (fun _ _ _ _ _ _ h => h) ?_
  refine s_iload_n (k := 2) C (by decide +kernel) ?_
  refine s_iload_n (k := 3) C (by decide +kernel) ?_
  refine s_ishr C (by decide +kernel) ?_
  refine s_iconst (n := 1) C (by decide +kernel) (by decide) ?_
  refine s_iand C (by decide +kernel) ?_
  refine s_iconst (n := 1) C (by decide +kernel) (by decide) ?_
  refine s_icmp_ne (off := 24) (tgt := 67) C (by decide +kernel) (by decide) (fun _ _ _ _ _ _ h => h) ?_
  refine s_aload_n (k := 0) C (by decide +kernel) ?_
  refine s_getR C w_2_153 (by decide +kernel) rfl ?_
  refine s_getR C w_2_115 (by decide +kernel) rfl ?_
  refine s_iload_n (k := 3) C (by decide +kernel) ?_
  refine s_aald C rfl (by decide +kernel) ?_
  refine s_getI C w_2_8 (by decide +kernel) rfl ?_
  refine s_aload_n (k := 1) C (by decide +kernel) ?_
  refine s_getI C w_2_8 (by decide +kernel) rfl ?_
  refine s_icmp_eq (off := 5) (tgt := 67) C (by decide +kernel) (by decide) (fun _ _ _ _ _ _ h => h) ?_
  refine s_iconst (n := 0) C (by decide +kernel) (by decide) ?_
  exact s_zret C rfl (by decide +kernel)
set_option maxRecDepth 20000 in
theorem b_X3_allAgreeWith_67 {Z : Zt} {d : Nat} {p : Program} {e : Env} {R : Room} {s : State} {m : MethodId} {args : Array Value} {below : List Frame} {meth : Method} {c : Code} {Rp : RT} (C : Cx Z d jX3_allAgreeWith RX3 p R s m args meth c) : Sd Z jX3_allAgreeWith p e R s m args below meth c (MQ below (QcS Z Rp) args s 0 0 (fun a => Z.2.2.1 < a)) 67 (w_X3_allAgreeWith_67 (MS Z d) (Gw Z 4 p e R s m args below meth c (MQ below (QcS Z Rp) args s 0 0 (fun a => Z.2.2.1 < a))) Rp) := by
  unfold w_X3_allAgreeWith_67
  refine s_iinc (n := 1) C (by decide +kernel) (by decide) ?_
  exact s_goto (off := (-38)) (tgt := 32) C (by decide +kernel) (by decide) (fun _ _ _ _ _ _ h => h)
set_option maxRecDepth 20000 in
theorem b_X3_allAgreeWith_73 {Z : Zt} {d : Nat} {p : Program} {e : Env} {R : Room} {s : State} {m : MethodId} {args : Array Value} {below : List Frame} {meth : Method} {c : Code} {Rp : RT} (C : Cx Z d jX3_allAgreeWith RX3 p R s m args meth c) : Sd Z jX3_allAgreeWith p e R s m args below meth c (MQ below (QcS Z Rp) args s 0 0 (fun a => Z.2.2.1 < a)) 73 (w_X3_allAgreeWith_73 (MS Z d) (Gw Z 4 p e R s m args below meth c (MQ below (QcS Z Rp) args s 0 0 (fun a => Z.2.2.1 < a))) Rp) := by
  unfold w_X3_allAgreeWith_73
  refine s_iconst (n := 1) C (by decide +kernel) (by decide) ?_
  exact s_zret C rfl (by decide +kernel)
theorem ms_X3_allAgreeWith {Z : Zt} {d : Nat} {S : Sh} {μ : Mi} {ρ : Mr} {Rp : RT} (a0 : Nat) (a1 : Nat) (h : ∀ G : Nat → PT, (∀ (L st : List Value) (S : Sh) (q : Nat × Nat) (μ : Mi) (ρ : Mr), w_X3_allAgreeWith_32 (MS Z d) G Rp L st S q μ ρ → G 32 L st S q μ ρ) → (∀ (L st : List Value) (S : Sh) (q : Nat × Nat) (μ : Mi) (ρ : Mr), w_X3_allAgreeWith_67 (MS Z d) G Rp L st S q μ ρ → G 67 L st S q μ ρ) → (∀ (L st : List Value) (S : Sh) (q : Nat × Nat) (μ : Mi) (ρ : Mr), w_X3_allAgreeWith_73 (MS Z d) G Rp L st S q μ ρ → G 73 L st S q μ ρ) → w_X3_allAgreeWith_0 (MS Z d) G Rp [.ref a0, .ref a1, .null, .null] [] S (0, 0) μ ρ) : MS Z (d + 1) jX3_allAgreeWith [.ref a0, .ref a1] S μ ρ Rp :=
  MS_of [.ref a0, .ref a1, .null, .null] (by decide +kernel) rfl rfl (Nat.le_of_ble_eq_true rfl) rfl (fun p e R s m args below meth c C => b_X3_allAgreeWith_0 C _ _ _ _ _ _ (h _ (b_X3_allAgreeWith_32 C) (b_X3_allAgreeWith_67 C) (b_X3_allAgreeWith_73 C)))
def w_X3_couldLead_0 (M : CT) (G : Nat → PT) (Rp : RT) : PT := tAload 0 <| tGetR 3 2 0 <| tAload 1 <| tIload 2 <| tIload 3 <| tCallS M jX3_reaches 4 <| tZret Rp
set_option maxRecDepth 20000 in
theorem b_X3_couldLead_0 {Z : Zt} {d : Nat} {p : Program} {e : Env} {R : Room} {s : State} {m : MethodId} {args : Array Value} {below : List Frame} {meth : Method} {c : Code} {Rp : RT} (C : Cx Z d jX3_couldLead RX3 p R s m args meth c) : Sd Z jX3_couldLead p e R s m args below meth c (MQ below (QcS Z Rp) args s 0 0 (fun a => Z.2.2.1 < a)) 0 (w_X3_couldLead_0 (MS Z d) (Gw Z 4 p e R s m args below meth c (MQ below (QcS Z Rp) args s 0 0 (fun a => Z.2.2.1 < a))) Rp) := by
  unfold w_X3_couldLead_0
  refine s_aload_n (k := 0) C (by decide +kernel) ?_
  refine s_getR C w_2_152 (by decide +kernel) rfl ?_
  refine s_aload_n (k := 1) C (by decide +kernel) ?_
  refine s_iload_n (k := 2) C (by decide +kernel) ?_
  refine s_iload_n (k := 3) C (by decide +kernel) ?_
  refine s_callS C (by decide +kernel) rfl w_6_23 w_6_24 w_1_10 w_6_25 (by decide +kernel) ?_
  exact s_zret C rfl (by decide +kernel)
theorem ms_X3_couldLead {Z : Zt} {d : Nat} {S : Sh} {μ : Mi} {ρ : Mr} {Rp : RT} (a0 : Nat) (a1 : Nat) (x2 : Int32) (x3 : Int32) (h : ∀ G : Nat → PT, w_X3_couldLead_0 (MS Z d) G Rp [.ref a0, .ref a1, .int x2, .int x3] [] S (0, 0) μ ρ) : MS Z (d + 1) jX3_couldLead [.ref a0, .ref a1, .int x2, .int x3] S μ ρ Rp :=
  MS_of [.ref a0, .ref a1, .int x2, .int x3] (by decide +kernel) rfl rfl (Nat.le_of_ble_eq_true rfl) rfl (fun p e R s m args below meth c C => b_X3_couldLead_0 C _ _ _ _ _ _ (h _ ))
def w_X3_reaches_0 (M : CT) (G : Nat → PT) (Rp : RT) : PT := tAload 1 <| tGetR 10 6 0 <| tIload 2 <| tAldR 37 <| tGetI 7 18 4 <| tConst 2 <| tIf2 (fun x y => x ≠ y) (G 15) <| tConst 1 <| tZret Rp
def w_X3_reaches_15 (M : CT) (G : Nat → PT) (Rp : RT) : PT := tIload 3 <| tConst 1 <| tIf2 (fun x y => x < y) (G 26) <| tIload 3 <| tAload 0 <| tAlen <| tIf2 (fun x y => x ≤ y) (G 28) <| G 26
def w_X3_reaches_26 (M : CT) (G : Nat → PT) (Rp : RT) : PT := tConst 0 <| tZret Rp
def w_X3_reaches_28 (M : CT) (G : Nat → PT) (Rp : RT) : PT := tAload 0 <| tIload 3 <| tConst 1 <| tBin (fun x y => x - y) <| tAldR 40 <| tAstore 4 <| tConst 0 <| tIstore 5 <| G 38
def w_X3_reaches_38 (M : CT) (G : Nat → PT) (Rp : RT) : PT := tIload 5 <| tConst 5 <| tIf2 (fun x y => y ≤ x) (G 99) <| tIload 5 <| tIload 2 <| tIf2 (fun x y => x = y) (G 55) <| tIload 3 <| tConst 2 <| tIf2 (fun x y => x ≤ y) (G 93) <| G 55
def w_X3_reaches_55 (M : CT) (G : Nat → PT) (Rp : RT) : PT := tAload 1 <| tIload 5 <| tCallV M jX10_canTimeOut 10 6 1 <| tIf (fun x => x = 0) (G 93) <| tAload 4 <| tAload 1 <| tCallV M jX10_copyFrom 10 6 1 <| tAload 4 <| tIload 5 <| tCallV M jX10_timesOut 10 6 1 <| tPop <| tAload 0 <| tAload 4 <| tIload 2 <| tIload 3 <| tConst 1 <| tBin (fun x y => x - y) <| tCallS M jX3_reaches 4 <| tIf (fun x => x = 0) (G 93) <| tConst 1 <| tZret Rp
def w_X3_reaches_93 (M : CT) (G : Nat → PT) (Rp : RT) : PT := tIinc 5 1 <| tGoto (G 38)
def w_X3_reaches_99 (M : CT) (G : Nat → PT) (Rp : RT) : PT := tConst 0 <| tIstore 5 <| G 102
def w_X3_reaches_102 (M : CT) (G : Nat → PT) (Rp : RT) : PT := tIload 5 <| tAload 1 <| tGetR 10 6 1 <| tGetI 1 6 2 <| tIf2 (fun x y => y ≤ x) (G 180) <| tAload 1 <| tGetR 10 6 1 <| tGetR 1 6 0 <| tIload 5 <| tAldR 32 <| tAstore 6 <| tAload 6 <| tIload 2 <| tIload 3 <| tCallS M jX3_mayHelp 3 <| tIf (fun x => x = 0) (G 174) <| tAload 1 <| tAload 6 <| tCallV M jX10_canCome 10 6 1 <| tIf (fun x => x = 0) (G 174) <| tAload 4 <| tAload 1 <| tCallV M jX10_copyFrom 10 6 1 <| tAload 4 <| tIload 5 <| tCallV M jX10_takeIn 10 6 1 <| tPop <| tAload 0 <| tAload 4 <| tIload 2 <| tIload 3 <| tConst 1 <| tBin (fun x y => x - y) <| tCallS M jX3_reaches 4 <| tIf (fun x => x = 0) (G 174) <| tConst 1 <| tZret Rp
def w_X3_reaches_174 (M : CT) (G : Nat → PT) (Rp : RT) : PT := tIinc 5 1 <| tGoto (G 102)
def w_X3_reaches_180 (M : CT) (G : Nat → PT) (Rp : RT) : PT := tConst 0 <| tZret Rp
set_option maxRecDepth 20000 in
theorem b_X3_reaches_0 {Z : Zt} {d : Nat} {p : Program} {e : Env} {R : Room} {s : State} {m : MethodId} {args : Array Value} {below : List Frame} {meth : Method} {c : Code} {Rp : RT} (C : Cx Z d jX3_reaches RX3 p R s m args meth c) : Sd Z jX3_reaches p e R s m args below meth c (MQ below (QcS Z Rp) args s 0 0 (fun a => Z.2.2.1 < a)) 0 (w_X3_reaches_0 (MS Z d) (Gw Z 7 p e R s m args below meth c (MQ below (QcS Z Rp) args s 0 0 (fun a => Z.2.2.1 < a))) Rp) := by
  unfold w_X3_reaches_0
  refine s_aload_n (k := 1) C (by decide +kernel) ?_
  refine s_getR C w_2_115 (by decide +kernel) rfl ?_
  refine s_iload_n (k := 2) C (by decide +kernel) ?_
  refine s_aald C rfl (by decide +kernel) ?_
  refine s_getI C w_1_233 (by decide +kernel) rfl ?_
  refine s_iconst (n := 2) C (by decide +kernel) (by decide) ?_
  refine s_icmp_ne (off := 5) (tgt := 15) C (by decide +kernel) (by decide) (fun _ _ _ _ _ _ h => h) ?_
  refine s_iconst (n := 1) C (by decide +kernel) (by decide) ?_
  exact s_zret C rfl (by decide +kernel)
set_option maxRecDepth 20000 in
theorem b_X3_reaches_15 {Z : Zt} {d : Nat} {p : Program} {e : Env} {R : Room} {s : State} {m : MethodId} {args : Array Value} {below : List Frame} {meth : Method} {c : Code} {Rp : RT} (C : Cx Z d jX3_reaches RX3 p R s m args meth c) : Sd Z jX3_reaches p e R s m args below meth c (MQ below (QcS Z Rp) args s 0 0 (fun a => Z.2.2.1 < a)) 15 (w_X3_reaches_15 (MS Z d) (Gw Z 7 p e R s m args below meth c (MQ below (QcS Z Rp) args s 0 0 (fun a => Z.2.2.1 < a))) Rp) := by
  unfold w_X3_reaches_15
  refine s_iload_n (k := 3) C (by decide +kernel) ?_
  refine s_iconst (n := 1) C (by decide +kernel) (by decide) ?_
  refine s_icmp_lt (off := 9) (tgt := 26) C (by decide +kernel) (by decide) (fun _ _ _ _ _ _ h => h) ?_
  refine s_iload_n (k := 3) C (by decide +kernel) ?_
  refine s_aload_n (k := 0) C (by decide +kernel) ?_
  refine s_alen C (by decide +kernel) ?_
  refine s_icmp_le (off := 5) (tgt := 28) C (by decide +kernel) (by decide) (fun _ _ _ _ _ _ h => h) ?_
  exact (fun _ _ _ _ _ _ h => h)
set_option maxRecDepth 20000 in
theorem b_X3_reaches_26 {Z : Zt} {d : Nat} {p : Program} {e : Env} {R : Room} {s : State} {m : MethodId} {args : Array Value} {below : List Frame} {meth : Method} {c : Code} {Rp : RT} (C : Cx Z d jX3_reaches RX3 p R s m args meth c) : Sd Z jX3_reaches p e R s m args below meth c (MQ below (QcS Z Rp) args s 0 0 (fun a => Z.2.2.1 < a)) 26 (w_X3_reaches_26 (MS Z d) (Gw Z 7 p e R s m args below meth c (MQ below (QcS Z Rp) args s 0 0 (fun a => Z.2.2.1 < a))) Rp) := by
  unfold w_X3_reaches_26
  refine s_iconst (n := 0) C (by decide +kernel) (by decide) ?_
  exact s_zret C rfl (by decide +kernel)
set_option maxRecDepth 20000 in
theorem b_X3_reaches_28 {Z : Zt} {d : Nat} {p : Program} {e : Env} {R : Room} {s : State} {m : MethodId} {args : Array Value} {below : List Frame} {meth : Method} {c : Code} {Rp : RT} (C : Cx Z d jX3_reaches RX3 p R s m args meth c) : Sd Z jX3_reaches p e R s m args below meth c (MQ below (QcS Z Rp) args s 0 0 (fun a => Z.2.2.1 < a)) 28 (w_X3_reaches_28 (MS Z d) (Gw Z 7 p e R s m args below meth c (MQ below (QcS Z Rp) args s 0 0 (fun a => Z.2.2.1 < a))) Rp) := by
  unfold w_X3_reaches_28
  refine s_aload_n (k := 0) C (by decide +kernel) ?_
  refine s_iload_n (k := 3) C (by decide +kernel) ?_
  refine s_iconst (n := 1) C (by decide +kernel) (by decide) ?_
  refine s_isub C (by decide +kernel) ?_
  refine s_aald C rfl (by decide +kernel) ?_
  refine s_astore (k := 4) C (by decide +kernel) ?_
  refine s_iconst (n := 0) C (by decide +kernel) (by decide) ?_
  refine s_istore (k := 5) C (by decide +kernel) ?_
  exact (fun _ _ _ _ _ _ h => h)
set_option maxRecDepth 20000 in
theorem b_X3_reaches_38 {Z : Zt} {d : Nat} {p : Program} {e : Env} {R : Room} {s : State} {m : MethodId} {args : Array Value} {below : List Frame} {meth : Method} {c : Code} {Rp : RT} (C : Cx Z d jX3_reaches RX3 p R s m args meth c) : Sd Z jX3_reaches p e R s m args below meth c (MQ below (QcS Z Rp) args s 0 0 (fun a => Z.2.2.1 < a)) 38 (w_X3_reaches_38 (MS Z d) (Gw Z 7 p e R s m args below meth c (MQ below (QcS Z Rp) args s 0 0 (fun a => Z.2.2.1 < a))) Rp) := by
  unfold w_X3_reaches_38
  refine s_iload (k := 5) C (by decide +kernel) ?_
  refine s_iconst (n := 5) C (by decide +kernel) (by decide) ?_
  refine s_icmp_ge (off := 58) (tgt := 99) C (by decide +kernel) (by decide) (fun _ _ _ _ _ _ h => h) ?_
  refine s_iload (k := 5) C (by decide +kernel) ?_
  refine s_iload_n (k := 2) C (by decide +kernel) ?_
  refine s_icmp_eq (off := 8) (tgt := 55) C (by decide +kernel) (by decide) (fun _ _ _ _ _ _ h => h) ?_
  refine s_iload_n (k := 3) C (by decide +kernel) ?_
  refine s_iconst (n := 2) C (by decide +kernel) (by decide) ?_
  refine s_icmp_le (off := 41) (tgt := 93) C (by decide +kernel) (by decide) (fun _ _ _ _ _ _ h => h) ?_
  exact (fun _ _ _ _ _ _ h => h)
set_option maxRecDepth 20000 in
theorem b_X3_reaches_55 {Z : Zt} {d : Nat} {p : Program} {e : Env} {R : Room} {s : State} {m : MethodId} {args : Array Value} {below : List Frame} {meth : Method} {c : Code} {Rp : RT} (C : Cx Z d jX3_reaches RX3 p R s m args meth c) : Sd Z jX3_reaches p e R s m args below meth c (MQ below (QcS Z Rp) args s 0 0 (fun a => Z.2.2.1 < a)) 55 (w_X3_reaches_55 (MS Z d) (Gw Z 7 p e R s m args below meth c (MQ below (QcS Z Rp) args s 0 0 (fun a => Z.2.2.1 < a))) Rp) := by
  unfold w_X3_reaches_55
  refine s_aload_n (k := 1) C (by decide +kernel) ?_
  refine s_iload (k := 5) C (by decide +kernel) ?_
  refine s_callV C rfl rfl (by decide +kernel) rfl w_5_220 w_3_106 w_3_107 w_1_2 w_3_108 (by decide +kernel) ?_
  refine s_if_eq (off := 32) (tgt := 93) C (by decide +kernel) (by decide) (fun _ _ _ _ _ _ h => h) ?_
  refine s_aload (k := 4) C (by decide +kernel) ?_
  refine s_aload_n (k := 1) C (by decide +kernel) ?_
  refine s_callV C rfl rfl (by decide +kernel) rfl w_5_215 w_3_37 w_3_38 w_1_2 w_3_39 (by decide +kernel) ?_
  refine s_aload (k := 4) C (by decide +kernel) ?_
  refine s_iload (k := 5) C (by decide +kernel) ?_
  refine s_callV C rfl rfl (by decide +kernel) rfl w_5_221 w_3_99 w_3_100 w_1_2 w_3_101 (by decide +kernel) ?_
  refine s_pop C (by decide +kernel) ?_
  refine s_aload_n (k := 0) C (by decide +kernel) ?_
  refine s_aload (k := 4) C (by decide +kernel) ?_
  refine s_iload_n (k := 2) C (by decide +kernel) ?_
  refine s_iload_n (k := 3) C (by decide +kernel) ?_
  refine s_iconst (n := 1) C (by decide +kernel) (by decide) ?_
  refine s_isub C (by decide +kernel) ?_
  refine s_callS C (by decide +kernel) rfl w_6_23 w_6_24 w_1_10 w_6_25 (by decide +kernel) ?_
  refine s_if_eq (off := 5) (tgt := 93) C (by decide +kernel) (by decide) (fun _ _ _ _ _ _ h => h) ?_
  refine s_iconst (n := 1) C (by decide +kernel) (by decide) ?_
  exact s_zret C rfl (by decide +kernel)
set_option maxRecDepth 20000 in
theorem b_X3_reaches_93 {Z : Zt} {d : Nat} {p : Program} {e : Env} {R : Room} {s : State} {m : MethodId} {args : Array Value} {below : List Frame} {meth : Method} {c : Code} {Rp : RT} (C : Cx Z d jX3_reaches RX3 p R s m args meth c) : Sd Z jX3_reaches p e R s m args below meth c (MQ below (QcS Z Rp) args s 0 0 (fun a => Z.2.2.1 < a)) 93 (w_X3_reaches_93 (MS Z d) (Gw Z 7 p e R s m args below meth c (MQ below (QcS Z Rp) args s 0 0 (fun a => Z.2.2.1 < a))) Rp) := by
  unfold w_X3_reaches_93
  refine s_iinc (n := 1) C (by decide +kernel) (by decide) ?_
  exact s_goto (off := (-58)) (tgt := 38) C (by decide +kernel) (by decide) (fun _ _ _ _ _ _ h => h)
set_option maxRecDepth 20000 in
theorem b_X3_reaches_99 {Z : Zt} {d : Nat} {p : Program} {e : Env} {R : Room} {s : State} {m : MethodId} {args : Array Value} {below : List Frame} {meth : Method} {c : Code} {Rp : RT} (C : Cx Z d jX3_reaches RX3 p R s m args meth c) : Sd Z jX3_reaches p e R s m args below meth c (MQ below (QcS Z Rp) args s 0 0 (fun a => Z.2.2.1 < a)) 99 (w_X3_reaches_99 (MS Z d) (Gw Z 7 p e R s m args below meth c (MQ below (QcS Z Rp) args s 0 0 (fun a => Z.2.2.1 < a))) Rp) := by
  unfold w_X3_reaches_99
  refine s_iconst (n := 0) C (by decide +kernel) (by decide) ?_
  refine s_istore (k := 5) C (by decide +kernel) ?_
  exact (fun _ _ _ _ _ _ h => h)
set_option maxRecDepth 20000 in
theorem b_X3_reaches_102 {Z : Zt} {d : Nat} {p : Program} {e : Env} {R : Room} {s : State} {m : MethodId} {args : Array Value} {below : List Frame} {meth : Method} {c : Code} {Rp : RT} (C : Cx Z d jX3_reaches RX3 p R s m args meth c) : Sd Z jX3_reaches p e R s m args below meth c (MQ below (QcS Z Rp) args s 0 0 (fun a => Z.2.2.1 < a)) 102 (w_X3_reaches_102 (MS Z d) (Gw Z 7 p e R s m args below meth c (MQ below (QcS Z Rp) args s 0 0 (fun a => Z.2.2.1 < a))) Rp) := by
  unfold w_X3_reaches_102
  refine s_iload (k := 5) C (by decide +kernel) ?_
  refine s_aload_n (k := 1) C (by decide +kernel) ?_
  refine s_getR C w_2_118 (by decide +kernel) rfl ?_
  refine s_getI C w_1_124 (by decide +kernel) rfl ?_
  refine s_icmp_ge (off := 69) (tgt := 180) C (by decide +kernel) (by decide) (fun _ _ _ _ _ _ h => h) ?_
  refine s_aload_n (k := 1) C (by decide +kernel) ?_
  refine s_getR C w_2_118 (by decide +kernel) rfl ?_
  refine s_getR C w_1_120 (by decide +kernel) rfl ?_
  refine s_iload (k := 5) C (by decide +kernel) ?_
  refine s_aald C rfl (by decide +kernel) ?_
  refine s_astore (k := 6) C (by decide +kernel) ?_
  refine s_aload (k := 6) C (by decide +kernel) ?_
  refine s_iload_n (k := 2) C (by decide +kernel) ?_
  refine s_iload_n (k := 3) C (by decide +kernel) ?_
  refine s_callS C (by decide +kernel) rfl w_6_26 w_6_27 w_1_10 w_6_28 (by decide +kernel) ?_
  refine s_if_eq (off := 41) (tgt := 174) C (by decide +kernel) (by decide) (fun _ _ _ _ _ _ h => h) ?_
  refine s_aload_n (k := 1) C (by decide +kernel) ?_
  refine s_aload (k := 6) C (by decide +kernel) ?_
  refine s_callV C rfl rfl (by decide +kernel) rfl w_6_29 w_4_76 w_4_77 w_1_2 w_4_78 (by decide +kernel) ?_
  refine s_if_eq (off := 32) (tgt := 174) C (by decide +kernel) (by decide) (fun _ _ _ _ _ _ h => h) ?_
  refine s_aload (k := 4) C (by decide +kernel) ?_
  refine s_aload_n (k := 1) C (by decide +kernel) ?_
  refine s_callV C rfl rfl (by decide +kernel) rfl w_5_215 w_3_37 w_3_38 w_1_2 w_3_39 (by decide +kernel) ?_
  refine s_aload (k := 4) C (by decide +kernel) ?_
  refine s_iload (k := 5) C (by decide +kernel) ?_
  refine s_callV C rfl rfl (by decide +kernel) rfl w_5_219 w_4_68 w_4_69 w_1_2 w_4_70 (by decide +kernel) ?_
  refine s_pop C (by decide +kernel) ?_
  refine s_aload_n (k := 0) C (by decide +kernel) ?_
  refine s_aload (k := 4) C (by decide +kernel) ?_
  refine s_iload_n (k := 2) C (by decide +kernel) ?_
  refine s_iload_n (k := 3) C (by decide +kernel) ?_
  refine s_iconst (n := 1) C (by decide +kernel) (by decide) ?_
  refine s_isub C (by decide +kernel) ?_
  refine s_callS C (by decide +kernel) rfl w_6_23 w_6_24 w_1_10 w_6_25 (by decide +kernel) ?_
  refine s_if_eq (off := 5) (tgt := 174) C (by decide +kernel) (by decide) (fun _ _ _ _ _ _ h => h) ?_
  refine s_iconst (n := 1) C (by decide +kernel) (by decide) ?_
  exact s_zret C rfl (by decide +kernel)
set_option maxRecDepth 20000 in
theorem b_X3_reaches_174 {Z : Zt} {d : Nat} {p : Program} {e : Env} {R : Room} {s : State} {m : MethodId} {args : Array Value} {below : List Frame} {meth : Method} {c : Code} {Rp : RT} (C : Cx Z d jX3_reaches RX3 p R s m args meth c) : Sd Z jX3_reaches p e R s m args below meth c (MQ below (QcS Z Rp) args s 0 0 (fun a => Z.2.2.1 < a)) 174 (w_X3_reaches_174 (MS Z d) (Gw Z 7 p e R s m args below meth c (MQ below (QcS Z Rp) args s 0 0 (fun a => Z.2.2.1 < a))) Rp) := by
  unfold w_X3_reaches_174
  refine s_iinc (n := 1) C (by decide +kernel) (by decide) ?_
  exact s_goto (off := (-75)) (tgt := 102) C (by decide +kernel) (by decide) (fun _ _ _ _ _ _ h => h)
set_option maxRecDepth 20000 in
theorem b_X3_reaches_180 {Z : Zt} {d : Nat} {p : Program} {e : Env} {R : Room} {s : State} {m : MethodId} {args : Array Value} {below : List Frame} {meth : Method} {c : Code} {Rp : RT} (C : Cx Z d jX3_reaches RX3 p R s m args meth c) : Sd Z jX3_reaches p e R s m args below meth c (MQ below (QcS Z Rp) args s 0 0 (fun a => Z.2.2.1 < a)) 180 (w_X3_reaches_180 (MS Z d) (Gw Z 7 p e R s m args below meth c (MQ below (QcS Z Rp) args s 0 0 (fun a => Z.2.2.1 < a))) Rp) := by
  unfold w_X3_reaches_180
  refine s_iconst (n := 0) C (by decide +kernel) (by decide) ?_
  exact s_zret C rfl (by decide +kernel)
theorem ms_X3_reaches {Z : Zt} {d : Nat} {S : Sh} {μ : Mi} {ρ : Mr} {Rp : RT} (a1 : Nat) (a2 : Nat) (x3 : Int32) (x4 : Int32) (h : ∀ G : Nat → PT, (∀ (L st : List Value) (S : Sh) (q : Nat × Nat) (μ : Mi) (ρ : Mr), w_X3_reaches_15 (MS Z d) G Rp L st S q μ ρ → G 15 L st S q μ ρ) → (∀ (L st : List Value) (S : Sh) (q : Nat × Nat) (μ : Mi) (ρ : Mr), w_X3_reaches_26 (MS Z d) G Rp L st S q μ ρ → G 26 L st S q μ ρ) → (∀ (L st : List Value) (S : Sh) (q : Nat × Nat) (μ : Mi) (ρ : Mr), w_X3_reaches_28 (MS Z d) G Rp L st S q μ ρ → G 28 L st S q μ ρ) → (∀ (L st : List Value) (S : Sh) (q : Nat × Nat) (μ : Mi) (ρ : Mr), w_X3_reaches_38 (MS Z d) G Rp L st S q μ ρ → G 38 L st S q μ ρ) → (∀ (L st : List Value) (S : Sh) (q : Nat × Nat) (μ : Mi) (ρ : Mr), w_X3_reaches_55 (MS Z d) G Rp L st S q μ ρ → G 55 L st S q μ ρ) → (∀ (L st : List Value) (S : Sh) (q : Nat × Nat) (μ : Mi) (ρ : Mr), w_X3_reaches_93 (MS Z d) G Rp L st S q μ ρ → G 93 L st S q μ ρ) → (∀ (L st : List Value) (S : Sh) (q : Nat × Nat) (μ : Mi) (ρ : Mr), w_X3_reaches_99 (MS Z d) G Rp L st S q μ ρ → G 99 L st S q μ ρ) → (∀ (L st : List Value) (S : Sh) (q : Nat × Nat) (μ : Mi) (ρ : Mr), w_X3_reaches_102 (MS Z d) G Rp L st S q μ ρ → G 102 L st S q μ ρ) → (∀ (L st : List Value) (S : Sh) (q : Nat × Nat) (μ : Mi) (ρ : Mr), w_X3_reaches_174 (MS Z d) G Rp L st S q μ ρ → G 174 L st S q μ ρ) → (∀ (L st : List Value) (S : Sh) (q : Nat × Nat) (μ : Mi) (ρ : Mr), w_X3_reaches_180 (MS Z d) G Rp L st S q μ ρ → G 180 L st S q μ ρ) → w_X3_reaches_0 (MS Z d) G Rp [.ref a1, .ref a2, .int x3, .int x4, .null, .null, .null] [] S (0, 0) μ ρ) : MS Z (d + 1) jX3_reaches [.ref a1, .ref a2, .int x3, .int x4] S μ ρ Rp :=
  MS_of [.ref a1, .ref a2, .int x3, .int x4, .null, .null, .null] (by decide +kernel) rfl rfl (Nat.le_of_ble_eq_true rfl) rfl (fun p e R s m args below meth c C => b_X3_reaches_0 C _ _ _ _ _ _ (h _ (b_X3_reaches_15 C) (b_X3_reaches_26 C) (b_X3_reaches_28 C) (b_X3_reaches_38 C) (b_X3_reaches_55 C) (b_X3_reaches_93 C) (b_X3_reaches_99 C) (b_X3_reaches_102 C) (b_X3_reaches_174 C) (b_X3_reaches_180 C)))
def w_X3_mayHelp_0 (M : CT) (G : Nat → PT) (Rp : RT) : PT := tAload 0 <| tGetI 2 10 2 <| tIf (fun x => x = 0) (G 16) <| tAload 0 <| tGetI 2 10 2 <| tConst 7 <| tIf2 (fun x y => x ≠ y) (G 20) <| G 16
def w_X3_mayHelp_16 (M : CT) (G : Nat → PT) (Rp : RT) : PT := tConst 1 <| tGoto (G 21)
def w_X3_mayHelp_20 (M : CT) (G : Nat → PT) (Rp : RT) : PT := tConst 0 <| G 21
def w_X3_mayHelp_21 (M : CT) (G : Nat → PT) (Rp : RT) : PT := tIstore 3 <| tAload 0 <| tGetI 2 10 2 <| tConst 1 <| tIf2 (fun x y => x = y) (G 48) <| tAload 0 <| tGetI 2 10 2 <| tConst 6 <| tIf2 (fun x y => x = y) (G 48) <| tAload 0 <| tGetI 2 10 2 <| tConst 8 <| tIf2 (fun x y => x ≠ y) (G 52) <| G 48
def w_X3_mayHelp_48 (M : CT) (G : Nat → PT) (Rp : RT) : PT := tConst 1 <| tGoto (G 53)
def w_X3_mayHelp_52 (M : CT) (G : Nat → PT) (Rp : RT) : PT := tConst 0 <| G 53
def w_X3_mayHelp_53 (M : CT) (G : Nat → PT) (Rp : RT) : PT := tIstore 4 <| tIload 2 <| tSw [(1, G 84), (2, G 103)] (G 129)
def w_X3_mayHelp_84 (M : CT) (G : Nat → PT) (Rp : RT) : PT := tAload 0 <| tGetI 2 10 1 <| tIload 1 <| tIf2 (fun x y => x ≠ y) (G 101) <| tIload 4 <| tIf (fun x => x = 0) (G 101) <| tConst 1 <| tGoto (G 102)
def w_X3_mayHelp_101 (M : CT) (G : Nat → PT) (Rp : RT) : PT := tConst 0 <| G 102
def w_X3_mayHelp_102 (M : CT) (G : Nat → PT) (Rp : RT) : PT := tZret Rp
def w_X3_mayHelp_103 (M : CT) (G : Nat → PT) (Rp : RT) : PT := tAload 0 <| tGetI 2 10 1 <| tIload 1 <| tIf2 (fun x y => x = y) (G 123) <| tAload 0 <| tGetI 2 10 0 <| tIload 1 <| tIf2 (fun x y => x ≠ y) (G 127) <| tIload 3 <| tIf (fun x => x = 0) (G 127) <| G 123
def w_X3_mayHelp_123 (M : CT) (G : Nat → PT) (Rp : RT) : PT := tConst 1 <| tGoto (G 128)
def w_X3_mayHelp_127 (M : CT) (G : Nat → PT) (Rp : RT) : PT := tConst 0 <| G 128
def w_X3_mayHelp_128 (M : CT) (G : Nat → PT) (Rp : RT) : PT := tZret Rp
def w_X3_mayHelp_129 (M : CT) (G : Nat → PT) (Rp : RT) : PT := tConst 1 <| tZret Rp
set_option maxRecDepth 20000 in
theorem b_X3_mayHelp_0 {Z : Zt} {d : Nat} {p : Program} {e : Env} {R : Room} {s : State} {m : MethodId} {args : Array Value} {below : List Frame} {meth : Method} {c : Code} {Rp : RT} (C : Cx Z d jX3_mayHelp RX3 p R s m args meth c) : Sd Z jX3_mayHelp p e R s m args below meth c (MQ below (QcS Z Rp) args s 0 0 (fun a => Z.2.2.1 < a)) 0 (w_X3_mayHelp_0 (MS Z d) (Gw Z 5 p e R s m args below meth c (MQ below (QcS Z Rp) args s 0 0 (fun a => Z.2.2.1 < a))) Rp) := by
  unfold w_X3_mayHelp_0
  refine s_aload_n (k := 0) C (by decide +kernel) ?_
  refine s_getI C w_1_64 (by decide +kernel) rfl ?_
  refine s_if_eq (off := 12) (tgt := 16) C (by decide +kernel) (by decide) (fun _ _ _ _ _ _ h => h) ?_
  refine s_aload_n (k := 0) C (by decide +kernel) ?_
  refine s_getI C w_1_64 (by decide +kernel) rfl ?_
  refine s_bipush (n := 7) C (by decide +kernel) (by decide) ?_
  refine s_icmp_ne (off := 7) (tgt := 20) C (by decide +kernel) (by decide) (fun _ _ _ _ _ _ h => h) ?_
  exact (fun _ _ _ _ _ _ h => h)
set_option maxRecDepth 20000 in
theorem b_X3_mayHelp_16 {Z : Zt} {d : Nat} {p : Program} {e : Env} {R : Room} {s : State} {m : MethodId} {args : Array Value} {below : List Frame} {meth : Method} {c : Code} {Rp : RT} (C : Cx Z d jX3_mayHelp RX3 p R s m args meth c) : Sd Z jX3_mayHelp p e R s m args below meth c (MQ below (QcS Z Rp) args s 0 0 (fun a => Z.2.2.1 < a)) 16 (w_X3_mayHelp_16 (MS Z d) (Gw Z 5 p e R s m args below meth c (MQ below (QcS Z Rp) args s 0 0 (fun a => Z.2.2.1 < a))) Rp) := by
  unfold w_X3_mayHelp_16
  refine s_iconst (n := 1) C (by decide +kernel) (by decide) ?_
  exact s_goto (off := 4) (tgt := 21) C (by decide +kernel) (by decide) (fun _ _ _ _ _ _ h => h)
set_option maxRecDepth 20000 in
theorem b_X3_mayHelp_20 {Z : Zt} {d : Nat} {p : Program} {e : Env} {R : Room} {s : State} {m : MethodId} {args : Array Value} {below : List Frame} {meth : Method} {c : Code} {Rp : RT} (C : Cx Z d jX3_mayHelp RX3 p R s m args meth c) : Sd Z jX3_mayHelp p e R s m args below meth c (MQ below (QcS Z Rp) args s 0 0 (fun a => Z.2.2.1 < a)) 20 (w_X3_mayHelp_20 (MS Z d) (Gw Z 5 p e R s m args below meth c (MQ below (QcS Z Rp) args s 0 0 (fun a => Z.2.2.1 < a))) Rp) := by
  unfold w_X3_mayHelp_20
  refine s_iconst (n := 0) C (by decide +kernel) (by decide) ?_
  exact (fun _ _ _ _ _ _ h => h)
set_option maxRecDepth 20000 in
theorem b_X3_mayHelp_21 {Z : Zt} {d : Nat} {p : Program} {e : Env} {R : Room} {s : State} {m : MethodId} {args : Array Value} {below : List Frame} {meth : Method} {c : Code} {Rp : RT} (C : Cx Z d jX3_mayHelp RX3 p R s m args meth c) : Sd Z jX3_mayHelp p e R s m args below meth c (MQ below (QcS Z Rp) args s 0 0 (fun a => Z.2.2.1 < a)) 21 (w_X3_mayHelp_21 (MS Z d) (Gw Z 5 p e R s m args below meth c (MQ below (QcS Z Rp) args s 0 0 (fun a => Z.2.2.1 < a))) Rp) := by
  unfold w_X3_mayHelp_21
  refine s_istore_n (k := 3) C (by decide +kernel) ?_
  refine s_aload_n (k := 0) C (by decide +kernel) ?_
  refine s_getI C w_1_64 (by decide +kernel) rfl ?_
  refine s_iconst (n := 1) C (by decide +kernel) (by decide) ?_
  refine s_icmp_eq (off := 21) (tgt := 48) C (by decide +kernel) (by decide) (fun _ _ _ _ _ _ h => h) ?_
  refine s_aload_n (k := 0) C (by decide +kernel) ?_
  refine s_getI C w_1_64 (by decide +kernel) rfl ?_
  refine s_bipush (n := 6) C (by decide +kernel) (by decide) ?_
  refine s_icmp_eq (off := 12) (tgt := 48) C (by decide +kernel) (by decide) (fun _ _ _ _ _ _ h => h) ?_
  refine s_aload_n (k := 0) C (by decide +kernel) ?_
  refine s_getI C w_1_64 (by decide +kernel) rfl ?_
  refine s_bipush (n := 8) C (by decide +kernel) (by decide) ?_
  refine s_icmp_ne (off := 7) (tgt := 52) C (by decide +kernel) (by decide) (fun _ _ _ _ _ _ h => h) ?_
  exact (fun _ _ _ _ _ _ h => h)
set_option maxRecDepth 20000 in
theorem b_X3_mayHelp_48 {Z : Zt} {d : Nat} {p : Program} {e : Env} {R : Room} {s : State} {m : MethodId} {args : Array Value} {below : List Frame} {meth : Method} {c : Code} {Rp : RT} (C : Cx Z d jX3_mayHelp RX3 p R s m args meth c) : Sd Z jX3_mayHelp p e R s m args below meth c (MQ below (QcS Z Rp) args s 0 0 (fun a => Z.2.2.1 < a)) 48 (w_X3_mayHelp_48 (MS Z d) (Gw Z 5 p e R s m args below meth c (MQ below (QcS Z Rp) args s 0 0 (fun a => Z.2.2.1 < a))) Rp) := by
  unfold w_X3_mayHelp_48
  refine s_iconst (n := 1) C (by decide +kernel) (by decide) ?_
  exact s_goto (off := 4) (tgt := 53) C (by decide +kernel) (by decide) (fun _ _ _ _ _ _ h => h)
set_option maxRecDepth 20000 in
theorem b_X3_mayHelp_52 {Z : Zt} {d : Nat} {p : Program} {e : Env} {R : Room} {s : State} {m : MethodId} {args : Array Value} {below : List Frame} {meth : Method} {c : Code} {Rp : RT} (C : Cx Z d jX3_mayHelp RX3 p R s m args meth c) : Sd Z jX3_mayHelp p e R s m args below meth c (MQ below (QcS Z Rp) args s 0 0 (fun a => Z.2.2.1 < a)) 52 (w_X3_mayHelp_52 (MS Z d) (Gw Z 5 p e R s m args below meth c (MQ below (QcS Z Rp) args s 0 0 (fun a => Z.2.2.1 < a))) Rp) := by
  unfold w_X3_mayHelp_52
  refine s_iconst (n := 0) C (by decide +kernel) (by decide) ?_
  exact (fun _ _ _ _ _ _ h => h)
set_option maxRecDepth 20000 in
theorem b_X3_mayHelp_53 {Z : Zt} {d : Nat} {p : Program} {e : Env} {R : Room} {s : State} {m : MethodId} {args : Array Value} {below : List Frame} {meth : Method} {c : Code} {Rp : RT} (C : Cx Z d jX3_mayHelp RX3 p R s m args meth c) : Sd Z jX3_mayHelp p e R s m args below meth c (MQ below (QcS Z Rp) args s 0 0 (fun a => Z.2.2.1 < a)) 53 (w_X3_mayHelp_53 (MS Z d) (Gw Z 5 p e R s m args below meth c (MQ below (QcS Z Rp) args s 0 0 (fun a => Z.2.2.1 < a))) Rp) := by
  unfold w_X3_mayHelp_53
  refine s_istore (k := 4) C (by decide +kernel) ?_
  refine s_iload_n (k := 2) C (by decide +kernel) ?_
  refine s_lsw (df := 73) (ps := #[(1, 28), (2, 47)]) (len := 28) C (by decide +kernel) (by decide) 129 (by decide) (fun _ _ _ _ _ _ h => h) (fun i r h => ?_) (fun x h => ?_)
  · match i, h with
    | 0, h => cases h; dsimp only; exact ⟨28, 84, by decide, by decide, (fun _ _ _ _ _ _ h => h)⟩
    | 1, h => cases h; dsimp only; exact ⟨47, 103, by decide, by decide, (fun _ _ _ _ _ _ h => h)⟩
    | q + 2, h => simp at h
  · refine lsw_out _ _ x (fun a ha => ?_)
    simp at ha h
    rcases ha with ⟨rfl, _⟩ | ⟨rfl, _⟩
    · exact fun z => h.1 (Int32.toInt_inj.mp (by rw [z]; rfl))
    · exact fun z => h.2 (Int32.toInt_inj.mp (by rw [z]; rfl))
set_option maxRecDepth 20000 in
theorem b_X3_mayHelp_84 {Z : Zt} {d : Nat} {p : Program} {e : Env} {R : Room} {s : State} {m : MethodId} {args : Array Value} {below : List Frame} {meth : Method} {c : Code} {Rp : RT} (C : Cx Z d jX3_mayHelp RX3 p R s m args meth c) : Sd Z jX3_mayHelp p e R s m args below meth c (MQ below (QcS Z Rp) args s 0 0 (fun a => Z.2.2.1 < a)) 84 (w_X3_mayHelp_84 (MS Z d) (Gw Z 5 p e R s m args below meth c (MQ below (QcS Z Rp) args s 0 0 (fun a => Z.2.2.1 < a))) Rp) := by
  unfold w_X3_mayHelp_84
  refine s_aload_n (k := 0) C (by decide +kernel) ?_
  refine s_getI C w_1_59 (by decide +kernel) rfl ?_
  refine s_iload_n (k := 1) C (by decide +kernel) ?_
  refine s_icmp_ne (off := 12) (tgt := 101) C (by decide +kernel) (by decide) (fun _ _ _ _ _ _ h => h) ?_
  refine s_iload (k := 4) C (by decide +kernel) ?_
  refine s_if_eq (off := 7) (tgt := 101) C (by decide +kernel) (by decide) (fun _ _ _ _ _ _ h => h) ?_
  refine s_iconst (n := 1) C (by decide +kernel) (by decide) ?_
  exact s_goto (off := 4) (tgt := 102) C (by decide +kernel) (by decide) (fun _ _ _ _ _ _ h => h)
set_option maxRecDepth 20000 in
theorem b_X3_mayHelp_101 {Z : Zt} {d : Nat} {p : Program} {e : Env} {R : Room} {s : State} {m : MethodId} {args : Array Value} {below : List Frame} {meth : Method} {c : Code} {Rp : RT} (C : Cx Z d jX3_mayHelp RX3 p R s m args meth c) : Sd Z jX3_mayHelp p e R s m args below meth c (MQ below (QcS Z Rp) args s 0 0 (fun a => Z.2.2.1 < a)) 101 (w_X3_mayHelp_101 (MS Z d) (Gw Z 5 p e R s m args below meth c (MQ below (QcS Z Rp) args s 0 0 (fun a => Z.2.2.1 < a))) Rp) := by
  unfold w_X3_mayHelp_101
  refine s_iconst (n := 0) C (by decide +kernel) (by decide) ?_
  exact (fun _ _ _ _ _ _ h => h)
set_option maxRecDepth 20000 in
theorem b_X3_mayHelp_102 {Z : Zt} {d : Nat} {p : Program} {e : Env} {R : Room} {s : State} {m : MethodId} {args : Array Value} {below : List Frame} {meth : Method} {c : Code} {Rp : RT} (C : Cx Z d jX3_mayHelp RX3 p R s m args meth c) : Sd Z jX3_mayHelp p e R s m args below meth c (MQ below (QcS Z Rp) args s 0 0 (fun a => Z.2.2.1 < a)) 102 (w_X3_mayHelp_102 (MS Z d) (Gw Z 5 p e R s m args below meth c (MQ below (QcS Z Rp) args s 0 0 (fun a => Z.2.2.1 < a))) Rp) := by
  unfold w_X3_mayHelp_102
  exact s_zret C rfl (by decide +kernel)
set_option maxRecDepth 20000 in
theorem b_X3_mayHelp_103 {Z : Zt} {d : Nat} {p : Program} {e : Env} {R : Room} {s : State} {m : MethodId} {args : Array Value} {below : List Frame} {meth : Method} {c : Code} {Rp : RT} (C : Cx Z d jX3_mayHelp RX3 p R s m args meth c) : Sd Z jX3_mayHelp p e R s m args below meth c (MQ below (QcS Z Rp) args s 0 0 (fun a => Z.2.2.1 < a)) 103 (w_X3_mayHelp_103 (MS Z d) (Gw Z 5 p e R s m args below meth c (MQ below (QcS Z Rp) args s 0 0 (fun a => Z.2.2.1 < a))) Rp) := by
  unfold w_X3_mayHelp_103
  refine s_aload_n (k := 0) C (by decide +kernel) ?_
  refine s_getI C w_1_59 (by decide +kernel) rfl ?_
  refine s_iload_n (k := 1) C (by decide +kernel) ?_
  refine s_icmp_eq (off := 15) (tgt := 123) C (by decide +kernel) (by decide) (fun _ _ _ _ _ _ h => h) ?_
  refine s_aload_n (k := 0) C (by decide +kernel) ?_
  refine s_getI C w_1_54 (by decide +kernel) rfl ?_
  refine s_iload_n (k := 1) C (by decide +kernel) ?_
  refine s_icmp_ne (off := 11) (tgt := 127) C (by decide +kernel) (by decide) (fun _ _ _ _ _ _ h => h) ?_
  refine s_iload_n (k := 3) C (by decide +kernel) ?_
  refine s_if_eq (off := 7) (tgt := 127) C (by decide +kernel) (by decide) (fun _ _ _ _ _ _ h => h) ?_
  exact (fun _ _ _ _ _ _ h => h)
set_option maxRecDepth 20000 in
theorem b_X3_mayHelp_123 {Z : Zt} {d : Nat} {p : Program} {e : Env} {R : Room} {s : State} {m : MethodId} {args : Array Value} {below : List Frame} {meth : Method} {c : Code} {Rp : RT} (C : Cx Z d jX3_mayHelp RX3 p R s m args meth c) : Sd Z jX3_mayHelp p e R s m args below meth c (MQ below (QcS Z Rp) args s 0 0 (fun a => Z.2.2.1 < a)) 123 (w_X3_mayHelp_123 (MS Z d) (Gw Z 5 p e R s m args below meth c (MQ below (QcS Z Rp) args s 0 0 (fun a => Z.2.2.1 < a))) Rp) := by
  unfold w_X3_mayHelp_123
  refine s_iconst (n := 1) C (by decide +kernel) (by decide) ?_
  exact s_goto (off := 4) (tgt := 128) C (by decide +kernel) (by decide) (fun _ _ _ _ _ _ h => h)
set_option maxRecDepth 20000 in
theorem b_X3_mayHelp_127 {Z : Zt} {d : Nat} {p : Program} {e : Env} {R : Room} {s : State} {m : MethodId} {args : Array Value} {below : List Frame} {meth : Method} {c : Code} {Rp : RT} (C : Cx Z d jX3_mayHelp RX3 p R s m args meth c) : Sd Z jX3_mayHelp p e R s m args below meth c (MQ below (QcS Z Rp) args s 0 0 (fun a => Z.2.2.1 < a)) 127 (w_X3_mayHelp_127 (MS Z d) (Gw Z 5 p e R s m args below meth c (MQ below (QcS Z Rp) args s 0 0 (fun a => Z.2.2.1 < a))) Rp) := by
  unfold w_X3_mayHelp_127
  refine s_iconst (n := 0) C (by decide +kernel) (by decide) ?_
  exact (fun _ _ _ _ _ _ h => h)
set_option maxRecDepth 20000 in
theorem b_X3_mayHelp_128 {Z : Zt} {d : Nat} {p : Program} {e : Env} {R : Room} {s : State} {m : MethodId} {args : Array Value} {below : List Frame} {meth : Method} {c : Code} {Rp : RT} (C : Cx Z d jX3_mayHelp RX3 p R s m args meth c) : Sd Z jX3_mayHelp p e R s m args below meth c (MQ below (QcS Z Rp) args s 0 0 (fun a => Z.2.2.1 < a)) 128 (w_X3_mayHelp_128 (MS Z d) (Gw Z 5 p e R s m args below meth c (MQ below (QcS Z Rp) args s 0 0 (fun a => Z.2.2.1 < a))) Rp) := by
  unfold w_X3_mayHelp_128
  exact s_zret C rfl (by decide +kernel)
set_option maxRecDepth 20000 in
theorem b_X3_mayHelp_129 {Z : Zt} {d : Nat} {p : Program} {e : Env} {R : Room} {s : State} {m : MethodId} {args : Array Value} {below : List Frame} {meth : Method} {c : Code} {Rp : RT} (C : Cx Z d jX3_mayHelp RX3 p R s m args meth c) : Sd Z jX3_mayHelp p e R s m args below meth c (MQ below (QcS Z Rp) args s 0 0 (fun a => Z.2.2.1 < a)) 129 (w_X3_mayHelp_129 (MS Z d) (Gw Z 5 p e R s m args below meth c (MQ below (QcS Z Rp) args s 0 0 (fun a => Z.2.2.1 < a))) Rp) := by
  unfold w_X3_mayHelp_129
  refine s_iconst (n := 1) C (by decide +kernel) (by decide) ?_
  exact s_zret C rfl (by decide +kernel)
theorem ms_X3_mayHelp {Z : Zt} {d : Nat} {S : Sh} {μ : Mi} {ρ : Mr} {Rp : RT} (a1 : Nat) (x2 : Int32) (x3 : Int32) (h : ∀ G : Nat → PT, (∀ (L st : List Value) (S : Sh) (q : Nat × Nat) (μ : Mi) (ρ : Mr), w_X3_mayHelp_16 (MS Z d) G Rp L st S q μ ρ → G 16 L st S q μ ρ) → (∀ (L st : List Value) (S : Sh) (q : Nat × Nat) (μ : Mi) (ρ : Mr), w_X3_mayHelp_20 (MS Z d) G Rp L st S q μ ρ → G 20 L st S q μ ρ) → (∀ (L st : List Value) (S : Sh) (q : Nat × Nat) (μ : Mi) (ρ : Mr), w_X3_mayHelp_21 (MS Z d) G Rp L st S q μ ρ → G 21 L st S q μ ρ) → (∀ (L st : List Value) (S : Sh) (q : Nat × Nat) (μ : Mi) (ρ : Mr), w_X3_mayHelp_48 (MS Z d) G Rp L st S q μ ρ → G 48 L st S q μ ρ) → (∀ (L st : List Value) (S : Sh) (q : Nat × Nat) (μ : Mi) (ρ : Mr), w_X3_mayHelp_52 (MS Z d) G Rp L st S q μ ρ → G 52 L st S q μ ρ) → (∀ (L st : List Value) (S : Sh) (q : Nat × Nat) (μ : Mi) (ρ : Mr), w_X3_mayHelp_53 (MS Z d) G Rp L st S q μ ρ → G 53 L st S q μ ρ) → (∀ (L st : List Value) (S : Sh) (q : Nat × Nat) (μ : Mi) (ρ : Mr), w_X3_mayHelp_84 (MS Z d) G Rp L st S q μ ρ → G 84 L st S q μ ρ) → (∀ (L st : List Value) (S : Sh) (q : Nat × Nat) (μ : Mi) (ρ : Mr), w_X3_mayHelp_101 (MS Z d) G Rp L st S q μ ρ → G 101 L st S q μ ρ) → (∀ (L st : List Value) (S : Sh) (q : Nat × Nat) (μ : Mi) (ρ : Mr), w_X3_mayHelp_102 (MS Z d) G Rp L st S q μ ρ → G 102 L st S q μ ρ) → (∀ (L st : List Value) (S : Sh) (q : Nat × Nat) (μ : Mi) (ρ : Mr), w_X3_mayHelp_103 (MS Z d) G Rp L st S q μ ρ → G 103 L st S q μ ρ) → (∀ (L st : List Value) (S : Sh) (q : Nat × Nat) (μ : Mi) (ρ : Mr), w_X3_mayHelp_123 (MS Z d) G Rp L st S q μ ρ → G 123 L st S q μ ρ) → (∀ (L st : List Value) (S : Sh) (q : Nat × Nat) (μ : Mi) (ρ : Mr), w_X3_mayHelp_127 (MS Z d) G Rp L st S q μ ρ → G 127 L st S q μ ρ) → (∀ (L st : List Value) (S : Sh) (q : Nat × Nat) (μ : Mi) (ρ : Mr), w_X3_mayHelp_128 (MS Z d) G Rp L st S q μ ρ → G 128 L st S q μ ρ) → (∀ (L st : List Value) (S : Sh) (q : Nat × Nat) (μ : Mi) (ρ : Mr), w_X3_mayHelp_129 (MS Z d) G Rp L st S q μ ρ → G 129 L st S q μ ρ) → w_X3_mayHelp_0 (MS Z d) G Rp [.ref a1, .int x2, .int x3, .null, .null] [] S (0, 0) μ ρ) : MS Z (d + 1) jX3_mayHelp [.ref a1, .int x2, .int x3] S μ ρ Rp :=
  MS_of [.ref a1, .int x2, .int x3, .null, .null] (by decide +kernel) rfl rfl (Nat.le_of_ble_eq_true rfl) rfl (fun p e R s m args below meth c C => b_X3_mayHelp_0 C _ _ _ _ _ _ (h _ (b_X3_mayHelp_16 C) (b_X3_mayHelp_20 C) (b_X3_mayHelp_21 C) (b_X3_mayHelp_48 C) (b_X3_mayHelp_52 C) (b_X3_mayHelp_53 C) (b_X3_mayHelp_84 C) (b_X3_mayHelp_101 C) (b_X3_mayHelp_102 C) (b_X3_mayHelp_103 C) (b_X3_mayHelp_123 C) (b_X3_mayHelp_127 C) (b_X3_mayHelp_128 C) (b_X3_mayHelp_129 C)))
def w_X11_init_0 (M : CT) (G : Nat → PT) (Rp : RT) : PT := tAload 0 <| tObjI <| tAload 0 <| tNew 10 6 2735 37394 <| tDup <| tCallI M jX10_init 0 2735 37394 <| tPutR 11 11 0 <| tAload 0 <| tConst 9 <| tAnew 10 2735 37394 <| tPutR 11 11 1 <| tAload 0 <| tConst 2 <| tAnew 10 2735 37394 <| tPutR 11 11 2 <| tAload 0 <| tNew 3 2 2735 37394 <| tDup <| tCallI M jX3_init 0 2735 37394 <| tPutR 11 11 3 <| tAload 0 <| tNew 9 7 2735 37394 <| tDup <| tCallI M jX9_init 0 2735 37394 <| tPutR 11 11 4 <| tAload 0 <| tNew 4 10 2735 37394 <| tDup <| tCallI M jX4_init 0 2735 37394 <| tPutR 11 11 5 <| tAload 0 <| tConst 0 <| tPutI 11 11 6 <| tAload 0 <| tConst 0 <| tPutI 11 11 7 <| tAload 0 <| tConst 0 <| tPutI 11 11 8 <| tAload 0 <| tConst 0 <| tPutI 11 11 9 <| tAload 0 <| tConst (-1) <| tPutI 11 11 10 <| tConst 0 <| tIstore 1 <| G 92
def w_X11_init_92 (M : CT) (G : Nat → PT) (Rp : RT) : PT := tIload 1 <| tConst 9 <| tIf2 (fun x y => y ≤ x) (G 117) <| tAload 0 <| tGetR 11 11 1 <| tIload 1 <| tNew 10 6 2735 37394 <| tDup <| tCallI M jX10_init 0 2735 37394 <| tAast 10 <| tIinc 1 1 <| tGoto (G 92)
def w_X11_init_117 (M : CT) (G : Nat → PT) (Rp : RT) : PT := tConst 0 <| tIstore 1 <| G 119
def w_X11_init_119 (M : CT) (G : Nat → PT) (Rp : RT) : PT := tIload 1 <| tConst 2 <| tIf2 (fun x y => y ≤ x) (G 143) <| tAload 0 <| tGetR 11 11 2 <| tIload 1 <| tNew 10 6 2735 37394 <| tDup <| tCallI M jX10_init 0 2735 37394 <| tAast 10 <| tIinc 1 1 <| tGoto (G 119)
def w_X11_init_143 (M : CT) (G : Nat → PT) (Rp : RT) : PT := tVret Rp
set_option maxRecDepth 20000 in
theorem b_X11_init_0 {Z : Zt} {d : Nat} {p : Program} {e : Env} {R : Room} {s : State} {m : MethodId} {args : Array Value} {below : List Frame} {meth : Method} {c : Code} {Rp : RT} (C : Cx Z d jX11_init RX11 p R s m args meth c) : Sd Z jX11_init p e R s m args below meth c (MQ below (QcS Z Rp) args s 2735 37394 (fun a => Z.2.2.1 < a)) 0 (w_X11_init_0 (MS Z d) (Gw Z 2 p e R s m args below meth c (MQ below (QcS Z Rp) args s 2735 37394 (fun a => Z.2.2.1 < a))) Rp) := by
  unfold w_X11_init_0
  refine s_aload_n (k := 0) C (by decide +kernel) ?_
  refine s_objI C w_1_27 w_1_28 w_1_29 (by decide +kernel) ?_
  refine s_aload_n (k := 0) C (by decide +kernel) ?_
  refine s_new C rfl w_1_30 w_1_31 w_1_2 (by decide +kernel) ?_
  refine s_dup C (by decide +kernel) ?_
  refine s_callI C (by decide +kernel) ⟨rfl, rfl⟩ w_1_32 w_1_33 w_1_2 w_1_34 (by decide +kernel) ?_
  refine s_putR C w_2_234 (by decide +kernel) rfl (Or.inr ⟨rfl, rfl, rfl⟩) ?_
  refine s_aload_n (k := 0) C (by decide +kernel) ?_
  refine s_bipush (n := 9) C (by decide +kernel) (by decide) ?_
  refine s_anew C rfl w_1_30 w_2_143 (by decide +kernel) ?_
  refine s_putR C w_2_235 (by decide +kernel) rfl (Or.inr ⟨rfl, rfl, rfl⟩) ?_
  refine s_aload_n (k := 0) C (by decide +kernel) ?_
  refine s_iconst (n := 2) C (by decide +kernel) (by decide) ?_
  refine s_anew C rfl w_1_30 w_2_143 (by decide +kernel) ?_
  refine s_putR C w_2_236 (by decide +kernel) rfl (Or.inr ⟨rfl, rfl, rfl⟩) ?_
  refine s_aload_n (k := 0) C (by decide +kernel) ?_
  refine s_new C rfl w_2_144 w_2_145 w_1_10 (by decide +kernel) ?_
  refine s_dup C (by decide +kernel) ?_
  refine s_callI C (by decide +kernel) ⟨rfl, rfl⟩ w_2_146 w_2_147 w_1_10 w_2_148 (by decide +kernel) ?_
  refine s_putR C w_2_237 (by decide +kernel) rfl (Or.inr ⟨rfl, rfl, rfl⟩) ?_
  refine s_aload_n (k := 0) C (by decide +kernel) ?_
  refine s_new C rfl w_2_159 w_2_160 w_1_11 (by decide +kernel) ?_
  refine s_dup C (by decide +kernel) ?_
  refine s_callIN C (by decide +kernel) ⟨rfl, rfl⟩ w_2_161 w_2_162 w_1_11 w_2_163 (by decide +kernel) ?_
  refine s_putR C w_2_238 (by decide +kernel) rfl (Or.inr ⟨rfl, rfl, rfl⟩) ?_
  refine s_aload_n (k := 0) C (by decide +kernel) ?_
  refine s_new C rfl w_2_190 w_2_191 w_1_12 (by decide +kernel) ?_
  refine s_dup C (by decide +kernel) ?_
  refine s_callIN C (by decide +kernel) ⟨rfl, rfl⟩ w_2_192 w_2_193 w_1_12 w_2_194 (by decide +kernel) ?_
  refine s_putR C w_2_239 (by decide +kernel) rfl (Or.inr ⟨rfl, rfl, rfl⟩) ?_
  refine s_aload_n (k := 0) C (by decide +kernel) ?_
  refine s_iconst (n := 0) C (by decide +kernel) (by decide) ?_
  refine s_putI C w_3_0 (by decide +kernel) rfl (Or.inl rfl) ?_
  refine s_aload_n (k := 0) C (by decide +kernel) ?_
  refine s_iconst (n := 0) C (by decide +kernel) (by decide) ?_
  refine s_putI C w_3_1 (by decide +kernel) rfl (Or.inl rfl) ?_
  refine s_aload_n (k := 0) C (by decide +kernel) ?_
  refine s_iconst (n := 0) C (by decide +kernel) (by decide) ?_
  refine s_putI C w_3_2 (by decide +kernel) rfl (Or.inl rfl) ?_
  refine s_aload_n (k := 0) C (by decide +kernel) ?_
  refine s_iconst (n := 0) C (by decide +kernel) (by decide) ?_
  refine s_putI C w_3_3 (by decide +kernel) rfl (Or.inl rfl) ?_
  refine s_aload_n (k := 0) C (by decide +kernel) ?_
  refine s_iconst (n := (-1)) C (by decide +kernel) (by decide) ?_
  refine s_putI C w_3_4 (by decide +kernel) rfl (Or.inl rfl) ?_
  refine s_iconst (n := 0) C (by decide +kernel) (by decide) ?_
  refine s_istore_n (k := 1) C (by decide +kernel) ?_
  exact (fun _ _ _ _ _ _ h => h)
set_option maxRecDepth 20000 in
theorem b_X11_init_92 {Z : Zt} {d : Nat} {p : Program} {e : Env} {R : Room} {s : State} {m : MethodId} {args : Array Value} {below : List Frame} {meth : Method} {c : Code} {Rp : RT} (C : Cx Z d jX11_init RX11 p R s m args meth c) : Sd Z jX11_init p e R s m args below meth c (MQ below (QcS Z Rp) args s 2735 37394 (fun a => Z.2.2.1 < a)) 92 (w_X11_init_92 (MS Z d) (Gw Z 2 p e R s m args below meth c (MQ below (QcS Z Rp) args s 2735 37394 (fun a => Z.2.2.1 < a))) Rp) := by
  unfold w_X11_init_92
  refine s_iload_n (k := 1) C (by decide +kernel) ?_
  refine s_bipush (n := 9) C (by decide +kernel) (by decide) ?_
  refine s_icmp_ge (off := 22) (tgt := 117) C (by decide +kernel) (by decide) (fun _ _ _ _ _ _ h => h) ?_
  refine s_aload_n (k := 0) C (by decide +kernel) ?_
  refine s_getR C w_2_235 (by decide +kernel) rfl ?_
  refine s_iload_n (k := 1) C (by decide +kernel) ?_
  refine s_new C rfl w_1_30 w_1_31 w_1_2 (by decide +kernel) ?_
  refine s_dup C (by decide +kernel) ?_
  refine s_callI C (by decide +kernel) ⟨rfl, rfl⟩ w_1_32 w_1_33 w_1_2 w_1_34 (by decide +kernel) ?_
  refine s_aast C rfl (by decide +kernel) ?_
  refine s_iinc (n := 1) C (by decide +kernel) (by decide) ?_
  exact s_goto (off := (-22)) (tgt := 92) C (by decide +kernel) (by decide) (fun _ _ _ _ _ _ h => h)
set_option maxRecDepth 20000 in
theorem b_X11_init_117 {Z : Zt} {d : Nat} {p : Program} {e : Env} {R : Room} {s : State} {m : MethodId} {args : Array Value} {below : List Frame} {meth : Method} {c : Code} {Rp : RT} (C : Cx Z d jX11_init RX11 p R s m args meth c) : Sd Z jX11_init p e R s m args below meth c (MQ below (QcS Z Rp) args s 2735 37394 (fun a => Z.2.2.1 < a)) 117 (w_X11_init_117 (MS Z d) (Gw Z 2 p e R s m args below meth c (MQ below (QcS Z Rp) args s 2735 37394 (fun a => Z.2.2.1 < a))) Rp) := by
  unfold w_X11_init_117
  refine s_iconst (n := 0) C (by decide +kernel) (by decide) ?_
  refine s_istore_n (k := 1) C (by decide +kernel) ?_
  exact (fun _ _ _ _ _ _ h => h)
set_option maxRecDepth 20000 in
theorem b_X11_init_119 {Z : Zt} {d : Nat} {p : Program} {e : Env} {R : Room} {s : State} {m : MethodId} {args : Array Value} {below : List Frame} {meth : Method} {c : Code} {Rp : RT} (C : Cx Z d jX11_init RX11 p R s m args meth c) : Sd Z jX11_init p e R s m args below meth c (MQ below (QcS Z Rp) args s 2735 37394 (fun a => Z.2.2.1 < a)) 119 (w_X11_init_119 (MS Z d) (Gw Z 2 p e R s m args below meth c (MQ below (QcS Z Rp) args s 2735 37394 (fun a => Z.2.2.1 < a))) Rp) := by
  unfold w_X11_init_119
  refine s_iload_n (k := 1) C (by decide +kernel) ?_
  refine s_iconst (n := 2) C (by decide +kernel) (by decide) ?_
  refine s_icmp_ge (off := 22) (tgt := 143) C (by decide +kernel) (by decide) (fun _ _ _ _ _ _ h => h) ?_
  refine s_aload_n (k := 0) C (by decide +kernel) ?_
  refine s_getR C w_2_236 (by decide +kernel) rfl ?_
  refine s_iload_n (k := 1) C (by decide +kernel) ?_
  refine s_new C rfl w_1_30 w_1_31 w_1_2 (by decide +kernel) ?_
  refine s_dup C (by decide +kernel) ?_
  refine s_callI C (by decide +kernel) ⟨rfl, rfl⟩ w_1_32 w_1_33 w_1_2 w_1_34 (by decide +kernel) ?_
  refine s_aast C rfl (by decide +kernel) ?_
  refine s_iinc (n := 1) C (by decide +kernel) (by decide) ?_
  exact s_goto (off := (-21)) (tgt := 119) C (by decide +kernel) (by decide) (fun _ _ _ _ _ _ h => h)
set_option maxRecDepth 20000 in
theorem b_X11_init_143 {Z : Zt} {d : Nat} {p : Program} {e : Env} {R : Room} {s : State} {m : MethodId} {args : Array Value} {below : List Frame} {meth : Method} {c : Code} {Rp : RT} (C : Cx Z d jX11_init RX11 p R s m args meth c) : Sd Z jX11_init p e R s m args below meth c (MQ below (QcS Z Rp) args s 2735 37394 (fun a => Z.2.2.1 < a)) 143 (w_X11_init_143 (MS Z d) (Gw Z 2 p e R s m args below meth c (MQ below (QcS Z Rp) args s 2735 37394 (fun a => Z.2.2.1 < a))) Rp) := by
  unfold w_X11_init_143
  exact s_vret C rfl (by decide +kernel)
theorem ms_X11_init {Z : Zt} {d : Nat} {S : Sh} {μ : Mi} {ρ : Mr} {Rp : RT} (a0 : Nat) (h : ∀ G : Nat → PT, (∀ (L st : List Value) (S : Sh) (q : Nat × Nat) (μ : Mi) (ρ : Mr), w_X11_init_92 (MS Z d) G Rp L st S q μ ρ → G 92 L st S q μ ρ) → (∀ (L st : List Value) (S : Sh) (q : Nat × Nat) (μ : Mi) (ρ : Mr), w_X11_init_117 (MS Z d) G Rp L st S q μ ρ → G 117 L st S q μ ρ) → (∀ (L st : List Value) (S : Sh) (q : Nat × Nat) (μ : Mi) (ρ : Mr), w_X11_init_119 (MS Z d) G Rp L st S q μ ρ → G 119 L st S q μ ρ) → (∀ (L st : List Value) (S : Sh) (q : Nat × Nat) (μ : Mi) (ρ : Mr), w_X11_init_143 (MS Z d) G Rp L st S q μ ρ → G 143 L st S q μ ρ) → w_X11_init_0 (MS Z d) G Rp [.ref a0, .null] [] S (0, 0) μ ρ) : MS Z (d + 1) jX11_init [.ref a0] S μ ρ Rp :=
  MS_of [.ref a0, .null] (by decide +kernel) rfl rfl (Nat.le_of_ble_eq_true rfl) rfl (fun p e R s m args below meth c C => b_X11_init_0 C _ _ _ _ _ _ (h _ (b_X11_init_92 C) (b_X11_init_117 C) (b_X11_init_119 C) (b_X11_init_143 C)))
def w_X11_begin_0 (M : CT) (G : Nat → PT) (Rp : RT) : PT := tAload 0 <| tCallV M jX11_remember 11 11 0 <| tAload 0 <| tAload 0 <| tGetR 11 11 0 <| tIload 1 <| tCallV M jX10_beginsAnew 10 6 1 <| tCallV M jX11_kept 11 11 1 <| tIret Rp
set_option maxRecDepth 20000 in
theorem b_X11_begin_0 {Z : Zt} {d : Nat} {p : Program} {e : Env} {R : Room} {s : State} {m : MethodId} {args : Array Value} {below : List Frame} {meth : Method} {c : Code} {Rp : RT} (C : Cx Z d jX11_begin RX11 p R s m args meth c) : Sd Z jX11_begin p e R s m args below meth c (MQ below (QcS Z Rp) args s 0 0 (fun a => Z.2.2.1 < a)) 0 (w_X11_begin_0 (MS Z d) (Gw Z 2 p e R s m args below meth c (MQ below (QcS Z Rp) args s 0 0 (fun a => Z.2.2.1 < a))) Rp) := by
  unfold w_X11_begin_0
  refine s_aload_n (k := 0) C (by decide +kernel) ?_
  refine s_callV C rfl rfl (by decide +kernel) rfl w_3_32 w_3_34 w_p1_1 w_1_1 w_3_35 (by decide +kernel) ?_
  refine s_aload_n (k := 0) C (by decide +kernel) ?_
  refine s_aload_n (k := 0) C (by decide +kernel) ?_
  refine s_getR C w_2_234 (by decide +kernel) rfl ?_
  refine s_iload_n (k := 1) C (by decide +kernel) ?_
  refine s_callV C rfl rfl (by decide +kernel) rfl w_3_66 w_3_67 w_3_68 w_1_2 w_3_69 (by decide +kernel) ?_
  refine s_callV C rfl rfl (by decide +kernel) rfl w_3_79 w_3_81 w_p1_2 w_1_1 w_3_82 (by decide +kernel) ?_
  exact s_iret C rfl (by decide +kernel)
theorem ms_X11_begin {Z : Zt} {d : Nat} {S : Sh} {μ : Mi} {ρ : Mr} {Rp : RT} (a0 : Nat) (x1 : Int32) (h : ∀ G : Nat → PT, w_X11_begin_0 (MS Z d) G Rp [.ref a0, .int x1] [] S (0, 0) μ ρ) : MS Z (d + 1) jX11_begin [.ref a0, .int x1] S μ ρ Rp :=
  MS_of [.ref a0, .int x1] (by decide +kernel) rfl rfl (Nat.le_of_ble_eq_true rfl) rfl (fun p e R s m args below meth c C => b_X11_begin_0 C _ _ _ _ _ _ (h _ ))
def w_X11_careful_0 (M : CT) (G : Nat → PT) (Rp : RT) : PT := tAload 0 <| tCallV M jX11_remember 11 11 0 <| tAload 0 <| tAload 0 <| tGetR 11 11 0 <| tIload 1 <| tCallV M jX10_takesCare 10 6 1 <| tCallV M jX11_kept 11 11 1 <| tIret Rp
set_option maxRecDepth 20000 in
theorem b_X11_careful_0 {Z : Zt} {d : Nat} {p : Program} {e : Env} {R : Room} {s : State} {m : MethodId} {args : Array Value} {below : List Frame} {meth : Method} {c : Code} {Rp : RT} (C : Cx Z d jX11_careful RX11 p R s m args meth c) : Sd Z jX11_careful p e R s m args below meth c (MQ below (QcS Z Rp) args s 0 0 (fun a => Z.2.2.1 < a)) 0 (w_X11_careful_0 (MS Z d) (Gw Z 2 p e R s m args below meth c (MQ below (QcS Z Rp) args s 0 0 (fun a => Z.2.2.1 < a))) Rp) := by
  unfold w_X11_careful_0
  refine s_aload_n (k := 0) C (by decide +kernel) ?_
  refine s_callV C rfl rfl (by decide +kernel) rfl w_3_32 w_3_34 w_p1_1 w_1_1 w_3_35 (by decide +kernel) ?_
  refine s_aload_n (k := 0) C (by decide +kernel) ?_
  refine s_aload_n (k := 0) C (by decide +kernel) ?_
  refine s_getR C w_2_234 (by decide +kernel) rfl ?_
  refine s_iload_n (k := 1) C (by decide +kernel) ?_
  refine s_callV C rfl rfl (by decide +kernel) rfl w_3_90 w_3_91 w_3_92 w_1_2 w_3_93 (by decide +kernel) ?_
  refine s_callV C rfl rfl (by decide +kernel) rfl w_3_79 w_3_81 w_p1_2 w_1_1 w_3_82 (by decide +kernel) ?_
  exact s_iret C rfl (by decide +kernel)
theorem ms_X11_careful {Z : Zt} {d : Nat} {S : Sh} {μ : Mi} {ρ : Mr} {Rp : RT} (a0 : Nat) (x1 : Int32) (h : ∀ G : Nat → PT, w_X11_careful_0 (MS Z d) G Rp [.ref a0, .int x1] [] S (0, 0) μ ρ) : MS Z (d + 1) jX11_careful [.ref a0, .int x1] S μ ρ Rp :=
  MS_of [.ref a0, .int x1] (by decide +kernel) rfl rfl (Nat.le_of_ble_eq_true rfl) rfl (fun p e R s m args below meth c C => b_X11_careful_0 C _ _ _ _ _ _ (h _ ))
def w_X11_timeout_0 (M : CT) (G : Nat → PT) (Rp : RT) : PT := tAload 0 <| tCallV M jX11_remember 11 11 0 <| tAload 0 <| tAload 0 <| tGetR 11 11 0 <| tIload 1 <| tCallV M jX10_timesOut 10 6 1 <| tCallV M jX11_kept 11 11 1 <| tIret Rp
set_option maxRecDepth 20000 in
theorem b_X11_timeout_0 {Z : Zt} {d : Nat} {p : Program} {e : Env} {R : Room} {s : State} {m : MethodId} {args : Array Value} {below : List Frame} {meth : Method} {c : Code} {Rp : RT} (C : Cx Z d jX11_timeout RX11 p R s m args meth c) : Sd Z jX11_timeout p e R s m args below meth c (MQ below (QcS Z Rp) args s 0 0 (fun a => Z.2.2.1 < a)) 0 (w_X11_timeout_0 (MS Z d) (Gw Z 2 p e R s m args below meth c (MQ below (QcS Z Rp) args s 0 0 (fun a => Z.2.2.1 < a))) Rp) := by
  unfold w_X11_timeout_0
  refine s_aload_n (k := 0) C (by decide +kernel) ?_
  refine s_callV C rfl rfl (by decide +kernel) rfl w_3_32 w_3_34 w_p1_1 w_1_1 w_3_35 (by decide +kernel) ?_
  refine s_aload_n (k := 0) C (by decide +kernel) ?_
  refine s_aload_n (k := 0) C (by decide +kernel) ?_
  refine s_getR C w_2_234 (by decide +kernel) rfl ?_
  refine s_iload_n (k := 1) C (by decide +kernel) ?_
  refine s_callV C rfl rfl (by decide +kernel) rfl w_3_98 w_3_99 w_3_100 w_1_2 w_3_101 (by decide +kernel) ?_
  refine s_callV C rfl rfl (by decide +kernel) rfl w_3_79 w_3_81 w_p1_2 w_1_1 w_3_82 (by decide +kernel) ?_
  exact s_iret C rfl (by decide +kernel)
theorem ms_X11_timeout {Z : Zt} {d : Nat} {S : Sh} {μ : Mi} {ρ : Mr} {Rp : RT} (a0 : Nat) (x1 : Int32) (h : ∀ G : Nat → PT, w_X11_timeout_0 (MS Z d) G Rp [.ref a0, .int x1] [] S (0, 0) μ ρ) : MS Z (d + 1) jX11_timeout [.ref a0, .int x1] S μ ρ Rp :=
  MS_of [.ref a0, .int x1] (by decide +kernel) rfl rfl (Nat.le_of_ble_eq_true rfl) rfl (fun p e R s m args below meth c C => b_X11_timeout_0 C _ _ _ _ _ _ (h _ ))
def w_X11_beat_0 (M : CT) (G : Nat → PT) (Rp : RT) : PT := tAload 0 <| tCallV M jX11_remember 11 11 0 <| tAload 0 <| tAload 0 <| tGetR 11 11 0 <| tIload 1 <| tCallV M jX10_beats 10 6 1 <| tCallV M jX11_kept 11 11 1 <| tIret Rp
set_option maxRecDepth 20000 in
theorem b_X11_beat_0 {Z : Zt} {d : Nat} {p : Program} {e : Env} {R : Room} {s : State} {m : MethodId} {args : Array Value} {below : List Frame} {meth : Method} {c : Code} {Rp : RT} (C : Cx Z d jX11_beat RX11 p R s m args meth c) : Sd Z jX11_beat p e R s m args below meth c (MQ below (QcS Z Rp) args s 0 0 (fun a => Z.2.2.1 < a)) 0 (w_X11_beat_0 (MS Z d) (Gw Z 2 p e R s m args below meth c (MQ below (QcS Z Rp) args s 0 0 (fun a => Z.2.2.1 < a))) Rp) := by
  unfold w_X11_beat_0
  refine s_aload_n (k := 0) C (by decide +kernel) ?_
  refine s_callV C rfl rfl (by decide +kernel) rfl w_3_32 w_3_34 w_p1_1 w_1_1 w_3_35 (by decide +kernel) ?_
  refine s_aload_n (k := 0) C (by decide +kernel) ?_
  refine s_aload_n (k := 0) C (by decide +kernel) ?_
  refine s_getR C w_2_234 (by decide +kernel) rfl ?_
  refine s_iload_n (k := 1) C (by decide +kernel) ?_
  refine s_callV C rfl rfl (by decide +kernel) rfl w_3_194 w_3_195 w_3_196 w_1_2 w_3_197 (by decide +kernel) ?_
  refine s_callV C rfl rfl (by decide +kernel) rfl w_3_79 w_3_81 w_p1_2 w_1_1 w_3_82 (by decide +kernel) ?_
  exact s_iret C rfl (by decide +kernel)
theorem ms_X11_beat {Z : Zt} {d : Nat} {S : Sh} {μ : Mi} {ρ : Mr} {Rp : RT} (a0 : Nat) (x1 : Int32) (h : ∀ G : Nat → PT, w_X11_beat_0 (MS Z d) G Rp [.ref a0, .int x1] [] S (0, 0) μ ρ) : MS Z (d + 1) jX11_beat [.ref a0, .int x1] S μ ρ Rp :=
  MS_of [.ref a0, .int x1] (by decide +kernel) rfl rfl (Nat.le_of_ble_eq_true rfl) rfl (fun p e R s m args below meth c C => b_X11_beat_0 C _ _ _ _ _ _ (h _ ))
def w_X11_propose_0 (M : CT) (G : Nat → PT) (Rp : RT) : PT := tAload 0 <| tCallV M jX11_remember 11 11 0 <| tAload 0 <| tAload 0 <| tGetR 11 11 0 <| tIload 1 <| tIload 2 <| tIload 3 <| tIload 4 <| tCallV M jX10_proposes 10 6 4 <| tCallV M jX11_kept 11 11 1 <| tIret Rp
set_option maxRecDepth 20000 in
theorem b_X11_propose_0 {Z : Zt} {d : Nat} {p : Program} {e : Env} {R : Room} {s : State} {m : MethodId} {args : Array Value} {below : List Frame} {meth : Method} {c : Code} {Rp : RT} (C : Cx Z d jX11_propose RX11 p R s m args meth c) : Sd Z jX11_propose p e R s m args below meth c (MQ below (QcS Z Rp) args s 0 0 (fun a => Z.2.2.1 < a)) 0 (w_X11_propose_0 (MS Z d) (Gw Z 5 p e R s m args below meth c (MQ below (QcS Z Rp) args s 0 0 (fun a => Z.2.2.1 < a))) Rp) := by
  unfold w_X11_propose_0
  refine s_aload_n (k := 0) C (by decide +kernel) ?_
  refine s_callV C rfl rfl (by decide +kernel) rfl w_3_32 w_3_34 w_p1_1 w_1_1 w_3_35 (by decide +kernel) ?_
  refine s_aload_n (k := 0) C (by decide +kernel) ?_
  refine s_aload_n (k := 0) C (by decide +kernel) ?_
  refine s_getR C w_2_234 (by decide +kernel) rfl ?_
  refine s_iload_n (k := 1) C (by decide +kernel) ?_
  refine s_iload_n (k := 2) C (by decide +kernel) ?_
  refine s_iload_n (k := 3) C (by decide +kernel) ?_
  refine s_iload (k := 4) C (by decide +kernel) ?_
  refine s_callV C rfl rfl (by decide +kernel) rfl w_3_206 w_3_207 w_3_208 w_1_2 w_3_209 (by decide +kernel) ?_
  refine s_callV C rfl rfl (by decide +kernel) rfl w_3_79 w_3_81 w_p1_2 w_1_1 w_3_82 (by decide +kernel) ?_
  exact s_iret C rfl (by decide +kernel)
theorem ms_X11_propose {Z : Zt} {d : Nat} {S : Sh} {μ : Mi} {ρ : Mr} {Rp : RT} (a0 : Nat) (x1 : Int32) (x2 : Int32) (x3 : Int32) (x4 : Int32) (h : ∀ G : Nat → PT, w_X11_propose_0 (MS Z d) G Rp [.ref a0, .int x1, .int x2, .int x3, .int x4] [] S (0, 0) μ ρ) : MS Z (d + 1) jX11_propose [.ref a0, .int x1, .int x2, .int x3, .int x4] S μ ρ Rp :=
  MS_of [.ref a0, .int x1, .int x2, .int x3, .int x4] (by decide +kernel) rfl rfl (Nat.le_of_ble_eq_true rfl) rfl (fun p e R s m args below meth c C => b_X11_propose_0 C _ _ _ _ _ _ (h _ ))
def w_X11_read_0 (M : CT) (G : Nat → PT) (Rp : RT) : PT := tAload 0 <| tCallV M jX11_remember 11 11 0 <| tAload 0 <| tAload 0 <| tGetR 11 11 0 <| tIload 1 <| tIload 2 <| tCallV M jX10_reads 10 6 2 <| tCallV M jX11_kept 11 11 1 <| tIret Rp
set_option maxRecDepth 20000 in
theorem b_X11_read_0 {Z : Zt} {d : Nat} {p : Program} {e : Env} {R : Room} {s : State} {m : MethodId} {args : Array Value} {below : List Frame} {meth : Method} {c : Code} {Rp : RT} (C : Cx Z d jX11_read RX11 p R s m args meth c) : Sd Z jX11_read p e R s m args below meth c (MQ below (QcS Z Rp) args s 0 0 (fun a => Z.2.2.1 < a)) 0 (w_X11_read_0 (MS Z d) (Gw Z 3 p e R s m args below meth c (MQ below (QcS Z Rp) args s 0 0 (fun a => Z.2.2.1 < a))) Rp) := by
  unfold w_X11_read_0
  refine s_aload_n (k := 0) C (by decide +kernel) ?_
  refine s_callV C rfl rfl (by decide +kernel) rfl w_3_32 w_3_34 w_p1_1 w_1_1 w_3_35 (by decide +kernel) ?_
  refine s_aload_n (k := 0) C (by decide +kernel) ?_
  refine s_aload_n (k := 0) C (by decide +kernel) ?_
  refine s_getR C w_2_234 (by decide +kernel) rfl ?_
  refine s_iload_n (k := 1) C (by decide +kernel) ?_
  refine s_iload_n (k := 2) C (by decide +kernel) ?_
  refine s_callV C rfl rfl (by decide +kernel) rfl w_3_221 w_3_222 w_3_223 w_1_2 w_3_224 (by decide +kernel) ?_
  refine s_callV C rfl rfl (by decide +kernel) rfl w_3_79 w_3_81 w_p1_2 w_1_1 w_3_82 (by decide +kernel) ?_
  exact s_iret C rfl (by decide +kernel)
theorem ms_X11_read {Z : Zt} {d : Nat} {S : Sh} {μ : Mi} {ρ : Mr} {Rp : RT} (a0 : Nat) (x1 : Int32) (x2 : Int32) (h : ∀ G : Nat → PT, w_X11_read_0 (MS Z d) G Rp [.ref a0, .int x1, .int x2] [] S (0, 0) μ ρ) : MS Z (d + 1) jX11_read [.ref a0, .int x1, .int x2] S μ ρ Rp :=
  MS_of [.ref a0, .int x1, .int x2] (by decide +kernel) rfl rfl (Nat.le_of_ble_eq_true rfl) rfl (fun p e R s m args below meth c C => b_X11_read_0 C _ _ _ _ _ _ (h _ ))
def w_X11_hand_0 (M : CT) (G : Nat → PT) (Rp : RT) : PT := tAload 0 <| tCallV M jX11_remember 11 11 0 <| tAload 0 <| tAload 0 <| tGetR 11 11 0 <| tIload 1 <| tIload 2 <| tCallV M jX10_hands 10 6 2 <| tCallV M jX11_kept 11 11 1 <| tIret Rp
set_option maxRecDepth 20000 in
theorem b_X11_hand_0 {Z : Zt} {d : Nat} {p : Program} {e : Env} {R : Room} {s : State} {m : MethodId} {args : Array Value} {below : List Frame} {meth : Method} {c : Code} {Rp : RT} (C : Cx Z d jX11_hand RX11 p R s m args meth c) : Sd Z jX11_hand p e R s m args below meth c (MQ below (QcS Z Rp) args s 0 0 (fun a => Z.2.2.1 < a)) 0 (w_X11_hand_0 (MS Z d) (Gw Z 3 p e R s m args below meth c (MQ below (QcS Z Rp) args s 0 0 (fun a => Z.2.2.1 < a))) Rp) := by
  unfold w_X11_hand_0
  refine s_aload_n (k := 0) C (by decide +kernel) ?_
  refine s_callV C rfl rfl (by decide +kernel) rfl w_3_32 w_3_34 w_p1_1 w_1_1 w_3_35 (by decide +kernel) ?_
  refine s_aload_n (k := 0) C (by decide +kernel) ?_
  refine s_aload_n (k := 0) C (by decide +kernel) ?_
  refine s_getR C w_2_234 (by decide +kernel) rfl ?_
  refine s_iload_n (k := 1) C (by decide +kernel) ?_
  refine s_iload_n (k := 2) C (by decide +kernel) ?_
  refine s_callV C rfl rfl (by decide +kernel) rfl w_3_233 w_3_234 w_3_235 w_1_2 w_3_236 (by decide +kernel) ?_
  refine s_callV C rfl rfl (by decide +kernel) rfl w_3_79 w_3_81 w_p1_2 w_1_1 w_3_82 (by decide +kernel) ?_
  exact s_iret C rfl (by decide +kernel)
theorem ms_X11_hand {Z : Zt} {d : Nat} {S : Sh} {μ : Mi} {ρ : Mr} {Rp : RT} (a0 : Nat) (x1 : Int32) (x2 : Int32) (h : ∀ G : Nat → PT, w_X11_hand_0 (MS Z d) G Rp [.ref a0, .int x1, .int x2] [] S (0, 0) μ ρ) : MS Z (d + 1) jX11_hand [.ref a0, .int x1, .int x2] S μ ρ Rp :=
  MS_of [.ref a0, .int x1, .int x2] (by decide +kernel) rfl rfl (Nat.le_of_ble_eq_true rfl) rfl (fun p e R s m args below meth c C => b_X11_hand_0 C _ _ _ _ _ _ (h _ ))
def w_X11_change_0 (M : CT) (G : Nat → PT) (Rp : RT) : PT := tAload 0 <| tCallV M jX11_remember 11 11 0 <| tAload 0 <| tAload 0 <| tGetR 11 11 0 <| tIload 1 <| tIload 2 <| tCallV M jX10_changes 10 6 2 <| tCallV M jX11_kept 11 11 1 <| tIret Rp
set_option maxRecDepth 20000 in
theorem b_X11_change_0 {Z : Zt} {d : Nat} {p : Program} {e : Env} {R : Room} {s : State} {m : MethodId} {args : Array Value} {below : List Frame} {meth : Method} {c : Code} {Rp : RT} (C : Cx Z d jX11_change RX11 p R s m args meth c) : Sd Z jX11_change p e R s m args below meth c (MQ below (QcS Z Rp) args s 0 0 (fun a => Z.2.2.1 < a)) 0 (w_X11_change_0 (MS Z d) (Gw Z 3 p e R s m args below meth c (MQ below (QcS Z Rp) args s 0 0 (fun a => Z.2.2.1 < a))) Rp) := by
  unfold w_X11_change_0
  refine s_aload_n (k := 0) C (by decide +kernel) ?_
  refine s_callV C rfl rfl (by decide +kernel) rfl w_3_32 w_3_34 w_p1_1 w_1_1 w_3_35 (by decide +kernel) ?_
  refine s_aload_n (k := 0) C (by decide +kernel) ?_
  refine s_aload_n (k := 0) C (by decide +kernel) ?_
  refine s_getR C w_2_234 (by decide +kernel) rfl ?_
  refine s_iload_n (k := 1) C (by decide +kernel) ?_
  refine s_iload_n (k := 2) C (by decide +kernel) ?_
  refine s_callV C rfl rfl (by decide +kernel) rfl w_4_1 w_4_2 w_4_3 w_1_2 w_4_4 (by decide +kernel) ?_
  refine s_callV C rfl rfl (by decide +kernel) rfl w_3_79 w_3_81 w_p1_2 w_1_1 w_3_82 (by decide +kernel) ?_
  exact s_iret C rfl (by decide +kernel)
theorem ms_X11_change {Z : Zt} {d : Nat} {S : Sh} {μ : Mi} {ρ : Mr} {Rp : RT} (a0 : Nat) (x1 : Int32) (x2 : Int32) (h : ∀ G : Nat → PT, w_X11_change_0 (MS Z d) G Rp [.ref a0, .int x1, .int x2] [] S (0, 0) μ ρ) : MS Z (d + 1) jX11_change [.ref a0, .int x1, .int x2] S μ ρ Rp :=
  MS_of [.ref a0, .int x1, .int x2] (by decide +kernel) rfl rfl (Nat.le_of_ble_eq_true rfl) rfl (fun p e R s m args below meth c C => b_X11_change_0 C _ _ _ _ _ _ (h _ ))
def w_X11_compact_0 (M : CT) (G : Nat → PT) (Rp : RT) : PT := tAload 0 <| tCallV M jX11_remember 11 11 0 <| tAload 0 <| tAload 0 <| tGetR 11 11 0 <| tIload 1 <| tCallV M jX10_compacts 10 6 1 <| tCallV M jX11_kept 11 11 1 <| tIret Rp
set_option maxRecDepth 20000 in
theorem b_X11_compact_0 {Z : Zt} {d : Nat} {p : Program} {e : Env} {R : Room} {s : State} {m : MethodId} {args : Array Value} {below : List Frame} {meth : Method} {c : Code} {Rp : RT} (C : Cx Z d jX11_compact RX11 p R s m args meth c) : Sd Z jX11_compact p e R s m args below meth c (MQ below (QcS Z Rp) args s 0 0 (fun a => Z.2.2.1 < a)) 0 (w_X11_compact_0 (MS Z d) (Gw Z 2 p e R s m args below meth c (MQ below (QcS Z Rp) args s 0 0 (fun a => Z.2.2.1 < a))) Rp) := by
  unfold w_X11_compact_0
  refine s_aload_n (k := 0) C (by decide +kernel) ?_
  refine s_callV C rfl rfl (by decide +kernel) rfl w_3_32 w_3_34 w_p1_1 w_1_1 w_3_35 (by decide +kernel) ?_
  refine s_aload_n (k := 0) C (by decide +kernel) ?_
  refine s_aload_n (k := 0) C (by decide +kernel) ?_
  refine s_getR C w_2_234 (by decide +kernel) rfl ?_
  refine s_iload_n (k := 1) C (by decide +kernel) ?_
  refine s_callV C rfl rfl (by decide +kernel) rfl w_4_9 w_4_10 w_4_11 w_1_2 w_4_12 (by decide +kernel) ?_
  refine s_callV C rfl rfl (by decide +kernel) rfl w_3_79 w_3_81 w_p1_2 w_1_1 w_3_82 (by decide +kernel) ?_
  exact s_iret C rfl (by decide +kernel)
theorem ms_X11_compact {Z : Zt} {d : Nat} {S : Sh} {μ : Mi} {ρ : Mr} {Rp : RT} (a0 : Nat) (x1 : Int32) (h : ∀ G : Nat → PT, w_X11_compact_0 (MS Z d) G Rp [.ref a0, .int x1] [] S (0, 0) μ ρ) : MS Z (d + 1) jX11_compact [.ref a0, .int x1] S μ ρ Rp :=
  MS_of [.ref a0, .int x1] (by decide +kernel) rfl rfl (Nat.le_of_ble_eq_true rfl) rfl (fun p e R s m args below meth c C => b_X11_compact_0 C _ _ _ _ _ _ (h _ ))
def w_X11_stop_0 (M : CT) (G : Nat → PT) (Rp : RT) : PT := tAload 0 <| tCallV M jX11_remember 11 11 0 <| tAload 0 <| tAload 0 <| tGetR 11 11 0 <| tIload 1 <| tCallV M jX10_stops 10 6 1 <| tCallV M jX11_kept 11 11 1 <| tIret Rp
set_option maxRecDepth 20000 in
theorem b_X11_stop_0 {Z : Zt} {d : Nat} {p : Program} {e : Env} {R : Room} {s : State} {m : MethodId} {args : Array Value} {below : List Frame} {meth : Method} {c : Code} {Rp : RT} (C : Cx Z d jX11_stop RX11 p R s m args meth c) : Sd Z jX11_stop p e R s m args below meth c (MQ below (QcS Z Rp) args s 0 0 (fun a => Z.2.2.1 < a)) 0 (w_X11_stop_0 (MS Z d) (Gw Z 2 p e R s m args below meth c (MQ below (QcS Z Rp) args s 0 0 (fun a => Z.2.2.1 < a))) Rp) := by
  unfold w_X11_stop_0
  refine s_aload_n (k := 0) C (by decide +kernel) ?_
  refine s_callV C rfl rfl (by decide +kernel) rfl w_3_32 w_3_34 w_p1_1 w_1_1 w_3_35 (by decide +kernel) ?_
  refine s_aload_n (k := 0) C (by decide +kernel) ?_
  refine s_aload_n (k := 0) C (by decide +kernel) ?_
  refine s_getR C w_2_234 (by decide +kernel) rfl ?_
  refine s_iload_n (k := 1) C (by decide +kernel) ?_
  refine s_callV C rfl rfl (by decide +kernel) rfl w_4_22 w_4_23 w_4_24 w_1_2 w_4_25 (by decide +kernel) ?_
  refine s_callV C rfl rfl (by decide +kernel) rfl w_3_79 w_3_81 w_p1_2 w_1_1 w_3_82 (by decide +kernel) ?_
  exact s_iret C rfl (by decide +kernel)
theorem ms_X11_stop {Z : Zt} {d : Nat} {S : Sh} {μ : Mi} {ρ : Mr} {Rp : RT} (a0 : Nat) (x1 : Int32) (h : ∀ G : Nat → PT, w_X11_stop_0 (MS Z d) G Rp [.ref a0, .int x1] [] S (0, 0) μ ρ) : MS Z (d + 1) jX11_stop [.ref a0, .int x1] S μ ρ Rp :=
  MS_of [.ref a0, .int x1] (by decide +kernel) rfl rfl (Nat.le_of_ble_eq_true rfl) rfl (fun p e R s m args below meth c C => b_X11_stop_0 C _ _ _ _ _ _ (h _ ))
def w_X11_start_0 (M : CT) (G : Nat → PT) (Rp : RT) : PT := tAload 0 <| tCallV M jX11_remember 11 11 0 <| tAload 0 <| tAload 0 <| tGetR 11 11 0 <| tIload 1 <| tCallV M jX10_starts 10 6 1 <| tCallV M jX11_kept 11 11 1 <| tIret Rp
set_option maxRecDepth 20000 in
theorem b_X11_start_0 {Z : Zt} {d : Nat} {p : Program} {e : Env} {R : Room} {s : State} {m : MethodId} {args : Array Value} {below : List Frame} {meth : Method} {c : Code} {Rp : RT} (C : Cx Z d jX11_start RX11 p R s m args meth c) : Sd Z jX11_start p e R s m args below meth c (MQ below (QcS Z Rp) args s 0 0 (fun a => Z.2.2.1 < a)) 0 (w_X11_start_0 (MS Z d) (Gw Z 2 p e R s m args below meth c (MQ below (QcS Z Rp) args s 0 0 (fun a => Z.2.2.1 < a))) Rp) := by
  unfold w_X11_start_0
  refine s_aload_n (k := 0) C (by decide +kernel) ?_
  refine s_callV C rfl rfl (by decide +kernel) rfl w_3_32 w_3_34 w_p1_1 w_1_1 w_3_35 (by decide +kernel) ?_
  refine s_aload_n (k := 0) C (by decide +kernel) ?_
  refine s_aload_n (k := 0) C (by decide +kernel) ?_
  refine s_getR C w_2_234 (by decide +kernel) rfl ?_
  refine s_iload_n (k := 1) C (by decide +kernel) ?_
  refine s_callV C rfl rfl (by decide +kernel) rfl w_4_35 w_4_36 w_4_37 w_1_2 w_4_38 (by decide +kernel) ?_
  refine s_callV C rfl rfl (by decide +kernel) rfl w_3_79 w_3_81 w_p1_2 w_1_1 w_3_82 (by decide +kernel) ?_
  exact s_iret C rfl (by decide +kernel)
theorem ms_X11_start {Z : Zt} {d : Nat} {S : Sh} {μ : Mi} {ρ : Mr} {Rp : RT} (a0 : Nat) (x1 : Int32) (h : ∀ G : Nat → PT, w_X11_start_0 (MS Z d) G Rp [.ref a0, .int x1] [] S (0, 0) μ ρ) : MS Z (d + 1) jX11_start [.ref a0, .int x1] S μ ρ Rp :=
  MS_of [.ref a0, .int x1] (by decide +kernel) rfl rfl (Nat.le_of_ble_eq_true rfl) rfl (fun p e R s m args below meth c C => b_X11_start_0 C _ _ _ _ _ _ (h _ ))
def w_X11_link_0 (M : CT) (G : Nat → PT) (Rp : RT) : PT := tAload 0 <| tCallV M jX11_remember 11 11 0 <| tAload 0 <| tAload 0 <| tGetR 11 11 0 <| tIload 1 <| tIload 2 <| tIload 3 <| tCallV M jX10_links 10 6 3 <| tCallV M jX11_kept 11 11 1 <| tIret Rp
set_option maxRecDepth 20000 in
theorem b_X11_link_0 {Z : Zt} {d : Nat} {p : Program} {e : Env} {R : Room} {s : State} {m : MethodId} {args : Array Value} {below : List Frame} {meth : Method} {c : Code} {Rp : RT} (C : Cx Z d jX11_link RX11 p R s m args meth c) : Sd Z jX11_link p e R s m args below meth c (MQ below (QcS Z Rp) args s 0 0 (fun a => Z.2.2.1 < a)) 0 (w_X11_link_0 (MS Z d) (Gw Z 4 p e R s m args below meth c (MQ below (QcS Z Rp) args s 0 0 (fun a => Z.2.2.1 < a))) Rp) := by
  unfold w_X11_link_0
  refine s_aload_n (k := 0) C (by decide +kernel) ?_
  refine s_callV C rfl rfl (by decide +kernel) rfl w_3_32 w_3_34 w_p1_1 w_1_1 w_3_35 (by decide +kernel) ?_
  refine s_aload_n (k := 0) C (by decide +kernel) ?_
  refine s_aload_n (k := 0) C (by decide +kernel) ?_
  refine s_getR C w_2_234 (by decide +kernel) rfl ?_
  refine s_iload_n (k := 1) C (by decide +kernel) ?_
  refine s_iload_n (k := 2) C (by decide +kernel) ?_
  refine s_iload_n (k := 3) C (by decide +kernel) ?_
  refine s_callV C rfl rfl (by decide +kernel) rfl w_4_43 w_4_44 w_4_45 w_1_2 w_4_46 (by decide +kernel) ?_
  refine s_callV C rfl rfl (by decide +kernel) rfl w_3_79 w_3_81 w_p1_2 w_1_1 w_3_82 (by decide +kernel) ?_
  exact s_iret C rfl (by decide +kernel)
theorem ms_X11_link {Z : Zt} {d : Nat} {S : Sh} {μ : Mi} {ρ : Mr} {Rp : RT} (a0 : Nat) (x1 : Int32) (x2 : Int32) (x3 : Int32) (h : ∀ G : Nat → PT, w_X11_link_0 (MS Z d) G Rp [.ref a0, .int x1, .int x2, .int x3] [] S (0, 0) μ ρ) : MS Z (d + 1) jX11_link [.ref a0, .int x1, .int x2, .int x3] S μ ρ Rp :=
  MS_of [.ref a0, .int x1, .int x2, .int x3] (by decide +kernel) rfl rfl (Nat.le_of_ble_eq_true rfl) rfl (fun p e R s m args below meth c C => b_X11_link_0 C _ _ _ _ _ _ (h _ ))
def w_X11_come_0 (M : CT) (G : Nat → PT) (Rp : RT) : PT := tAload 0 <| tCallV M jX11_remember 11 11 0 <| tAload 0 <| tAload 0 <| tGetR 11 11 0 <| tIload 1 <| tCallV M jX10_comes 10 6 1 <| tCallV M jX11_kept 11 11 1 <| tIret Rp
set_option maxRecDepth 20000 in
theorem b_X11_come_0 {Z : Zt} {d : Nat} {p : Program} {e : Env} {R : Room} {s : State} {m : MethodId} {args : Array Value} {below : List Frame} {meth : Method} {c : Code} {Rp : RT} (C : Cx Z d jX11_come RX11 p R s m args meth c) : Sd Z jX11_come p e R s m args below meth c (MQ below (QcS Z Rp) args s 0 0 (fun a => Z.2.2.1 < a)) 0 (w_X11_come_0 (MS Z d) (Gw Z 2 p e R s m args below meth c (MQ below (QcS Z Rp) args s 0 0 (fun a => Z.2.2.1 < a))) Rp) := by
  unfold w_X11_come_0
  refine s_aload_n (k := 0) C (by decide +kernel) ?_
  refine s_callV C rfl rfl (by decide +kernel) rfl w_3_32 w_3_34 w_p1_1 w_1_1 w_3_35 (by decide +kernel) ?_
  refine s_aload_n (k := 0) C (by decide +kernel) ?_
  refine s_aload_n (k := 0) C (by decide +kernel) ?_
  refine s_getR C w_2_234 (by decide +kernel) rfl ?_
  refine s_iload_n (k := 1) C (by decide +kernel) ?_
  refine s_callV C rfl rfl (by decide +kernel) rfl w_4_59 w_4_60 w_4_61 w_1_2 w_4_62 (by decide +kernel) ?_
  refine s_callV C rfl rfl (by decide +kernel) rfl w_3_79 w_3_81 w_p1_2 w_1_1 w_3_82 (by decide +kernel) ?_
  exact s_iret C rfl (by decide +kernel)
theorem ms_X11_come {Z : Zt} {d : Nat} {S : Sh} {μ : Mi} {ρ : Mr} {Rp : RT} (a0 : Nat) (x1 : Int32) (h : ∀ G : Nat → PT, w_X11_come_0 (MS Z d) G Rp [.ref a0, .int x1] [] S (0, 0) μ ρ) : MS Z (d + 1) jX11_come [.ref a0, .int x1] S μ ρ Rp :=
  MS_of [.ref a0, .int x1] (by decide +kernel) rfl rfl (Nat.le_of_ble_eq_true rfl) rfl (fun p e R s m args below meth c C => b_X11_come_0 C _ _ _ _ _ _ (h _ ))
def w_X11_lose_0 (M : CT) (G : Nat → PT) (Rp : RT) : PT := tAload 0 <| tCallV M jX11_remember 11 11 0 <| tAload 0 <| tAload 0 <| tGetR 11 11 0 <| tIload 1 <| tCallV M jX10_loses 10 6 1 <| tCallV M jX11_kept 11 11 1 <| tIret Rp
set_option maxRecDepth 20000 in
theorem b_X11_lose_0 {Z : Zt} {d : Nat} {p : Program} {e : Env} {R : Room} {s : State} {m : MethodId} {args : Array Value} {below : List Frame} {meth : Method} {c : Code} {Rp : RT} (C : Cx Z d jX11_lose RX11 p R s m args meth c) : Sd Z jX11_lose p e R s m args below meth c (MQ below (QcS Z Rp) args s 0 0 (fun a => Z.2.2.1 < a)) 0 (w_X11_lose_0 (MS Z d) (Gw Z 2 p e R s m args below meth c (MQ below (QcS Z Rp) args s 0 0 (fun a => Z.2.2.1 < a))) Rp) := by
  unfold w_X11_lose_0
  refine s_aload_n (k := 0) C (by decide +kernel) ?_
  refine s_callV C rfl rfl (by decide +kernel) rfl w_3_32 w_3_34 w_p1_1 w_1_1 w_3_35 (by decide +kernel) ?_
  refine s_aload_n (k := 0) C (by decide +kernel) ?_
  refine s_aload_n (k := 0) C (by decide +kernel) ?_
  refine s_getR C w_2_234 (by decide +kernel) rfl ?_
  refine s_iload_n (k := 1) C (by decide +kernel) ?_
  refine s_callV C rfl rfl (by decide +kernel) rfl w_4_142 w_4_143 w_4_144 w_1_2 w_4_145 (by decide +kernel) ?_
  refine s_callV C rfl rfl (by decide +kernel) rfl w_3_79 w_3_81 w_p1_2 w_1_1 w_3_82 (by decide +kernel) ?_
  exact s_iret C rfl (by decide +kernel)
theorem ms_X11_lose {Z : Zt} {d : Nat} {S : Sh} {μ : Mi} {ρ : Mr} {Rp : RT} (a0 : Nat) (x1 : Int32) (h : ∀ G : Nat → PT, w_X11_lose_0 (MS Z d) G Rp [.ref a0, .int x1] [] S (0, 0) μ ρ) : MS Z (d + 1) jX11_lose [.ref a0, .int x1] S μ ρ Rp :=
  MS_of [.ref a0, .int x1] (by decide +kernel) rfl rfl (Nat.le_of_ble_eq_true rfl) rfl (fun p e R s m args below meth c C => b_X11_lose_0 C _ _ _ _ _ _ (h _ ))
def w_X11_twice_0 (M : CT) (G : Nat → PT) (Rp : RT) : PT := tAload 0 <| tCallV M jX11_remember 11 11 0 <| tAload 0 <| tAload 0 <| tGetR 11 11 0 <| tIload 1 <| tCallV M jX10_doubles 10 6 1 <| tCallV M jX11_kept 11 11 1 <| tIret Rp
set_option maxRecDepth 20000 in
theorem b_X11_twice_0 {Z : Zt} {d : Nat} {p : Program} {e : Env} {R : Room} {s : State} {m : MethodId} {args : Array Value} {below : List Frame} {meth : Method} {c : Code} {Rp : RT} (C : Cx Z d jX11_twice RX11 p R s m args meth c) : Sd Z jX11_twice p e R s m args below meth c (MQ below (QcS Z Rp) args s 0 0 (fun a => Z.2.2.1 < a)) 0 (w_X11_twice_0 (MS Z d) (Gw Z 2 p e R s m args below meth c (MQ below (QcS Z Rp) args s 0 0 (fun a => Z.2.2.1 < a))) Rp) := by
  unfold w_X11_twice_0
  refine s_aload_n (k := 0) C (by decide +kernel) ?_
  refine s_callV C rfl rfl (by decide +kernel) rfl w_3_32 w_3_34 w_p1_1 w_1_1 w_3_35 (by decide +kernel) ?_
  refine s_aload_n (k := 0) C (by decide +kernel) ?_
  refine s_aload_n (k := 0) C (by decide +kernel) ?_
  refine s_getR C w_2_234 (by decide +kernel) rfl ?_
  refine s_iload_n (k := 1) C (by decide +kernel) ?_
  refine s_callV C rfl rfl (by decide +kernel) rfl w_4_150 w_4_151 w_4_152 w_1_2 w_4_153 (by decide +kernel) ?_
  refine s_callV C rfl rfl (by decide +kernel) rfl w_3_79 w_3_81 w_p1_2 w_1_1 w_3_82 (by decide +kernel) ?_
  exact s_iret C rfl (by decide +kernel)
theorem ms_X11_twice {Z : Zt} {d : Nat} {S : Sh} {μ : Mi} {ρ : Mr} {Rp : RT} (a0 : Nat) (x1 : Int32) (h : ∀ G : Nat → PT, w_X11_twice_0 (MS Z d) G Rp [.ref a0, .int x1] [] S (0, 0) μ ρ) : MS Z (d + 1) jX11_twice [.ref a0, .int x1] S μ ρ Rp :=
  MS_of [.ref a0, .int x1] (by decide +kernel) rfl rfl (Nat.le_of_ble_eq_true rfl) rfl (fun p e R s m args below meth c C => b_X11_twice_0 C _ _ _ _ _ _ (h _ ))
def w_X11_settle_0 (M : CT) (G : Nat → PT) (Rp : RT) : PT := tAload 0 <| tCallV M jX11_remember 11 11 0 <| tAload 0 <| tAload 0 <| tGetR 11 11 0 <| tIload 1 <| tCallV M jX10_settles 10 6 1 <| tCallV M jX11_kept 11 11 1 <| tIret Rp
set_option maxRecDepth 20000 in
theorem b_X11_settle_0 {Z : Zt} {d : Nat} {p : Program} {e : Env} {R : Room} {s : State} {m : MethodId} {args : Array Value} {below : List Frame} {meth : Method} {c : Code} {Rp : RT} (C : Cx Z d jX11_settle RX11 p R s m args meth c) : Sd Z jX11_settle p e R s m args below meth c (MQ below (QcS Z Rp) args s 0 0 (fun a => Z.2.2.1 < a)) 0 (w_X11_settle_0 (MS Z d) (Gw Z 2 p e R s m args below meth c (MQ below (QcS Z Rp) args s 0 0 (fun a => Z.2.2.1 < a))) Rp) := by
  unfold w_X11_settle_0
  refine s_aload_n (k := 0) C (by decide +kernel) ?_
  refine s_callV C rfl rfl (by decide +kernel) rfl w_3_32 w_3_34 w_p1_1 w_1_1 w_3_35 (by decide +kernel) ?_
  refine s_aload_n (k := 0) C (by decide +kernel) ?_
  refine s_aload_n (k := 0) C (by decide +kernel) ?_
  refine s_getR C w_2_234 (by decide +kernel) rfl ?_
  refine s_iload_n (k := 1) C (by decide +kernel) ?_
  refine s_callV C rfl rfl (by decide +kernel) rfl w_4_159 w_4_160 w_4_161 w_1_2 w_4_162 (by decide +kernel) ?_
  refine s_callV C rfl rfl (by decide +kernel) rfl w_3_79 w_3_81 w_p1_2 w_1_1 w_3_82 (by decide +kernel) ?_
  exact s_iret C rfl (by decide +kernel)
theorem ms_X11_settle {Z : Zt} {d : Nat} {S : Sh} {μ : Mi} {ρ : Mr} {Rp : RT} (a0 : Nat) (x1 : Int32) (h : ∀ G : Nat → PT, w_X11_settle_0 (MS Z d) G Rp [.ref a0, .int x1] [] S (0, 0) μ ρ) : MS Z (d + 1) jX11_settle [.ref a0, .int x1] S μ ρ Rp :=
  MS_of [.ref a0, .int x1] (by decide +kernel) rfl rfl (Nat.le_of_ble_eq_true rfl) rfl (fun p e R s m args below meth c C => b_X11_settle_0 C _ _ _ _ _ _ (h _ ))
def w_X11_feed_0 (M : CT) (G : Nat → PT) (Rp : RT) : PT := tAload 0 <| tGetR 11 11 4 <| tGetI 9 7 2 <| tConst 20 <| tBin (fun x y => x + y) <| tConst 300 <| tIf2 (fun x y => x ≤ y) (G 19) <| tConst (-4) <| tIret Rp
def w_X11_feed_19 (M : CT) (G : Nat → PT) (Rp : RT) : PT := tAload 0 <| tGetR 11 11 4 <| tIload 1 <| tCallV M jX9_append 9 7 1 <| tAload 0 <| tGetR 11 11 4 <| tIload 2 <| tCallV M jX9_append 9 7 1 <| tAload 0 <| tGetR 11 11 4 <| tIload 3 <| tCallV M jX9_append 9 7 1 <| tAload 0 <| tGetR 11 11 4 <| tIload 4 <| tCallV M jX9_append 9 7 1 <| tAload 0 <| tGetR 11 11 4 <| tIload 5 <| tCallV M jX9_append 9 7 1 <| tAload 0 <| tGetR 11 11 4 <| tGetI 9 7 2 <| tIret Rp
set_option maxRecDepth 20000 in
theorem b_X11_feed_0 {Z : Zt} {d : Nat} {p : Program} {e : Env} {R : Room} {s : State} {m : MethodId} {args : Array Value} {below : List Frame} {meth : Method} {c : Code} {Rp : RT} (C : Cx Z d jX11_feed RX11 p R s m args meth c) : Sd Z jX11_feed p e R s m args below meth c (MQ below (QcS Z Rp) args s 0 0 (fun a => Z.2.2.1 < a)) 0 (w_X11_feed_0 (MS Z d) (Gw Z 6 p e R s m args below meth c (MQ below (QcS Z Rp) args s 0 0 (fun a => Z.2.2.1 < a))) Rp) := by
  unfold w_X11_feed_0
  refine s_aload_n (k := 0) C (by decide +kernel) ?_
  refine s_getR C w_2_238 (by decide +kernel) rfl ?_
  refine s_getI C w_2_168 (by decide +kernel) rfl ?_
  refine s_bipush (n := 20) C (by decide +kernel) (by decide) ?_
  refine s_iadd C (by decide +kernel) ?_
  refine s_sipush (n := 300) C (by decide +kernel) (by decide) ?_
  refine s_icmp_le (off := 6) (tgt := 19) C (by decide +kernel) (by decide) (fun _ _ _ _ _ _ h => h) ?_
  refine s_bipush (n := (-4)) C (by decide +kernel) (by decide) ?_
  exact s_iret C rfl (by decide +kernel)
set_option maxRecDepth 20000 in
theorem b_X11_feed_19 {Z : Zt} {d : Nat} {p : Program} {e : Env} {R : Room} {s : State} {m : MethodId} {args : Array Value} {below : List Frame} {meth : Method} {c : Code} {Rp : RT} (C : Cx Z d jX11_feed RX11 p R s m args meth c) : Sd Z jX11_feed p e R s m args below meth c (MQ below (QcS Z Rp) args s 0 0 (fun a => Z.2.2.1 < a)) 19 (w_X11_feed_19 (MS Z d) (Gw Z 6 p e R s m args below meth c (MQ below (QcS Z Rp) args s 0 0 (fun a => Z.2.2.1 < a))) Rp) := by
  unfold w_X11_feed_19
  refine s_aload_n (k := 0) C (by decide +kernel) ?_
  refine s_getR C w_2_238 (by decide +kernel) rfl ?_
  refine s_iload_n (k := 1) C (by decide +kernel) ?_
  refine s_callV C rfl rfl (by decide +kernel) rfl w_4_167 w_4_168 w_4_169 w_1_11 w_4_170 (by decide +kernel) ?_
  refine s_aload_n (k := 0) C (by decide +kernel) ?_
  refine s_getR C w_2_238 (by decide +kernel) rfl ?_
  refine s_iload_n (k := 2) C (by decide +kernel) ?_
  refine s_callV C rfl rfl (by decide +kernel) rfl w_4_167 w_4_168 w_4_169 w_1_11 w_4_170 (by decide +kernel) ?_
  refine s_aload_n (k := 0) C (by decide +kernel) ?_
  refine s_getR C w_2_238 (by decide +kernel) rfl ?_
  refine s_iload_n (k := 3) C (by decide +kernel) ?_
  refine s_callV C rfl rfl (by decide +kernel) rfl w_4_167 w_4_168 w_4_169 w_1_11 w_4_170 (by decide +kernel) ?_
  refine s_aload_n (k := 0) C (by decide +kernel) ?_
  refine s_getR C w_2_238 (by decide +kernel) rfl ?_
  refine s_iload (k := 4) C (by decide +kernel) ?_
  refine s_callV C rfl rfl (by decide +kernel) rfl w_4_167 w_4_168 w_4_169 w_1_11 w_4_170 (by decide +kernel) ?_
  refine s_aload_n (k := 0) C (by decide +kernel) ?_
  refine s_getR C w_2_238 (by decide +kernel) rfl ?_
  refine s_iload (k := 5) C (by decide +kernel) ?_
  refine s_callV C rfl rfl (by decide +kernel) rfl w_4_167 w_4_168 w_4_169 w_1_11 w_4_170 (by decide +kernel) ?_
  refine s_aload_n (k := 0) C (by decide +kernel) ?_
  refine s_getR C w_2_238 (by decide +kernel) rfl ?_
  refine s_getI C w_2_168 (by decide +kernel) rfl ?_
  exact s_iret C rfl (by decide +kernel)
theorem ms_X11_feed {Z : Zt} {d : Nat} {S : Sh} {μ : Mi} {ρ : Mr} {Rp : RT} (a0 : Nat) (x1 : Int32) (x2 : Int32) (x3 : Int32) (x4 : Int32) (x5 : Int32) (h : ∀ G : Nat → PT, (∀ (L st : List Value) (S : Sh) (q : Nat × Nat) (μ : Mi) (ρ : Mr), w_X11_feed_19 (MS Z d) G Rp L st S q μ ρ → G 19 L st S q μ ρ) → w_X11_feed_0 (MS Z d) G Rp [.ref a0, .int x1, .int x2, .int x3, .int x4, .int x5] [] S (0, 0) μ ρ) : MS Z (d + 1) jX11_feed [.ref a0, .int x1, .int x2, .int x3, .int x4, .int x5] S μ ρ Rp :=
  MS_of [.ref a0, .int x1, .int x2, .int x3, .int x4, .int x5] (by decide +kernel) rfl rfl (Nat.le_of_ble_eq_true rfl) rfl (fun p e R s m args below meth c C => b_X11_feed_0 C _ _ _ _ _ _ (h _ (b_X11_feed_19 C)))
def w_X11_script_0 (M : CT) (G : Nat → PT) (Rp : RT) : PT := tIload 1 <| tIf (fun x => x < 0) (G 15) <| tIload 1 <| tAload 0 <| tGetR 11 11 4 <| tGetI 9 7 2 <| tIf2 (fun x y => x ≤ y) (G 18) <| G 15
def w_X11_script_15 (M : CT) (G : Nat → PT) (Rp : RT) : PT := tConst (-3) <| tIret Rp
def w_X11_script_18 (M : CT) (G : Nat → PT) (Rp : RT) : PT := tAload 0 <| tGetR 11 11 4 <| tIload 1 <| tAload 0 <| tGetR 11 11 5 <| tCallV M jX9_parse 9 7 2 <| tAload 0 <| tGetR 11 11 4 <| tConst 0 <| tPutI 9 7 2 <| tAload 0 <| tGetR 11 11 4 <| tGetI 9 7 3 <| tIf (fun x => x = 0) (G 59) <| tConst (-30) <| tAload 0 <| tGetR 11 11 4 <| tGetI 9 7 3 <| tBin (fun x y => x - y) <| tIret Rp
def w_X11_script_59 (M : CT) (G : Nat → PT) (Rp : RT) : PT := tAload 0 <| tCallV M jX11_remember 11 11 0 <| tAload 0 <| tConst 0 <| tPutI 11 11 9 <| tAload 0 <| tConst (-1) <| tPutI 11 11 10 <| tAload 0 <| tGetR 11 11 5 <| tCallV M jX4_rewind 4 10 0 <| tConst 0 <| tIstore 2 <| G 82
def w_X11_script_82 (M : CT) (G : Nat → PT) (Rp : RT) : PT := tIload 2 <| tConst 400 <| tIf2 (fun x y => y ≤ x) (G 192) <| tAload 0 <| tGetI 11 11 9 <| tIf (fun x => x ≠ 0) (G 192) <| tAload 0 <| tGetR 11 11 5 <| tCallV M jX4_moveOn 4 10 0 <| tIf (fun x => x = 0) (G 192) <| tAload 0 <| tGetR 11 11 5 <| tGetI 4 10 9 <| tIstore 3 <| tAload 0 <| tGetR 11 11 0 <| tAload 0 <| tGetR 11 11 5 <| tGetR 4 10 0 <| tIload 3 <| tAld 20 <| tAload 0 <| tGetR 11 11 5 <| tGetR 4 10 2 <| tIload 3 <| tAld 20 <| tAload 0 <| tGetR 11 11 5 <| tGetR 4 10 3 <| tIload 3 <| tAld 20 <| tAload 0 <| tGetR 11 11 5 <| tGetR 4 10 4 <| tIload 3 <| tAld 20 <| tCallV M jX10_act 10 6 4 <| tIstore 4 <| tIload 4 <| tIf (fun x => 0 ≤ x) (G 186) <| tAload 0 <| tIload 4 <| tPutI 11 11 9 <| tAload 0 <| tAload 0 <| tGetR 11 11 5 <| tGetR 4 10 1 <| tIload 3 <| tAld 20 <| tPutI 11 11 10 <| tGoto (G 189)
def w_X11_script_186 (M : CT) (G : Nat → PT) (Rp : RT) : PT := tIinc 2 1 <| G 189
def w_X11_script_189 (M : CT) (G : Nat → PT) (Rp : RT) : PT := tGoto (G 82)
def w_X11_script_192 (M : CT) (G : Nat → PT) (Rp : RT) : PT := tIload 2 <| tIf (fun x => x ≤ 0) (G 204) <| tAload 0 <| tIload 2 <| tCallV M jX11_kept 11 11 1 <| tGoto (G 205)
def w_X11_script_204 (M : CT) (G : Nat → PT) (Rp : RT) : PT := tConst 0 <| G 205
def w_X11_script_205 (M : CT) (G : Nat → PT) (Rp : RT) : PT := tIret Rp
set_option maxRecDepth 20000 in
theorem b_X11_script_0 {Z : Zt} {d : Nat} {p : Program} {e : Env} {R : Room} {s : State} {m : MethodId} {args : Array Value} {below : List Frame} {meth : Method} {c : Code} {Rp : RT} (C : Cx Z d jX11_script RX11 p R s m args meth c) : Sd Z jX11_script p e R s m args below meth c (MQ below (QcS Z Rp) args s 0 0 (fun a => Z.2.2.1 < a)) 0 (w_X11_script_0 (MS Z d) (Gw Z 5 p e R s m args below meth c (MQ below (QcS Z Rp) args s 0 0 (fun a => Z.2.2.1 < a))) Rp) := by
  unfold w_X11_script_0
  refine s_iload_n (k := 1) C (by decide +kernel) ?_
  refine s_if_lt (off := 14) (tgt := 15) C (by decide +kernel) (by decide) (fun _ _ _ _ _ _ h => h) ?_
  refine s_iload_n (k := 1) C (by decide +kernel) ?_
  refine s_aload_n (k := 0) C (by decide +kernel) ?_
  refine s_getR C w_2_238 (by decide +kernel) rfl ?_
  refine s_getI C w_2_168 (by decide +kernel) rfl ?_
  refine s_icmp_le (off := 6) (tgt := 18) C (by decide +kernel) (by decide) (fun _ _ _ _ _ _ h => h) ?_
  exact (fun _ _ _ _ _ _ h => h)
set_option maxRecDepth 20000 in
theorem b_X11_script_15 {Z : Zt} {d : Nat} {p : Program} {e : Env} {R : Room} {s : State} {m : MethodId} {args : Array Value} {below : List Frame} {meth : Method} {c : Code} {Rp : RT} (C : Cx Z d jX11_script RX11 p R s m args meth c) : Sd Z jX11_script p e R s m args below meth c (MQ below (QcS Z Rp) args s 0 0 (fun a => Z.2.2.1 < a)) 15 (w_X11_script_15 (MS Z d) (Gw Z 5 p e R s m args below meth c (MQ below (QcS Z Rp) args s 0 0 (fun a => Z.2.2.1 < a))) Rp) := by
  unfold w_X11_script_15
  refine s_bipush (n := (-3)) C (by decide +kernel) (by decide) ?_
  exact s_iret C rfl (by decide +kernel)
set_option maxRecDepth 20000 in
theorem b_X11_script_18 {Z : Zt} {d : Nat} {p : Program} {e : Env} {R : Room} {s : State} {m : MethodId} {args : Array Value} {below : List Frame} {meth : Method} {c : Code} {Rp : RT} (C : Cx Z d jX11_script RX11 p R s m args meth c) : Sd Z jX11_script p e R s m args below meth c (MQ below (QcS Z Rp) args s 0 0 (fun a => Z.2.2.1 < a)) 18 (w_X11_script_18 (MS Z d) (Gw Z 5 p e R s m args below meth c (MQ below (QcS Z Rp) args s 0 0 (fun a => Z.2.2.1 < a))) Rp) := by
  unfold w_X11_script_18
  refine s_aload_n (k := 0) C (by decide +kernel) ?_
  refine s_getR C w_2_238 (by decide +kernel) rfl ?_
  refine s_iload_n (k := 1) C (by decide +kernel) ?_
  refine s_aload_n (k := 0) C (by decide +kernel) ?_
  refine s_getR C w_2_239 (by decide +kernel) rfl ?_
  refine s_callV C rfl rfl (by decide +kernel) rfl w_4_175 w_4_176 w_4_177 w_1_11 w_4_178 (by decide +kernel) ?_
  refine s_aload_n (k := 0) C (by decide +kernel) ?_
  refine s_getR C w_2_238 (by decide +kernel) rfl ?_
  refine s_iconst (n := 0) C (by decide +kernel) (by decide) ?_
  refine s_putI C w_2_168 (by decide +kernel) rfl (Or.inl rfl) ?_
  refine s_aload_n (k := 0) C (by decide +kernel) ?_
  refine s_getR C w_2_238 (by decide +kernel) rfl ?_
  refine s_getI C w_2_170 (by decide +kernel) rfl ?_
  refine s_if_eq (off := 14) (tgt := 59) C (by decide +kernel) (by decide) (fun _ _ _ _ _ _ h => h) ?_
  refine s_bipush (n := (-30)) C (by decide +kernel) (by decide) ?_
  refine s_aload_n (k := 0) C (by decide +kernel) ?_
  refine s_getR C w_2_238 (by decide +kernel) rfl ?_
  refine s_getI C w_2_170 (by decide +kernel) rfl ?_
  refine s_isub C (by decide +kernel) ?_
  exact s_iret C rfl (by decide +kernel)
set_option maxRecDepth 20000 in
theorem b_X11_script_59 {Z : Zt} {d : Nat} {p : Program} {e : Env} {R : Room} {s : State} {m : MethodId} {args : Array Value} {below : List Frame} {meth : Method} {c : Code} {Rp : RT} (C : Cx Z d jX11_script RX11 p R s m args meth c) : Sd Z jX11_script p e R s m args below meth c (MQ below (QcS Z Rp) args s 0 0 (fun a => Z.2.2.1 < a)) 59 (w_X11_script_59 (MS Z d) (Gw Z 5 p e R s m args below meth c (MQ below (QcS Z Rp) args s 0 0 (fun a => Z.2.2.1 < a))) Rp) := by
  unfold w_X11_script_59
  refine s_aload_n (k := 0) C (by decide +kernel) ?_
  refine s_callV C rfl rfl (by decide +kernel) rfl w_3_32 w_3_34 w_p1_1 w_1_1 w_3_35 (by decide +kernel) ?_
  refine s_aload_n (k := 0) C (by decide +kernel) ?_
  refine s_iconst (n := 0) C (by decide +kernel) (by decide) ?_
  refine s_putI C w_3_3 (by decide +kernel) rfl (Or.inl rfl) ?_
  refine s_aload_n (k := 0) C (by decide +kernel) ?_
  refine s_iconst (n := (-1)) C (by decide +kernel) (by decide) ?_
  refine s_putI C w_3_4 (by decide +kernel) rfl (Or.inl rfl) ?_
  refine s_aload_n (k := 0) C (by decide +kernel) ?_
  refine s_getR C w_2_239 (by decide +kernel) rfl ?_
  refine s_callV C rfl rfl (by decide +kernel) rfl w_5_47 w_5_48 w_5_49 w_1_12 w_5_50 (by decide +kernel) ?_
  refine s_iconst (n := 0) C (by decide +kernel) (by decide) ?_
  refine s_istore_n (k := 2) C (by decide +kernel) ?_
  exact (fun _ _ _ _ _ _ h => h)
set_option maxRecDepth 20000 in
theorem b_X11_script_82 {Z : Zt} {d : Nat} {p : Program} {e : Env} {R : Room} {s : State} {m : MethodId} {args : Array Value} {below : List Frame} {meth : Method} {c : Code} {Rp : RT} (C : Cx Z d jX11_script RX11 p R s m args meth c) : Sd Z jX11_script p e R s m args below meth c (MQ below (QcS Z Rp) args s 0 0 (fun a => Z.2.2.1 < a)) 82 (w_X11_script_82 (MS Z d) (Gw Z 5 p e R s m args below meth c (MQ below (QcS Z Rp) args s 0 0 (fun a => Z.2.2.1 < a))) Rp) := by
  unfold w_X11_script_82
  refine s_iload_n (k := 2) C (by decide +kernel) ?_
  refine s_sipush (n := 400) C (by decide +kernel) (by decide) ?_
  refine s_icmp_ge (off := 106) (tgt := 192) C (by decide +kernel) (by decide) (fun _ _ _ _ _ _ h => h) ?_
  refine s_aload_n (k := 0) C (by decide +kernel) ?_
  refine s_getI C w_3_3 (by decide +kernel) rfl ?_
  refine s_if_ne (off := 99) (tgt := 192) C (by decide +kernel) (by decide) (fun _ _ _ _ _ _ h => h) ?_
  refine s_aload_n (k := 0) C (by decide +kernel) ?_
  refine s_getR C w_2_239 (by decide +kernel) rfl ?_
  refine s_callV C rfl rfl (by decide +kernel) rfl w_5_51 w_5_52 w_5_53 w_1_12 w_5_54 (by decide +kernel) ?_
  refine s_if_eq (off := 89) (tgt := 192) C (by decide +kernel) (by decide) (fun _ _ _ _ _ _ h => h) ?_
  refine s_aload_n (k := 0) C (by decide +kernel) ?_
  refine s_getR C w_2_239 (by decide +kernel) rfl ?_
  refine s_getI C w_2_212 (by decide +kernel) rfl ?_
  refine s_istore_n (k := 3) C (by decide +kernel) ?_
  refine s_aload_n (k := 0) C (by decide +kernel) ?_
  refine s_getR C w_2_234 (by decide +kernel) rfl ?_
  refine s_aload_n (k := 0) C (by decide +kernel) ?_
  refine s_getR C w_2_239 (by decide +kernel) rfl ?_
  refine s_getR C w_2_197 (by decide +kernel) rfl ?_
  refine s_iload_n (k := 3) C (by decide +kernel) ?_
  refine s_iald C (by decide +kernel) ?_
  refine s_aload_n (k := 0) C (by decide +kernel) ?_
  refine s_getR C w_2_239 (by decide +kernel) rfl ?_
  refine s_getR C w_2_201 (by decide +kernel) rfl ?_
  refine s_iload_n (k := 3) C (by decide +kernel) ?_
  refine s_iald C (by decide +kernel) ?_
  refine s_aload_n (k := 0) C (by decide +kernel) ?_
  refine s_getR C w_2_239 (by decide +kernel) rfl ?_
  refine s_getR C w_2_203 (by decide +kernel) rfl ?_
  refine s_iload_n (k := 3) C (by decide +kernel) ?_
  refine s_iald C (by decide +kernel) ?_
  refine s_aload_n (k := 0) C (by decide +kernel) ?_
  refine s_getR C w_2_239 (by decide +kernel) rfl ?_
  refine s_getR C w_2_205 (by decide +kernel) rfl ?_
  refine s_iload_n (k := 3) C (by decide +kernel) ?_
  refine s_iald C (by decide +kernel) ?_
  refine s_callV C rfl rfl (by decide +kernel) rfl w_5_59 w_5_60 w_5_61 w_1_2 w_5_62 (by decide +kernel) ?_
  refine s_istore (k := 4) C (by decide +kernel) ?_
  refine s_iload (k := 4) C (by decide +kernel) ?_
  refine s_if_ge (off := 25) (tgt := 186) C (by decide +kernel) (by decide) (fun _ _ _ _ _ _ h => h) ?_
  refine s_aload_n (k := 0) C (by decide +kernel) ?_
  refine s_iload (k := 4) C (by decide +kernel) ?_
  refine s_putI C w_3_3 (by decide +kernel) rfl (Or.inl rfl) ?_
  refine s_aload_n (k := 0) C (by decide +kernel) ?_
  refine s_aload_n (k := 0) C (by decide +kernel) ?_
  refine s_getR C w_2_239 (by decide +kernel) rfl ?_
  refine s_getR C w_2_199 (by decide +kernel) rfl ?_
  refine s_iload_n (k := 3) C (by decide +kernel) ?_
  refine s_iald C (by decide +kernel) ?_
  refine s_putI C w_3_4 (by decide +kernel) rfl (Or.inl rfl) ?_
  exact s_goto (off := 6) (tgt := 189) C (by decide +kernel) (by decide) (fun _ _ _ _ _ _ h => h)
set_option maxRecDepth 20000 in
theorem b_X11_script_186 {Z : Zt} {d : Nat} {p : Program} {e : Env} {R : Room} {s : State} {m : MethodId} {args : Array Value} {below : List Frame} {meth : Method} {c : Code} {Rp : RT} (C : Cx Z d jX11_script RX11 p R s m args meth c) : Sd Z jX11_script p e R s m args below meth c (MQ below (QcS Z Rp) args s 0 0 (fun a => Z.2.2.1 < a)) 186 (w_X11_script_186 (MS Z d) (Gw Z 5 p e R s m args below meth c (MQ below (QcS Z Rp) args s 0 0 (fun a => Z.2.2.1 < a))) Rp) := by
  unfold w_X11_script_186
  refine s_iinc (n := 1) C (by decide +kernel) (by decide) ?_
  exact (fun _ _ _ _ _ _ h => h)
set_option maxRecDepth 20000 in
theorem b_X11_script_189 {Z : Zt} {d : Nat} {p : Program} {e : Env} {R : Room} {s : State} {m : MethodId} {args : Array Value} {below : List Frame} {meth : Method} {c : Code} {Rp : RT} (C : Cx Z d jX11_script RX11 p R s m args meth c) : Sd Z jX11_script p e R s m args below meth c (MQ below (QcS Z Rp) args s 0 0 (fun a => Z.2.2.1 < a)) 189 (w_X11_script_189 (MS Z d) (Gw Z 5 p e R s m args below meth c (MQ below (QcS Z Rp) args s 0 0 (fun a => Z.2.2.1 < a))) Rp) := by
  unfold w_X11_script_189
  exact s_goto (off := (-107)) (tgt := 82) C (by decide +kernel) (by decide) (fun _ _ _ _ _ _ h => h)
set_option maxRecDepth 20000 in
theorem b_X11_script_192 {Z : Zt} {d : Nat} {p : Program} {e : Env} {R : Room} {s : State} {m : MethodId} {args : Array Value} {below : List Frame} {meth : Method} {c : Code} {Rp : RT} (C : Cx Z d jX11_script RX11 p R s m args meth c) : Sd Z jX11_script p e R s m args below meth c (MQ below (QcS Z Rp) args s 0 0 (fun a => Z.2.2.1 < a)) 192 (w_X11_script_192 (MS Z d) (Gw Z 5 p e R s m args below meth c (MQ below (QcS Z Rp) args s 0 0 (fun a => Z.2.2.1 < a))) Rp) := by
  unfold w_X11_script_192
  refine s_iload_n (k := 2) C (by decide +kernel) ?_
  refine s_if_le (off := 11) (tgt := 204) C (by decide +kernel) (by decide) (fun _ _ _ _ _ _ h => h) ?_
  refine s_aload_n (k := 0) C (by decide +kernel) ?_
  refine s_iload_n (k := 2) C (by decide +kernel) ?_
  refine s_callV C rfl rfl (by decide +kernel) rfl w_3_79 w_3_81 w_p1_2 w_1_1 w_3_82 (by decide +kernel) ?_
  exact s_goto (off := 4) (tgt := 205) C (by decide +kernel) (by decide) (fun _ _ _ _ _ _ h => h)
set_option maxRecDepth 20000 in
theorem b_X11_script_204 {Z : Zt} {d : Nat} {p : Program} {e : Env} {R : Room} {s : State} {m : MethodId} {args : Array Value} {below : List Frame} {meth : Method} {c : Code} {Rp : RT} (C : Cx Z d jX11_script RX11 p R s m args meth c) : Sd Z jX11_script p e R s m args below meth c (MQ below (QcS Z Rp) args s 0 0 (fun a => Z.2.2.1 < a)) 204 (w_X11_script_204 (MS Z d) (Gw Z 5 p e R s m args below meth c (MQ below (QcS Z Rp) args s 0 0 (fun a => Z.2.2.1 < a))) Rp) := by
  unfold w_X11_script_204
  refine s_iconst (n := 0) C (by decide +kernel) (by decide) ?_
  exact (fun _ _ _ _ _ _ h => h)
set_option maxRecDepth 20000 in
theorem b_X11_script_205 {Z : Zt} {d : Nat} {p : Program} {e : Env} {R : Room} {s : State} {m : MethodId} {args : Array Value} {below : List Frame} {meth : Method} {c : Code} {Rp : RT} (C : Cx Z d jX11_script RX11 p R s m args meth c) : Sd Z jX11_script p e R s m args below meth c (MQ below (QcS Z Rp) args s 0 0 (fun a => Z.2.2.1 < a)) 205 (w_X11_script_205 (MS Z d) (Gw Z 5 p e R s m args below meth c (MQ below (QcS Z Rp) args s 0 0 (fun a => Z.2.2.1 < a))) Rp) := by
  unfold w_X11_script_205
  exact s_iret C rfl (by decide +kernel)
theorem ms_X11_script {Z : Zt} {d : Nat} {S : Sh} {μ : Mi} {ρ : Mr} {Rp : RT} (a0 : Nat) (x1 : Int32) (h : ∀ G : Nat → PT, (∀ (L st : List Value) (S : Sh) (q : Nat × Nat) (μ : Mi) (ρ : Mr), w_X11_script_15 (MS Z d) G Rp L st S q μ ρ → G 15 L st S q μ ρ) → (∀ (L st : List Value) (S : Sh) (q : Nat × Nat) (μ : Mi) (ρ : Mr), w_X11_script_18 (MS Z d) G Rp L st S q μ ρ → G 18 L st S q μ ρ) → (∀ (L st : List Value) (S : Sh) (q : Nat × Nat) (μ : Mi) (ρ : Mr), w_X11_script_59 (MS Z d) G Rp L st S q μ ρ → G 59 L st S q μ ρ) → (∀ (L st : List Value) (S : Sh) (q : Nat × Nat) (μ : Mi) (ρ : Mr), w_X11_script_82 (MS Z d) G Rp L st S q μ ρ → G 82 L st S q μ ρ) → (∀ (L st : List Value) (S : Sh) (q : Nat × Nat) (μ : Mi) (ρ : Mr), w_X11_script_186 (MS Z d) G Rp L st S q μ ρ → G 186 L st S q μ ρ) → (∀ (L st : List Value) (S : Sh) (q : Nat × Nat) (μ : Mi) (ρ : Mr), w_X11_script_189 (MS Z d) G Rp L st S q μ ρ → G 189 L st S q μ ρ) → (∀ (L st : List Value) (S : Sh) (q : Nat × Nat) (μ : Mi) (ρ : Mr), w_X11_script_192 (MS Z d) G Rp L st S q μ ρ → G 192 L st S q μ ρ) → (∀ (L st : List Value) (S : Sh) (q : Nat × Nat) (μ : Mi) (ρ : Mr), w_X11_script_204 (MS Z d) G Rp L st S q μ ρ → G 204 L st S q μ ρ) → (∀ (L st : List Value) (S : Sh) (q : Nat × Nat) (μ : Mi) (ρ : Mr), w_X11_script_205 (MS Z d) G Rp L st S q μ ρ → G 205 L st S q μ ρ) → w_X11_script_0 (MS Z d) G Rp [.ref a0, .int x1, .null, .null, .null] [] S (0, 0) μ ρ) : MS Z (d + 1) jX11_script [.ref a0, .int x1] S μ ρ Rp :=
  MS_of [.ref a0, .int x1, .null, .null, .null] (by decide +kernel) rfl rfl (Nat.le_of_ble_eq_true rfl) rfl (fun p e R s m args below meth c C => b_X11_script_0 C _ _ _ _ _ _ (h _ (b_X11_script_15 C) (b_X11_script_18 C) (b_X11_script_59 C) (b_X11_script_82 C) (b_X11_script_186 C) (b_X11_script_189 C) (b_X11_script_192 C) (b_X11_script_204 C) (b_X11_script_205 C)))
def w_X11_fault_0 (M : CT) (G : Nat → PT) (Rp : RT) : PT := tIload 1 <| tSw [(0, G 28), (1, G 36)] (G 44)
def w_X11_fault_28 (M : CT) (G : Nat → PT) (Rp : RT) : PT := tAload 0 <| tGetR 11 11 4 <| tGetI 9 7 3 <| tIret Rp
def w_X11_fault_36 (M : CT) (G : Nat → PT) (Rp : RT) : PT := tAload 0 <| tGetR 11 11 4 <| tGetI 9 7 4 <| tIret Rp
def w_X11_fault_44 (M : CT) (G : Nat → PT) (Rp : RT) : PT := tConst (-1) <| tIret Rp
set_option maxRecDepth 20000 in
theorem b_X11_fault_0 {Z : Zt} {d : Nat} {p : Program} {e : Env} {R : Room} {s : State} {m : MethodId} {args : Array Value} {below : List Frame} {meth : Method} {c : Code} {Rp : RT} (C : Cx Z d jX11_fault RX11 p R s m args meth c) : Sd Z jX11_fault p e R s m args below meth c (MQ below (QcS Z Rp) args s 0 0 (fun a => Z.2.2.1 < a)) 0 (w_X11_fault_0 (MS Z d) (Gw Z 2 p e R s m args below meth c (MQ below (QcS Z Rp) args s 0 0 (fun a => Z.2.2.1 < a))) Rp) := by
  unfold w_X11_fault_0
  refine s_iload_n (k := 1) C (by decide +kernel) ?_
  refine s_lsw (df := 43) (ps := #[(0, 27), (1, 35)]) (len := 27) C (by decide +kernel) (by decide) 44 (by decide) (fun _ _ _ _ _ _ h => h) (fun i r h => ?_) (fun x h => ?_)
  · match i, h with
    | 0, h => cases h; dsimp only; exact ⟨27, 28, by decide, by decide, (fun _ _ _ _ _ _ h => h)⟩
    | 1, h => cases h; dsimp only; exact ⟨35, 36, by decide, by decide, (fun _ _ _ _ _ _ h => h)⟩
    | q + 2, h => simp at h
  · refine lsw_out _ _ x (fun a ha => ?_)
    simp at ha h
    rcases ha with ⟨rfl, _⟩ | ⟨rfl, _⟩
    · exact fun z => h.1 (Int32.toInt_inj.mp (by rw [z]; rfl))
    · exact fun z => h.2 (Int32.toInt_inj.mp (by rw [z]; rfl))
set_option maxRecDepth 20000 in
theorem b_X11_fault_28 {Z : Zt} {d : Nat} {p : Program} {e : Env} {R : Room} {s : State} {m : MethodId} {args : Array Value} {below : List Frame} {meth : Method} {c : Code} {Rp : RT} (C : Cx Z d jX11_fault RX11 p R s m args meth c) : Sd Z jX11_fault p e R s m args below meth c (MQ below (QcS Z Rp) args s 0 0 (fun a => Z.2.2.1 < a)) 28 (w_X11_fault_28 (MS Z d) (Gw Z 2 p e R s m args below meth c (MQ below (QcS Z Rp) args s 0 0 (fun a => Z.2.2.1 < a))) Rp) := by
  unfold w_X11_fault_28
  refine s_aload_n (k := 0) C (by decide +kernel) ?_
  refine s_getR C w_2_238 (by decide +kernel) rfl ?_
  refine s_getI C w_2_170 (by decide +kernel) rfl ?_
  exact s_iret C rfl (by decide +kernel)
set_option maxRecDepth 20000 in
theorem b_X11_fault_36 {Z : Zt} {d : Nat} {p : Program} {e : Env} {R : Room} {s : State} {m : MethodId} {args : Array Value} {below : List Frame} {meth : Method} {c : Code} {Rp : RT} (C : Cx Z d jX11_fault RX11 p R s m args meth c) : Sd Z jX11_fault p e R s m args below meth c (MQ below (QcS Z Rp) args s 0 0 (fun a => Z.2.2.1 < a)) 36 (w_X11_fault_36 (MS Z d) (Gw Z 2 p e R s m args below meth c (MQ below (QcS Z Rp) args s 0 0 (fun a => Z.2.2.1 < a))) Rp) := by
  unfold w_X11_fault_36
  refine s_aload_n (k := 0) C (by decide +kernel) ?_
  refine s_getR C w_2_238 (by decide +kernel) rfl ?_
  refine s_getI C w_2_172 (by decide +kernel) rfl ?_
  exact s_iret C rfl (by decide +kernel)
set_option maxRecDepth 20000 in
theorem b_X11_fault_44 {Z : Zt} {d : Nat} {p : Program} {e : Env} {R : Room} {s : State} {m : MethodId} {args : Array Value} {below : List Frame} {meth : Method} {c : Code} {Rp : RT} (C : Cx Z d jX11_fault RX11 p R s m args meth c) : Sd Z jX11_fault p e R s m args below meth c (MQ below (QcS Z Rp) args s 0 0 (fun a => Z.2.2.1 < a)) 44 (w_X11_fault_44 (MS Z d) (Gw Z 2 p e R s m args below meth c (MQ below (QcS Z Rp) args s 0 0 (fun a => Z.2.2.1 < a))) Rp) := by
  unfold w_X11_fault_44
  refine s_iconst (n := (-1)) C (by decide +kernel) (by decide) ?_
  exact s_iret C rfl (by decide +kernel)
theorem ms_X11_fault {Z : Zt} {d : Nat} {S : Sh} {μ : Mi} {ρ : Mr} {Rp : RT} (a0 : Nat) (x1 : Int32) (h : ∀ G : Nat → PT, (∀ (L st : List Value) (S : Sh) (q : Nat × Nat) (μ : Mi) (ρ : Mr), w_X11_fault_28 (MS Z d) G Rp L st S q μ ρ → G 28 L st S q μ ρ) → (∀ (L st : List Value) (S : Sh) (q : Nat × Nat) (μ : Mi) (ρ : Mr), w_X11_fault_36 (MS Z d) G Rp L st S q μ ρ → G 36 L st S q μ ρ) → (∀ (L st : List Value) (S : Sh) (q : Nat × Nat) (μ : Mi) (ρ : Mr), w_X11_fault_44 (MS Z d) G Rp L st S q μ ρ → G 44 L st S q μ ρ) → w_X11_fault_0 (MS Z d) G Rp [.ref a0, .int x1] [] S (0, 0) μ ρ) : MS Z (d + 1) jX11_fault [.ref a0, .int x1] S μ ρ Rp :=
  MS_of [.ref a0, .int x1] (by decide +kernel) rfl rfl (Nat.le_of_ble_eq_true rfl) rfl (fun p e R s m args below meth c C => b_X11_fault_0 C _ _ _ _ _ _ (h _ (b_X11_fault_28 C) (b_X11_fault_36 C) (b_X11_fault_44 C)))
def w_X11_halted_0 (M : CT) (G : Nat → PT) (Rp : RT) : PT := tIload 1 <| tSw [(0, G 28), (1, G 33)] (G 38)
def w_X11_halted_28 (M : CT) (G : Nat → PT) (Rp : RT) : PT := tAload 0 <| tGetI 11 11 9 <| tIret Rp
def w_X11_halted_33 (M : CT) (G : Nat → PT) (Rp : RT) : PT := tAload 0 <| tGetI 11 11 10 <| tIret Rp
def w_X11_halted_38 (M : CT) (G : Nat → PT) (Rp : RT) : PT := tConst (-1) <| tIret Rp
set_option maxRecDepth 20000 in
theorem b_X11_halted_0 {Z : Zt} {d : Nat} {p : Program} {e : Env} {R : Room} {s : State} {m : MethodId} {args : Array Value} {below : List Frame} {meth : Method} {c : Code} {Rp : RT} (C : Cx Z d jX11_halted RX11 p R s m args meth c) : Sd Z jX11_halted p e R s m args below meth c (MQ below (QcS Z Rp) args s 0 0 (fun a => Z.2.2.1 < a)) 0 (w_X11_halted_0 (MS Z d) (Gw Z 2 p e R s m args below meth c (MQ below (QcS Z Rp) args s 0 0 (fun a => Z.2.2.1 < a))) Rp) := by
  unfold w_X11_halted_0
  refine s_iload_n (k := 1) C (by decide +kernel) ?_
  refine s_lsw (df := 37) (ps := #[(0, 27), (1, 32)]) (len := 27) C (by decide +kernel) (by decide) 38 (by decide) (fun _ _ _ _ _ _ h => h) (fun i r h => ?_) (fun x h => ?_)
  · match i, h with
    | 0, h => cases h; dsimp only; exact ⟨27, 28, by decide, by decide, (fun _ _ _ _ _ _ h => h)⟩
    | 1, h => cases h; dsimp only; exact ⟨32, 33, by decide, by decide, (fun _ _ _ _ _ _ h => h)⟩
    | q + 2, h => simp at h
  · refine lsw_out _ _ x (fun a ha => ?_)
    simp at ha h
    rcases ha with ⟨rfl, _⟩ | ⟨rfl, _⟩
    · exact fun z => h.1 (Int32.toInt_inj.mp (by rw [z]; rfl))
    · exact fun z => h.2 (Int32.toInt_inj.mp (by rw [z]; rfl))
set_option maxRecDepth 20000 in
theorem b_X11_halted_28 {Z : Zt} {d : Nat} {p : Program} {e : Env} {R : Room} {s : State} {m : MethodId} {args : Array Value} {below : List Frame} {meth : Method} {c : Code} {Rp : RT} (C : Cx Z d jX11_halted RX11 p R s m args meth c) : Sd Z jX11_halted p e R s m args below meth c (MQ below (QcS Z Rp) args s 0 0 (fun a => Z.2.2.1 < a)) 28 (w_X11_halted_28 (MS Z d) (Gw Z 2 p e R s m args below meth c (MQ below (QcS Z Rp) args s 0 0 (fun a => Z.2.2.1 < a))) Rp) := by
  unfold w_X11_halted_28
  refine s_aload_n (k := 0) C (by decide +kernel) ?_
  refine s_getI C w_3_3 (by decide +kernel) rfl ?_
  exact s_iret C rfl (by decide +kernel)
set_option maxRecDepth 20000 in
theorem b_X11_halted_33 {Z : Zt} {d : Nat} {p : Program} {e : Env} {R : Room} {s : State} {m : MethodId} {args : Array Value} {below : List Frame} {meth : Method} {c : Code} {Rp : RT} (C : Cx Z d jX11_halted RX11 p R s m args meth c) : Sd Z jX11_halted p e R s m args below meth c (MQ below (QcS Z Rp) args s 0 0 (fun a => Z.2.2.1 < a)) 33 (w_X11_halted_33 (MS Z d) (Gw Z 2 p e R s m args below meth c (MQ below (QcS Z Rp) args s 0 0 (fun a => Z.2.2.1 < a))) Rp) := by
  unfold w_X11_halted_33
  refine s_aload_n (k := 0) C (by decide +kernel) ?_
  refine s_getI C w_3_4 (by decide +kernel) rfl ?_
  exact s_iret C rfl (by decide +kernel)
set_option maxRecDepth 20000 in
theorem b_X11_halted_38 {Z : Zt} {d : Nat} {p : Program} {e : Env} {R : Room} {s : State} {m : MethodId} {args : Array Value} {below : List Frame} {meth : Method} {c : Code} {Rp : RT} (C : Cx Z d jX11_halted RX11 p R s m args meth c) : Sd Z jX11_halted p e R s m args below meth c (MQ below (QcS Z Rp) args s 0 0 (fun a => Z.2.2.1 < a)) 38 (w_X11_halted_38 (MS Z d) (Gw Z 2 p e R s m args below meth c (MQ below (QcS Z Rp) args s 0 0 (fun a => Z.2.2.1 < a))) Rp) := by
  unfold w_X11_halted_38
  refine s_iconst (n := (-1)) C (by decide +kernel) (by decide) ?_
  exact s_iret C rfl (by decide +kernel)
theorem ms_X11_halted {Z : Zt} {d : Nat} {S : Sh} {μ : Mi} {ρ : Mr} {Rp : RT} (a0 : Nat) (x1 : Int32) (h : ∀ G : Nat → PT, (∀ (L st : List Value) (S : Sh) (q : Nat × Nat) (μ : Mi) (ρ : Mr), w_X11_halted_28 (MS Z d) G Rp L st S q μ ρ → G 28 L st S q μ ρ) → (∀ (L st : List Value) (S : Sh) (q : Nat × Nat) (μ : Mi) (ρ : Mr), w_X11_halted_33 (MS Z d) G Rp L st S q μ ρ → G 33 L st S q μ ρ) → (∀ (L st : List Value) (S : Sh) (q : Nat × Nat) (μ : Mi) (ρ : Mr), w_X11_halted_38 (MS Z d) G Rp L st S q μ ρ → G 38 L st S q μ ρ) → w_X11_halted_0 (MS Z d) G Rp [.ref a0, .int x1] [] S (0, 0) μ ρ) : MS Z (d + 1) jX11_halted [.ref a0, .int x1] S μ ρ Rp :=
  MS_of [.ref a0, .int x1] (by decide +kernel) rfl rfl (Nat.le_of_ble_eq_true rfl) rfl (fun p e R s m args below meth c C => b_X11_halted_0 C _ _ _ _ _ _ (h _ (b_X11_halted_28 C) (b_X11_halted_33 C) (b_X11_halted_38 C)))
def w_X11_store_0 (M : CT) (G : Nat → PT) (Rp : RT) : PT := tAload 0 <| tGetR 11 11 0 <| tIload 1 <| tIload 2 <| tCallS M jX8_storeFact 3 <| tIret Rp
set_option maxRecDepth 20000 in
theorem b_X11_store_0 {Z : Zt} {d : Nat} {p : Program} {e : Env} {R : Room} {s : State} {m : MethodId} {args : Array Value} {below : List Frame} {meth : Method} {c : Code} {Rp : RT} (C : Cx Z d jX11_store RX11 p R s m args meth c) : Sd Z jX11_store p e R s m args below meth c (MQ below (QcS Z Rp) args s 0 0 (fun a => Z.2.2.1 < a)) 0 (w_X11_store_0 (MS Z d) (Gw Z 3 p e R s m args below meth c (MQ below (QcS Z Rp) args s 0 0 (fun a => Z.2.2.1 < a))) Rp) := by
  unfold w_X11_store_0
  refine s_aload_n (k := 0) C (by decide +kernel) ?_
  refine s_getR C w_2_234 (by decide +kernel) rfl ?_
  refine s_iload_n (k := 1) C (by decide +kernel) ?_
  refine s_iload_n (k := 2) C (by decide +kernel) ?_
  refine s_callS C (by decide +kernel) rfl w_5_91 w_5_92 w_1_21 w_5_93 (by decide +kernel) ?_
  exact s_iret C rfl (by decide +kernel)
theorem ms_X11_store {Z : Zt} {d : Nat} {S : Sh} {μ : Mi} {ρ : Mr} {Rp : RT} (a0 : Nat) (x1 : Int32) (x2 : Int32) (h : ∀ G : Nat → PT, w_X11_store_0 (MS Z d) G Rp [.ref a0, .int x1, .int x2] [] S (0, 0) μ ρ) : MS Z (d + 1) jX11_store [.ref a0, .int x1, .int x2] S μ ρ Rp :=
  MS_of [.ref a0, .int x1, .int x2] (by decide +kernel) rfl rfl (Nat.le_of_ble_eq_true rfl) rfl (fun p e R s m args below meth c C => b_X11_store_0 C _ _ _ _ _ _ (h _ ))
def w_X11_cell_0 (M : CT) (G : Nat → PT) (Rp : RT) : PT := tIload 1 <| tCallS M jX11_isNoStore 1 <| tIf (fun x => x ≠ 0) (G 14) <| tIload 2 <| tCallS M jX11_isNoCell 1 <| tIf (fun x => x = 0) (G 17) <| G 14
def w_X11_cell_14 (M : CT) (G : Nat → PT) (Rp : RT) : PT := tConst (-2147483648) <| tIret Rp
def w_X11_cell_17 (M : CT) (G : Nat → PT) (Rp : RT) : PT := tAload 0 <| tGetR 11 11 0 <| tGetR 10 6 0 <| tIload 1 <| tAldR 37 <| tGetR 7 18 13 <| tIload 2 <| tAld 20 <| tIret Rp
set_option maxRecDepth 20000 in
theorem b_X11_cell_0 {Z : Zt} {d : Nat} {p : Program} {e : Env} {R : Room} {s : State} {m : MethodId} {args : Array Value} {below : List Frame} {meth : Method} {c : Code} {Rp : RT} (C : Cx Z d jX11_cell RX11 p R s m args meth c) : Sd Z jX11_cell p e R s m args below meth c (MQ below (QcS Z Rp) args s 0 0 (fun a => Z.2.2.1 < a)) 0 (w_X11_cell_0 (MS Z d) (Gw Z 3 p e R s m args below meth c (MQ below (QcS Z Rp) args s 0 0 (fun a => Z.2.2.1 < a))) Rp) := by
  unfold w_X11_cell_0
  refine s_iload_n (k := 1) C (by decide +kernel) ?_
  refine s_callS C (by decide +kernel) rfl w_5_100 w_3_103 w_1_1 w_3_104 (by decide +kernel) ?_
  refine s_if_ne (off := 10) (tgt := 14) C (by decide +kernel) (by decide) (fun _ _ _ _ _ _ h => h) ?_
  refine s_iload_n (k := 2) C (by decide +kernel) ?_
  refine s_callS C (by decide +kernel) rfl w_5_101 w_3_211 w_1_1 w_3_212 (by decide +kernel) ?_
  refine s_if_eq (off := 6) (tgt := 17) C (by decide +kernel) (by decide) (fun _ _ _ _ _ _ h => h) ?_
  exact (fun _ _ _ _ _ _ h => h)
set_option maxRecDepth 20000 in
theorem b_X11_cell_14 {Z : Zt} {d : Nat} {p : Program} {e : Env} {R : Room} {s : State} {m : MethodId} {args : Array Value} {below : List Frame} {meth : Method} {c : Code} {Rp : RT} (C : Cx Z d jX11_cell RX11 p R s m args meth c) : Sd Z jX11_cell p e R s m args below meth c (MQ below (QcS Z Rp) args s 0 0 (fun a => Z.2.2.1 < a)) 14 (w_X11_cell_14 (MS Z d) (Gw Z 3 p e R s m args below meth c (MQ below (QcS Z Rp) args s 0 0 (fun a => Z.2.2.1 < a))) Rp) := by
  unfold w_X11_cell_14
  refine s_ldc C w_5_102 (by decide +kernel) ?_
  exact s_iret C rfl (by decide +kernel)
set_option maxRecDepth 20000 in
theorem b_X11_cell_17 {Z : Zt} {d : Nat} {p : Program} {e : Env} {R : Room} {s : State} {m : MethodId} {args : Array Value} {below : List Frame} {meth : Method} {c : Code} {Rp : RT} (C : Cx Z d jX11_cell RX11 p R s m args meth c) : Sd Z jX11_cell p e R s m args below meth c (MQ below (QcS Z Rp) args s 0 0 (fun a => Z.2.2.1 < a)) 17 (w_X11_cell_17 (MS Z d) (Gw Z 3 p e R s m args below meth c (MQ below (QcS Z Rp) args s 0 0 (fun a => Z.2.2.1 < a))) Rp) := by
  unfold w_X11_cell_17
  refine s_aload_n (k := 0) C (by decide +kernel) ?_
  refine s_getR C w_2_234 (by decide +kernel) rfl ?_
  refine s_getR C w_2_116 (by decide +kernel) rfl ?_
  refine s_iload_n (k := 1) C (by decide +kernel) ?_
  refine s_aald C rfl (by decide +kernel) ?_
  refine s_getR C w_2_24 (by decide +kernel) rfl ?_
  refine s_iload_n (k := 2) C (by decide +kernel) ?_
  refine s_iald C (by decide +kernel) ?_
  exact s_iret C rfl (by decide +kernel)
theorem ms_X11_cell {Z : Zt} {d : Nat} {S : Sh} {μ : Mi} {ρ : Mr} {Rp : RT} (a0 : Nat) (x1 : Int32) (x2 : Int32) (h : ∀ G : Nat → PT, (∀ (L st : List Value) (S : Sh) (q : Nat × Nat) (μ : Mi) (ρ : Mr), w_X11_cell_14 (MS Z d) G Rp L st S q μ ρ → G 14 L st S q μ ρ) → (∀ (L st : List Value) (S : Sh) (q : Nat × Nat) (μ : Mi) (ρ : Mr), w_X11_cell_17 (MS Z d) G Rp L st S q μ ρ → G 17 L st S q μ ρ) → w_X11_cell_0 (MS Z d) G Rp [.ref a0, .int x1, .int x2] [] S (0, 0) μ ρ) : MS Z (d + 1) jX11_cell [.ref a0, .int x1, .int x2] S μ ρ Rp :=
  MS_of [.ref a0, .int x1, .int x2] (by decide +kernel) rfl rfl (Nat.le_of_ble_eq_true rfl) rfl (fun p e R s m args below meth c C => b_X11_cell_0 C _ _ _ _ _ _ (h _ (b_X11_cell_14 C) (b_X11_cell_17 C)))
def w_X11_entry_0 (M : CT) (G : Nat → PT) (Rp : RT) : PT := tIload 1 <| tCallS M jX11_isNoStore 1 <| tIf (fun x => x ≠ 0) (G 23) <| tAload 0 <| tGetR 11 11 0 <| tGetR 10 6 0 <| tIload 1 <| tAldR 37 <| tIload 2 <| tCallV M jX7_holds 7 18 1 <| tIf (fun x => x ≠ 0) (G 27) <| G 23
def w_X11_entry_23 (M : CT) (G : Nat → PT) (Rp : RT) : PT := tConst (-1000) <| tIret Rp
def w_X11_entry_27 (M : CT) (G : Nat → PT) (Rp : RT) : PT := tAload 0 <| tGetR 11 11 0 <| tGetR 10 6 0 <| tIload 1 <| tAldR 37 <| tGetR 7 18 12 <| tIload 2 <| tAld 20 <| tIload 3 <| tCallS M jX0_part 2 <| tIret Rp
set_option maxRecDepth 20000 in
theorem b_X11_entry_0 {Z : Zt} {d : Nat} {p : Program} {e : Env} {R : Room} {s : State} {m : MethodId} {args : Array Value} {below : List Frame} {meth : Method} {c : Code} {Rp : RT} (C : Cx Z d jX11_entry RX11 p R s m args meth c) : Sd Z jX11_entry p e R s m args below meth c (MQ below (QcS Z Rp) args s 0 0 (fun a => Z.2.2.1 < a)) 0 (w_X11_entry_0 (MS Z d) (Gw Z 4 p e R s m args below meth c (MQ below (QcS Z Rp) args s 0 0 (fun a => Z.2.2.1 < a))) Rp) := by
  unfold w_X11_entry_0
  refine s_iload_n (k := 1) C (by decide +kernel) ?_
  refine s_callS C (by decide +kernel) rfl w_5_100 w_3_103 w_1_1 w_3_104 (by decide +kernel) ?_
  refine s_if_ne (off := 19) (tgt := 23) C (by decide +kernel) (by decide) (fun _ _ _ _ _ _ h => h) ?_
  refine s_aload_n (k := 0) C (by decide +kernel) ?_
  refine s_getR C w_2_234 (by decide +kernel) rfl ?_
  refine s_getR C w_2_116 (by decide +kernel) rfl ?_
  refine s_iload_n (k := 1) C (by decide +kernel) ?_
  refine s_aald C rfl (by decide +kernel) ?_
  refine s_iload_n (k := 2) C (by decide +kernel) ?_
  refine s_callV C rfl rfl (by decide +kernel) rfl w_5_107 w_5_108 w_5_109 w_1_5 w_5_110 (by decide +kernel) ?_
  refine s_if_ne (off := 7) (tgt := 27) C (by decide +kernel) (by decide) (fun _ _ _ _ _ _ h => h) ?_
  exact (fun _ _ _ _ _ _ h => h)
set_option maxRecDepth 20000 in
theorem b_X11_entry_23 {Z : Zt} {d : Nat} {p : Program} {e : Env} {R : Room} {s : State} {m : MethodId} {args : Array Value} {below : List Frame} {meth : Method} {c : Code} {Rp : RT} (C : Cx Z d jX11_entry RX11 p R s m args meth c) : Sd Z jX11_entry p e R s m args below meth c (MQ below (QcS Z Rp) args s 0 0 (fun a => Z.2.2.1 < a)) 23 (w_X11_entry_23 (MS Z d) (Gw Z 4 p e R s m args below meth c (MQ below (QcS Z Rp) args s 0 0 (fun a => Z.2.2.1 < a))) Rp) := by
  unfold w_X11_entry_23
  refine s_sipush (n := (-1000)) C (by decide +kernel) (by decide) ?_
  exact s_iret C rfl (by decide +kernel)
set_option maxRecDepth 20000 in
theorem b_X11_entry_27 {Z : Zt} {d : Nat} {p : Program} {e : Env} {R : Room} {s : State} {m : MethodId} {args : Array Value} {below : List Frame} {meth : Method} {c : Code} {Rp : RT} (C : Cx Z d jX11_entry RX11 p R s m args meth c) : Sd Z jX11_entry p e R s m args below meth c (MQ below (QcS Z Rp) args s 0 0 (fun a => Z.2.2.1 < a)) 27 (w_X11_entry_27 (MS Z d) (Gw Z 4 p e R s m args below meth c (MQ below (QcS Z Rp) args s 0 0 (fun a => Z.2.2.1 < a))) Rp) := by
  unfold w_X11_entry_27
  refine s_aload_n (k := 0) C (by decide +kernel) ?_
  refine s_getR C w_2_234 (by decide +kernel) rfl ?_
  refine s_getR C w_2_116 (by decide +kernel) rfl ?_
  refine s_iload_n (k := 1) C (by decide +kernel) ?_
  refine s_aald C rfl (by decide +kernel) ?_
  refine s_getR C w_2_21 (by decide +kernel) rfl ?_
  refine s_iload_n (k := 2) C (by decide +kernel) ?_
  refine s_iald C (by decide +kernel) ?_
  refine s_iload_n (k := 3) C (by decide +kernel) ?_
  refine s_callS C (by decide +kernel) rfl w_5_111 w_5_112 w_1_9 w_5_113 (by decide +kernel) ?_
  exact s_iret C rfl (by decide +kernel)
theorem ms_X11_entry {Z : Zt} {d : Nat} {S : Sh} {μ : Mi} {ρ : Mr} {Rp : RT} (a0 : Nat) (x1 : Int32) (x2 : Int32) (x3 : Int32) (h : ∀ G : Nat → PT, (∀ (L st : List Value) (S : Sh) (q : Nat × Nat) (μ : Mi) (ρ : Mr), w_X11_entry_23 (MS Z d) G Rp L st S q μ ρ → G 23 L st S q μ ρ) → (∀ (L st : List Value) (S : Sh) (q : Nat × Nat) (μ : Mi) (ρ : Mr), w_X11_entry_27 (MS Z d) G Rp L st S q μ ρ → G 27 L st S q μ ρ) → w_X11_entry_0 (MS Z d) G Rp [.ref a0, .int x1, .int x2, .int x3] [] S (0, 0) μ ρ) : MS Z (d + 1) jX11_entry [.ref a0, .int x1, .int x2, .int x3] S μ ρ Rp :=
  MS_of [.ref a0, .int x1, .int x2, .int x3] (by decide +kernel) rfl rfl (Nat.le_of_ble_eq_true rfl) rfl (fun p e R s m args below meth c C => b_X11_entry_0 C _ _ _ _ _ _ (h _ (b_X11_entry_23 C) (b_X11_entry_27 C)))
def w_X11_follows_0 (M : CT) (G : Nat → PT) (Rp : RT) : PT := tIload 1 <| tCallS M jX11_isNoStore 1 <| tIf (fun x => x ≠ 0) (G 23) <| tIload 2 <| tCallS M jX11_isNoStore 1 <| tIf (fun x => x ≠ 0) (G 23) <| tIload 3 <| tIf (fun x => x < 0) (G 23) <| tIload 3 <| tConst 1 <| tIf2 (fun x y => x ≤ y) (G 26) <| G 23
def w_X11_follows_23 (M : CT) (G : Nat → PT) (Rp : RT) : PT := tConst (-2) <| tIret Rp
def w_X11_follows_26 (M : CT) (G : Nat → PT) (Rp : RT) : PT := tAload 0 <| tGetR 11 11 0 <| tGetR 10 6 0 <| tIload 1 <| tAldR 37 <| tAstore 4 <| tAload 4 <| tGetI 7 18 4 <| tConst 2 <| tIf2 (fun x y => x = y) (G 48) <| tConst (-1) <| tIret Rp
def w_X11_follows_48 (M : CT) (G : Nat → PT) (Rp : RT) : PT := tIload 3 <| tIf (fun x => x ≠ 0) (G 62) <| tAload 4 <| tGetR 7 18 14 <| tIload 2 <| tAld 20 <| tGoto (G 69)
def w_X11_follows_62 (M : CT) (G : Nat → PT) (Rp : RT) : PT := tAload 4 <| tGetR 7 18 15 <| tIload 2 <| tAld 20 <| G 69
def w_X11_follows_69 (M : CT) (G : Nat → PT) (Rp : RT) : PT := tIret Rp
set_option maxRecDepth 20000 in
theorem b_X11_follows_0 {Z : Zt} {d : Nat} {p : Program} {e : Env} {R : Room} {s : State} {m : MethodId} {args : Array Value} {below : List Frame} {meth : Method} {c : Code} {Rp : RT} (C : Cx Z d jX11_follows RX11 p R s m args meth c) : Sd Z jX11_follows p e R s m args below meth c (MQ below (QcS Z Rp) args s 0 0 (fun a => Z.2.2.1 < a)) 0 (w_X11_follows_0 (MS Z d) (Gw Z 5 p e R s m args below meth c (MQ below (QcS Z Rp) args s 0 0 (fun a => Z.2.2.1 < a))) Rp) := by
  unfold w_X11_follows_0
  refine s_iload_n (k := 1) C (by decide +kernel) ?_
  refine s_callS C (by decide +kernel) rfl w_5_100 w_3_103 w_1_1 w_3_104 (by decide +kernel) ?_
  refine s_if_ne (off := 19) (tgt := 23) C (by decide +kernel) (by decide) (fun _ _ _ _ _ _ h => h) ?_
  refine s_iload_n (k := 2) C (by decide +kernel) ?_
  refine s_callS C (by decide +kernel) rfl w_5_100 w_3_103 w_1_1 w_3_104 (by decide +kernel) ?_
  refine s_if_ne (off := 12) (tgt := 23) C (by decide +kernel) (by decide) (fun _ _ _ _ _ _ h => h) ?_
  refine s_iload_n (k := 3) C (by decide +kernel) ?_
  refine s_if_lt (off := 8) (tgt := 23) C (by decide +kernel) (by decide) (fun _ _ _ _ _ _ h => h) ?_
  refine s_iload_n (k := 3) C (by decide +kernel) ?_
  refine s_iconst (n := 1) C (by decide +kernel) (by decide) ?_
  refine s_icmp_le (off := 6) (tgt := 26) C (by decide +kernel) (by decide) (fun _ _ _ _ _ _ h => h) ?_
  exact (fun _ _ _ _ _ _ h => h)
set_option maxRecDepth 20000 in
theorem b_X11_follows_23 {Z : Zt} {d : Nat} {p : Program} {e : Env} {R : Room} {s : State} {m : MethodId} {args : Array Value} {below : List Frame} {meth : Method} {c : Code} {Rp : RT} (C : Cx Z d jX11_follows RX11 p R s m args meth c) : Sd Z jX11_follows p e R s m args below meth c (MQ below (QcS Z Rp) args s 0 0 (fun a => Z.2.2.1 < a)) 23 (w_X11_follows_23 (MS Z d) (Gw Z 5 p e R s m args below meth c (MQ below (QcS Z Rp) args s 0 0 (fun a => Z.2.2.1 < a))) Rp) := by
  unfold w_X11_follows_23
  refine s_bipush (n := (-2)) C (by decide +kernel) (by decide) ?_
  exact s_iret C rfl (by decide +kernel)
set_option maxRecDepth 20000 in
theorem b_X11_follows_26 {Z : Zt} {d : Nat} {p : Program} {e : Env} {R : Room} {s : State} {m : MethodId} {args : Array Value} {below : List Frame} {meth : Method} {c : Code} {Rp : RT} (C : Cx Z d jX11_follows RX11 p R s m args meth c) : Sd Z jX11_follows p e R s m args below meth c (MQ below (QcS Z Rp) args s 0 0 (fun a => Z.2.2.1 < a)) 26 (w_X11_follows_26 (MS Z d) (Gw Z 5 p e R s m args below meth c (MQ below (QcS Z Rp) args s 0 0 (fun a => Z.2.2.1 < a))) Rp) := by
  unfold w_X11_follows_26
  refine s_aload_n (k := 0) C (by decide +kernel) ?_
  refine s_getR C w_2_234 (by decide +kernel) rfl ?_
  refine s_getR C w_2_116 (by decide +kernel) rfl ?_
  refine s_iload_n (k := 1) C (by decide +kernel) ?_
  refine s_aald C rfl (by decide +kernel) ?_
  refine s_astore (k := 4) C (by decide +kernel) ?_
  refine s_aload (k := 4) C (by decide +kernel) ?_
  refine s_getI C w_1_235 (by decide +kernel) rfl ?_
  refine s_iconst (n := 2) C (by decide +kernel) (by decide) ?_
  refine s_icmp_eq (off := 5) (tgt := 48) C (by decide +kernel) (by decide) (fun _ _ _ _ _ _ h => h) ?_
  refine s_iconst (n := (-1)) C (by decide +kernel) (by decide) ?_
  exact s_iret C rfl (by decide +kernel)
set_option maxRecDepth 20000 in
theorem b_X11_follows_48 {Z : Zt} {d : Nat} {p : Program} {e : Env} {R : Room} {s : State} {m : MethodId} {args : Array Value} {below : List Frame} {meth : Method} {c : Code} {Rp : RT} (C : Cx Z d jX11_follows RX11 p R s m args meth c) : Sd Z jX11_follows p e R s m args below meth c (MQ below (QcS Z Rp) args s 0 0 (fun a => Z.2.2.1 < a)) 48 (w_X11_follows_48 (MS Z d) (Gw Z 5 p e R s m args below meth c (MQ below (QcS Z Rp) args s 0 0 (fun a => Z.2.2.1 < a))) Rp) := by
  unfold w_X11_follows_48
  refine s_iload_n (k := 3) C (by decide +kernel) ?_
  refine s_if_ne (off := 13) (tgt := 62) C (by decide +kernel) (by decide) (fun _ _ _ _ _ _ h => h) ?_
  refine s_aload (k := 4) C (by decide +kernel) ?_
  refine s_getR C w_2_27 (by decide +kernel) rfl ?_
  refine s_iload_n (k := 2) C (by decide +kernel) ?_
  refine s_iald C (by decide +kernel) ?_
  exact s_goto (off := 10) (tgt := 69) C (by decide +kernel) (by decide) (fun _ _ _ _ _ _ h => h)
set_option maxRecDepth 20000 in
theorem b_X11_follows_62 {Z : Zt} {d : Nat} {p : Program} {e : Env} {R : Room} {s : State} {m : MethodId} {args : Array Value} {below : List Frame} {meth : Method} {c : Code} {Rp : RT} (C : Cx Z d jX11_follows RX11 p R s m args meth c) : Sd Z jX11_follows p e R s m args below meth c (MQ below (QcS Z Rp) args s 0 0 (fun a => Z.2.2.1 < a)) 62 (w_X11_follows_62 (MS Z d) (Gw Z 5 p e R s m args below meth c (MQ below (QcS Z Rp) args s 0 0 (fun a => Z.2.2.1 < a))) Rp) := by
  unfold w_X11_follows_62
  refine s_aload (k := 4) C (by decide +kernel) ?_
  refine s_getR C w_2_31 (by decide +kernel) rfl ?_
  refine s_iload_n (k := 2) C (by decide +kernel) ?_
  refine s_iald C (by decide +kernel) ?_
  exact (fun _ _ _ _ _ _ h => h)
set_option maxRecDepth 20000 in
theorem b_X11_follows_69 {Z : Zt} {d : Nat} {p : Program} {e : Env} {R : Room} {s : State} {m : MethodId} {args : Array Value} {below : List Frame} {meth : Method} {c : Code} {Rp : RT} (C : Cx Z d jX11_follows RX11 p R s m args meth c) : Sd Z jX11_follows p e R s m args below meth c (MQ below (QcS Z Rp) args s 0 0 (fun a => Z.2.2.1 < a)) 69 (w_X11_follows_69 (MS Z d) (Gw Z 5 p e R s m args below meth c (MQ below (QcS Z Rp) args s 0 0 (fun a => Z.2.2.1 < a))) Rp) := by
  unfold w_X11_follows_69
  exact s_iret C rfl (by decide +kernel)
theorem ms_X11_follows {Z : Zt} {d : Nat} {S : Sh} {μ : Mi} {ρ : Mr} {Rp : RT} (a0 : Nat) (x1 : Int32) (x2 : Int32) (x3 : Int32) (h : ∀ G : Nat → PT, (∀ (L st : List Value) (S : Sh) (q : Nat × Nat) (μ : Mi) (ρ : Mr), w_X11_follows_23 (MS Z d) G Rp L st S q μ ρ → G 23 L st S q μ ρ) → (∀ (L st : List Value) (S : Sh) (q : Nat × Nat) (μ : Mi) (ρ : Mr), w_X11_follows_26 (MS Z d) G Rp L st S q μ ρ → G 26 L st S q μ ρ) → (∀ (L st : List Value) (S : Sh) (q : Nat × Nat) (μ : Mi) (ρ : Mr), w_X11_follows_48 (MS Z d) G Rp L st S q μ ρ → G 48 L st S q μ ρ) → (∀ (L st : List Value) (S : Sh) (q : Nat × Nat) (μ : Mi) (ρ : Mr), w_X11_follows_62 (MS Z d) G Rp L st S q μ ρ → G 62 L st S q μ ρ) → (∀ (L st : List Value) (S : Sh) (q : Nat × Nat) (μ : Mi) (ρ : Mr), w_X11_follows_69 (MS Z d) G Rp L st S q μ ρ → G 69 L st S q μ ρ) → w_X11_follows_0 (MS Z d) G Rp [.ref a0, .int x1, .int x2, .int x3, .null] [] S (0, 0) μ ρ) : MS Z (d + 1) jX11_follows [.ref a0, .int x1, .int x2, .int x3] S μ ρ Rp :=
  MS_of [.ref a0, .int x1, .int x2, .int x3, .null] (by decide +kernel) rfl rfl (Nat.le_of_ble_eq_true rfl) rfl (fun p e R s m args below meth c C => b_X11_follows_0 C _ _ _ _ _ _ (h _ (b_X11_follows_23 C) (b_X11_follows_26 C) (b_X11_follows_48 C) (b_X11_follows_62 C) (b_X11_follows_69 C)))
def w_X11_message_0 (M : CT) (G : Nat → PT) (Rp : RT) : PT := tAload 0 <| tGetR 11 11 0 <| tIload 1 <| tIload 2 <| tCallS M jX8_messageFact 3 <| tIret Rp
set_option maxRecDepth 20000 in
theorem b_X11_message_0 {Z : Zt} {d : Nat} {p : Program} {e : Env} {R : Room} {s : State} {m : MethodId} {args : Array Value} {below : List Frame} {meth : Method} {c : Code} {Rp : RT} (C : Cx Z d jX11_message RX11 p R s m args meth c) : Sd Z jX11_message p e R s m args below meth c (MQ below (QcS Z Rp) args s 0 0 (fun a => Z.2.2.1 < a)) 0 (w_X11_message_0 (MS Z d) (Gw Z 3 p e R s m args below meth c (MQ below (QcS Z Rp) args s 0 0 (fun a => Z.2.2.1 < a))) Rp) := by
  unfold w_X11_message_0
  refine s_aload_n (k := 0) C (by decide +kernel) ?_
  refine s_getR C w_2_234 (by decide +kernel) rfl ?_
  refine s_iload_n (k := 1) C (by decide +kernel) ?_
  refine s_iload_n (k := 2) C (by decide +kernel) ?_
  refine s_callS C (by decide +kernel) rfl w_5_126 w_5_127 w_1_21 w_5_128 (by decide +kernel) ?_
  exact s_iret C rfl (by decide +kernel)
theorem ms_X11_message {Z : Zt} {d : Nat} {S : Sh} {μ : Mi} {ρ : Mr} {Rp : RT} (a0 : Nat) (x1 : Int32) (x2 : Int32) (h : ∀ G : Nat → PT, w_X11_message_0 (MS Z d) G Rp [.ref a0, .int x1, .int x2] [] S (0, 0) μ ρ) : MS Z (d + 1) jX11_message [.ref a0, .int x1, .int x2] S μ ρ Rp :=
  MS_of [.ref a0, .int x1, .int x2] (by decide +kernel) rfl rfl (Nat.le_of_ble_eq_true rfl) rfl (fun p e R s m args below meth c C => b_X11_message_0 C _ _ _ _ _ _ (h _ ))
def w_X11_first_0 (M : CT) (G : Nat → PT) (Rp : RT) : PT := tIload 1 <| tCallS M jX11_isNoStore 1 <| tIf (fun x => x ≠ 0) (G 24) <| tIload 2 <| tCallS M jX11_isNoStore 1 <| tIf (fun x => x ≠ 0) (G 24) <| tIload 3 <| tIf (fun x => x < 0) (G 24) <| tIload 3 <| tConst 8 <| tIf2 (fun x y => x ≤ y) (G 27) <| G 24
def w_X11_first_24 (M : CT) (G : Nat → PT) (Rp : RT) : PT := tConst (-2) <| tIret Rp
def w_X11_first_27 (M : CT) (G : Nat → PT) (Rp : RT) : PT := tAload 0 <| tGetR 11 11 0 <| tGetR 10 6 1 <| tIload 1 <| tIload 2 <| tIload 3 <| tCallV M jX1_find 1 6 3 <| tIret Rp
set_option maxRecDepth 20000 in
theorem b_X11_first_0 {Z : Zt} {d : Nat} {p : Program} {e : Env} {R : Room} {s : State} {m : MethodId} {args : Array Value} {below : List Frame} {meth : Method} {c : Code} {Rp : RT} (C : Cx Z d jX11_first RX11 p R s m args meth c) : Sd Z jX11_first p e R s m args below meth c (MQ below (QcS Z Rp) args s 0 0 (fun a => Z.2.2.1 < a)) 0 (w_X11_first_0 (MS Z d) (Gw Z 4 p e R s m args below meth c (MQ below (QcS Z Rp) args s 0 0 (fun a => Z.2.2.1 < a))) Rp) := by
  unfold w_X11_first_0
  refine s_iload_n (k := 1) C (by decide +kernel) ?_
  refine s_callS C (by decide +kernel) rfl w_5_100 w_3_103 w_1_1 w_3_104 (by decide +kernel) ?_
  refine s_if_ne (off := 20) (tgt := 24) C (by decide +kernel) (by decide) (fun _ _ _ _ _ _ h => h) ?_
  refine s_iload_n (k := 2) C (by decide +kernel) ?_
  refine s_callS C (by decide +kernel) rfl w_5_100 w_3_103 w_1_1 w_3_104 (by decide +kernel) ?_
  refine s_if_ne (off := 13) (tgt := 24) C (by decide +kernel) (by decide) (fun _ _ _ _ _ _ h => h) ?_
  refine s_iload_n (k := 3) C (by decide +kernel) ?_
  refine s_if_lt (off := 9) (tgt := 24) C (by decide +kernel) (by decide) (fun _ _ _ _ _ _ h => h) ?_
  refine s_iload_n (k := 3) C (by decide +kernel) ?_
  refine s_bipush (n := 8) C (by decide +kernel) (by decide) ?_
  refine s_icmp_le (off := 6) (tgt := 27) C (by decide +kernel) (by decide) (fun _ _ _ _ _ _ h => h) ?_
  exact (fun _ _ _ _ _ _ h => h)
set_option maxRecDepth 20000 in
theorem b_X11_first_24 {Z : Zt} {d : Nat} {p : Program} {e : Env} {R : Room} {s : State} {m : MethodId} {args : Array Value} {below : List Frame} {meth : Method} {c : Code} {Rp : RT} (C : Cx Z d jX11_first RX11 p R s m args meth c) : Sd Z jX11_first p e R s m args below meth c (MQ below (QcS Z Rp) args s 0 0 (fun a => Z.2.2.1 < a)) 24 (w_X11_first_24 (MS Z d) (Gw Z 4 p e R s m args below meth c (MQ below (QcS Z Rp) args s 0 0 (fun a => Z.2.2.1 < a))) Rp) := by
  unfold w_X11_first_24
  refine s_bipush (n := (-2)) C (by decide +kernel) (by decide) ?_
  exact s_iret C rfl (by decide +kernel)
set_option maxRecDepth 20000 in
theorem b_X11_first_27 {Z : Zt} {d : Nat} {p : Program} {e : Env} {R : Room} {s : State} {m : MethodId} {args : Array Value} {below : List Frame} {meth : Method} {c : Code} {Rp : RT} (C : Cx Z d jX11_first RX11 p R s m args meth c) : Sd Z jX11_first p e R s m args below meth c (MQ below (QcS Z Rp) args s 0 0 (fun a => Z.2.2.1 < a)) 27 (w_X11_first_27 (MS Z d) (Gw Z 4 p e R s m args below meth c (MQ below (QcS Z Rp) args s 0 0 (fun a => Z.2.2.1 < a))) Rp) := by
  unfold w_X11_first_27
  refine s_aload_n (k := 0) C (by decide +kernel) ?_
  refine s_getR C w_2_234 (by decide +kernel) rfl ?_
  refine s_getR C w_2_120 (by decide +kernel) rfl ?_
  refine s_iload_n (k := 1) C (by decide +kernel) ?_
  refine s_iload_n (k := 2) C (by decide +kernel) ?_
  refine s_iload_n (k := 3) C (by decide +kernel) ?_
  refine s_callV C rfl rfl (by decide +kernel) rfl w_5_134 w_5_135 w_5_136 w_1_3 w_5_137 (by decide +kernel) ?_
  exact s_iret C rfl (by decide +kernel)
theorem ms_X11_first {Z : Zt} {d : Nat} {S : Sh} {μ : Mi} {ρ : Mr} {Rp : RT} (a0 : Nat) (x1 : Int32) (x2 : Int32) (x3 : Int32) (h : ∀ G : Nat → PT, (∀ (L st : List Value) (S : Sh) (q : Nat × Nat) (μ : Mi) (ρ : Mr), w_X11_first_24 (MS Z d) G Rp L st S q μ ρ → G 24 L st S q μ ρ) → (∀ (L st : List Value) (S : Sh) (q : Nat × Nat) (μ : Mi) (ρ : Mr), w_X11_first_27 (MS Z d) G Rp L st S q μ ρ → G 27 L st S q μ ρ) → w_X11_first_0 (MS Z d) G Rp [.ref a0, .int x1, .int x2, .int x3] [] S (0, 0) μ ρ) : MS Z (d + 1) jX11_first [.ref a0, .int x1, .int x2, .int x3] S μ ρ Rp :=
  MS_of [.ref a0, .int x1, .int x2, .int x3] (by decide +kernel) rfl rfl (Nat.le_of_ble_eq_true rfl) rfl (fun p e R s m args below meth c C => b_X11_first_0 C _ _ _ _ _ _ (h _ (b_X11_first_24 C) (b_X11_first_27 C)))
def w_X11_linked_0 (M : CT) (G : Nat → PT) (Rp : RT) : PT := tIload 1 <| tCallS M jX11_isNoStore 1 <| tIf (fun x => x ≠ 0) (G 14) <| tIload 2 <| tCallS M jX11_isNoStore 1 <| tIf (fun x => x = 0) (G 17) <| G 14
def w_X11_linked_14 (M : CT) (G : Nat → PT) (Rp : RT) : PT := tConst (-2) <| tIret Rp
def w_X11_linked_17 (M : CT) (G : Nat → PT) (Rp : RT) : PT := tIload 1 <| tIload 2 <| tIf2 (fun x y => x ≠ y) (G 25) <| tConst (-3) <| tIret Rp
def w_X11_linked_25 (M : CT) (G : Nat → PT) (Rp : RT) : PT := tAload 0 <| tGetR 11 11 0 <| tGetR 10 6 1 <| tIload 1 <| tIload 2 <| tCallV M jX1_isCut 1 6 2 <| tIf (fun x => x = 0) (G 44) <| tConst 0 <| tGoto (G 45)
def w_X11_linked_44 (M : CT) (G : Nat → PT) (Rp : RT) : PT := tConst 1 <| G 45
def w_X11_linked_45 (M : CT) (G : Nat → PT) (Rp : RT) : PT := tIret Rp
set_option maxRecDepth 20000 in
theorem b_X11_linked_0 {Z : Zt} {d : Nat} {p : Program} {e : Env} {R : Room} {s : State} {m : MethodId} {args : Array Value} {below : List Frame} {meth : Method} {c : Code} {Rp : RT} (C : Cx Z d jX11_linked RX11 p R s m args meth c) : Sd Z jX11_linked p e R s m args below meth c (MQ below (QcS Z Rp) args s 0 0 (fun a => Z.2.2.1 < a)) 0 (w_X11_linked_0 (MS Z d) (Gw Z 3 p e R s m args below meth c (MQ below (QcS Z Rp) args s 0 0 (fun a => Z.2.2.1 < a))) Rp) := by
  unfold w_X11_linked_0
  refine s_iload_n (k := 1) C (by decide +kernel) ?_
  refine s_callS C (by decide +kernel) rfl w_5_100 w_3_103 w_1_1 w_3_104 (by decide +kernel) ?_
  refine s_if_ne (off := 10) (tgt := 14) C (by decide +kernel) (by decide) (fun _ _ _ _ _ _ h => h) ?_
  refine s_iload_n (k := 2) C (by decide +kernel) ?_
  refine s_callS C (by decide +kernel) rfl w_5_100 w_3_103 w_1_1 w_3_104 (by decide +kernel) ?_
  refine s_if_eq (off := 6) (tgt := 17) C (by decide +kernel) (by decide) (fun _ _ _ _ _ _ h => h) ?_
  exact (fun _ _ _ _ _ _ h => h)
set_option maxRecDepth 20000 in
theorem b_X11_linked_14 {Z : Zt} {d : Nat} {p : Program} {e : Env} {R : Room} {s : State} {m : MethodId} {args : Array Value} {below : List Frame} {meth : Method} {c : Code} {Rp : RT} (C : Cx Z d jX11_linked RX11 p R s m args meth c) : Sd Z jX11_linked p e R s m args below meth c (MQ below (QcS Z Rp) args s 0 0 (fun a => Z.2.2.1 < a)) 14 (w_X11_linked_14 (MS Z d) (Gw Z 3 p e R s m args below meth c (MQ below (QcS Z Rp) args s 0 0 (fun a => Z.2.2.1 < a))) Rp) := by
  unfold w_X11_linked_14
  refine s_bipush (n := (-2)) C (by decide +kernel) (by decide) ?_
  exact s_iret C rfl (by decide +kernel)
set_option maxRecDepth 20000 in
theorem b_X11_linked_17 {Z : Zt} {d : Nat} {p : Program} {e : Env} {R : Room} {s : State} {m : MethodId} {args : Array Value} {below : List Frame} {meth : Method} {c : Code} {Rp : RT} (C : Cx Z d jX11_linked RX11 p R s m args meth c) : Sd Z jX11_linked p e R s m args below meth c (MQ below (QcS Z Rp) args s 0 0 (fun a => Z.2.2.1 < a)) 17 (w_X11_linked_17 (MS Z d) (Gw Z 3 p e R s m args below meth c (MQ below (QcS Z Rp) args s 0 0 (fun a => Z.2.2.1 < a))) Rp) := by
  unfold w_X11_linked_17
  refine s_iload_n (k := 1) C (by decide +kernel) ?_
  refine s_iload_n (k := 2) C (by decide +kernel) ?_
  refine s_icmp_ne (off := 6) (tgt := 25) C (by decide +kernel) (by decide) (fun _ _ _ _ _ _ h => h) ?_
  refine s_bipush (n := (-3)) C (by decide +kernel) (by decide) ?_
  exact s_iret C rfl (by decide +kernel)
set_option maxRecDepth 20000 in
theorem b_X11_linked_25 {Z : Zt} {d : Nat} {p : Program} {e : Env} {R : Room} {s : State} {m : MethodId} {args : Array Value} {below : List Frame} {meth : Method} {c : Code} {Rp : RT} (C : Cx Z d jX11_linked RX11 p R s m args meth c) : Sd Z jX11_linked p e R s m args below meth c (MQ below (QcS Z Rp) args s 0 0 (fun a => Z.2.2.1 < a)) 25 (w_X11_linked_25 (MS Z d) (Gw Z 3 p e R s m args below meth c (MQ below (QcS Z Rp) args s 0 0 (fun a => Z.2.2.1 < a))) Rp) := by
  unfold w_X11_linked_25
  refine s_aload_n (k := 0) C (by decide +kernel) ?_
  refine s_getR C w_2_234 (by decide +kernel) rfl ?_
  refine s_getR C w_2_120 (by decide +kernel) rfl ?_
  refine s_iload_n (k := 1) C (by decide +kernel) ?_
  refine s_iload_n (k := 2) C (by decide +kernel) ?_
  refine s_callV C rfl rfl (by decide +kernel) rfl w_5_142 w_4_48 w_4_49 w_1_3 w_4_50 (by decide +kernel) ?_
  refine s_if_eq (off := 7) (tgt := 44) C (by decide +kernel) (by decide) (fun _ _ _ _ _ _ h => h) ?_
  refine s_iconst (n := 0) C (by decide +kernel) (by decide) ?_
  exact s_goto (off := 4) (tgt := 45) C (by decide +kernel) (by decide) (fun _ _ _ _ _ _ h => h)
set_option maxRecDepth 20000 in
theorem b_X11_linked_44 {Z : Zt} {d : Nat} {p : Program} {e : Env} {R : Room} {s : State} {m : MethodId} {args : Array Value} {below : List Frame} {meth : Method} {c : Code} {Rp : RT} (C : Cx Z d jX11_linked RX11 p R s m args meth c) : Sd Z jX11_linked p e R s m args below meth c (MQ below (QcS Z Rp) args s 0 0 (fun a => Z.2.2.1 < a)) 44 (w_X11_linked_44 (MS Z d) (Gw Z 3 p e R s m args below meth c (MQ below (QcS Z Rp) args s 0 0 (fun a => Z.2.2.1 < a))) Rp) := by
  unfold w_X11_linked_44
  refine s_iconst (n := 1) C (by decide +kernel) (by decide) ?_
  exact (fun _ _ _ _ _ _ h => h)
set_option maxRecDepth 20000 in
theorem b_X11_linked_45 {Z : Zt} {d : Nat} {p : Program} {e : Env} {R : Room} {s : State} {m : MethodId} {args : Array Value} {below : List Frame} {meth : Method} {c : Code} {Rp : RT} (C : Cx Z d jX11_linked RX11 p R s m args meth c) : Sd Z jX11_linked p e R s m args below meth c (MQ below (QcS Z Rp) args s 0 0 (fun a => Z.2.2.1 < a)) 45 (w_X11_linked_45 (MS Z d) (Gw Z 3 p e R s m args below meth c (MQ below (QcS Z Rp) args s 0 0 (fun a => Z.2.2.1 < a))) Rp) := by
  unfold w_X11_linked_45
  exact s_iret C rfl (by decide +kernel)
theorem ms_X11_linked {Z : Zt} {d : Nat} {S : Sh} {μ : Mi} {ρ : Mr} {Rp : RT} (a0 : Nat) (x1 : Int32) (x2 : Int32) (h : ∀ G : Nat → PT, (∀ (L st : List Value) (S : Sh) (q : Nat × Nat) (μ : Mi) (ρ : Mr), w_X11_linked_14 (MS Z d) G Rp L st S q μ ρ → G 14 L st S q μ ρ) → (∀ (L st : List Value) (S : Sh) (q : Nat × Nat) (μ : Mi) (ρ : Mr), w_X11_linked_17 (MS Z d) G Rp L st S q μ ρ → G 17 L st S q μ ρ) → (∀ (L st : List Value) (S : Sh) (q : Nat × Nat) (μ : Mi) (ρ : Mr), w_X11_linked_25 (MS Z d) G Rp L st S q μ ρ → G 25 L st S q μ ρ) → (∀ (L st : List Value) (S : Sh) (q : Nat × Nat) (μ : Mi) (ρ : Mr), w_X11_linked_44 (MS Z d) G Rp L st S q μ ρ → G 44 L st S q μ ρ) → (∀ (L st : List Value) (S : Sh) (q : Nat × Nat) (μ : Mi) (ρ : Mr), w_X11_linked_45 (MS Z d) G Rp L st S q μ ρ → G 45 L st S q μ ρ) → w_X11_linked_0 (MS Z d) G Rp [.ref a0, .int x1, .int x2] [] S (0, 0) μ ρ) : MS Z (d + 1) jX11_linked [.ref a0, .int x1, .int x2] S μ ρ Rp :=
  MS_of [.ref a0, .int x1, .int x2] (by decide +kernel) rfl rfl (Nat.le_of_ble_eq_true rfl) rfl (fun p e R s m args below meth c C => b_X11_linked_0 C _ _ _ _ _ _ (h _ (b_X11_linked_14 C) (b_X11_linked_17 C) (b_X11_linked_25 C) (b_X11_linked_44 C) (b_X11_linked_45 C)))
def w_X11_alike_0 (M : CT) (G : Nat → PT) (Rp : RT) : PT := tIload 1 <| tCallS M jX11_isNoStore 1 <| tIf (fun x => x ≠ 0) (G 14) <| tIload 2 <| tCallS M jX11_isNoStore 1 <| tIf (fun x => x = 0) (G 17) <| G 14
def w_X11_alike_14 (M : CT) (G : Nat → PT) (Rp : RT) : PT := tConst (-2) <| tIret Rp
def w_X11_alike_17 (M : CT) (G : Nat → PT) (Rp : RT) : PT := tIload 1 <| tIload 2 <| tIf2 (fun x y => x ≠ y) (G 25) <| tConst (-3) <| tIret Rp
def w_X11_alike_25 (M : CT) (G : Nat → PT) (Rp : RT) : PT := tAload 0 <| tGetR 11 11 0 <| tGetR 10 6 0 <| tIload 1 <| tAldR 37 <| tAload 0 <| tGetR 11 11 0 <| tGetR 10 6 0 <| tIload 2 <| tAldR 37 <| tCallS M jX8_alikeUpTo 2 <| tIret Rp
set_option maxRecDepth 20000 in
theorem b_X11_alike_0 {Z : Zt} {d : Nat} {p : Program} {e : Env} {R : Room} {s : State} {m : MethodId} {args : Array Value} {below : List Frame} {meth : Method} {c : Code} {Rp : RT} (C : Cx Z d jX11_alike RX11 p R s m args meth c) : Sd Z jX11_alike p e R s m args below meth c (MQ below (QcS Z Rp) args s 0 0 (fun a => Z.2.2.1 < a)) 0 (w_X11_alike_0 (MS Z d) (Gw Z 3 p e R s m args below meth c (MQ below (QcS Z Rp) args s 0 0 (fun a => Z.2.2.1 < a))) Rp) := by
  unfold w_X11_alike_0
  refine s_iload_n (k := 1) C (by decide +kernel) ?_
  refine s_callS C (by decide +kernel) rfl w_5_100 w_3_103 w_1_1 w_3_104 (by decide +kernel) ?_
  refine s_if_ne (off := 10) (tgt := 14) C (by decide +kernel) (by decide) (fun _ _ _ _ _ _ h => h) ?_
  refine s_iload_n (k := 2) C (by decide +kernel) ?_
  refine s_callS C (by decide +kernel) rfl w_5_100 w_3_103 w_1_1 w_3_104 (by decide +kernel) ?_
  refine s_if_eq (off := 6) (tgt := 17) C (by decide +kernel) (by decide) (fun _ _ _ _ _ _ h => h) ?_
  exact (fun _ _ _ _ _ _ h => h)
set_option maxRecDepth 20000 in
theorem b_X11_alike_14 {Z : Zt} {d : Nat} {p : Program} {e : Env} {R : Room} {s : State} {m : MethodId} {args : Array Value} {below : List Frame} {meth : Method} {c : Code} {Rp : RT} (C : Cx Z d jX11_alike RX11 p R s m args meth c) : Sd Z jX11_alike p e R s m args below meth c (MQ below (QcS Z Rp) args s 0 0 (fun a => Z.2.2.1 < a)) 14 (w_X11_alike_14 (MS Z d) (Gw Z 3 p e R s m args below meth c (MQ below (QcS Z Rp) args s 0 0 (fun a => Z.2.2.1 < a))) Rp) := by
  unfold w_X11_alike_14
  refine s_bipush (n := (-2)) C (by decide +kernel) (by decide) ?_
  exact s_iret C rfl (by decide +kernel)
set_option maxRecDepth 20000 in
theorem b_X11_alike_17 {Z : Zt} {d : Nat} {p : Program} {e : Env} {R : Room} {s : State} {m : MethodId} {args : Array Value} {below : List Frame} {meth : Method} {c : Code} {Rp : RT} (C : Cx Z d jX11_alike RX11 p R s m args meth c) : Sd Z jX11_alike p e R s m args below meth c (MQ below (QcS Z Rp) args s 0 0 (fun a => Z.2.2.1 < a)) 17 (w_X11_alike_17 (MS Z d) (Gw Z 3 p e R s m args below meth c (MQ below (QcS Z Rp) args s 0 0 (fun a => Z.2.2.1 < a))) Rp) := by
  unfold w_X11_alike_17
  refine s_iload_n (k := 1) C (by decide +kernel) ?_
  refine s_iload_n (k := 2) C (by decide +kernel) ?_
  refine s_icmp_ne (off := 6) (tgt := 25) C (by decide +kernel) (by decide) (fun _ _ _ _ _ _ h => h) ?_
  refine s_bipush (n := (-3)) C (by decide +kernel) (by decide) ?_
  exact s_iret C rfl (by decide +kernel)
set_option maxRecDepth 20000 in
theorem b_X11_alike_25 {Z : Zt} {d : Nat} {p : Program} {e : Env} {R : Room} {s : State} {m : MethodId} {args : Array Value} {below : List Frame} {meth : Method} {c : Code} {Rp : RT} (C : Cx Z d jX11_alike RX11 p R s m args meth c) : Sd Z jX11_alike p e R s m args below meth c (MQ below (QcS Z Rp) args s 0 0 (fun a => Z.2.2.1 < a)) 25 (w_X11_alike_25 (MS Z d) (Gw Z 3 p e R s m args below meth c (MQ below (QcS Z Rp) args s 0 0 (fun a => Z.2.2.1 < a))) Rp) := by
  unfold w_X11_alike_25
  refine s_aload_n (k := 0) C (by decide +kernel) ?_
  refine s_getR C w_2_234 (by decide +kernel) rfl ?_
  refine s_getR C w_2_116 (by decide +kernel) rfl ?_
  refine s_iload_n (k := 1) C (by decide +kernel) ?_
  refine s_aald C rfl (by decide +kernel) ?_
  refine s_aload_n (k := 0) C (by decide +kernel) ?_
  refine s_getR C w_2_234 (by decide +kernel) rfl ?_
  refine s_getR C w_2_116 (by decide +kernel) rfl ?_
  refine s_iload_n (k := 2) C (by decide +kernel) ?_
  refine s_aald C rfl (by decide +kernel) ?_
  refine s_callS C (by decide +kernel) rfl w_5_147 w_5_148 w_1_21 w_5_149 (by decide +kernel) ?_
  exact s_iret C rfl (by decide +kernel)
theorem ms_X11_alike {Z : Zt} {d : Nat} {S : Sh} {μ : Mi} {ρ : Mr} {Rp : RT} (a0 : Nat) (x1 : Int32) (x2 : Int32) (h : ∀ G : Nat → PT, (∀ (L st : List Value) (S : Sh) (q : Nat × Nat) (μ : Mi) (ρ : Mr), w_X11_alike_14 (MS Z d) G Rp L st S q μ ρ → G 14 L st S q μ ρ) → (∀ (L st : List Value) (S : Sh) (q : Nat × Nat) (μ : Mi) (ρ : Mr), w_X11_alike_17 (MS Z d) G Rp L st S q μ ρ → G 17 L st S q μ ρ) → (∀ (L st : List Value) (S : Sh) (q : Nat × Nat) (μ : Mi) (ρ : Mr), w_X11_alike_25 (MS Z d) G Rp L st S q μ ρ → G 25 L st S q μ ρ) → w_X11_alike_0 (MS Z d) G Rp [.ref a0, .int x1, .int x2] [] S (0, 0) μ ρ) : MS Z (d + 1) jX11_alike [.ref a0, .int x1, .int x2] S μ ρ Rp :=
  MS_of [.ref a0, .int x1, .int x2] (by decide +kernel) rfl rfl (Nat.le_of_ble_eq_true rfl) rfl (fun p e R s m args below meth c C => b_X11_alike_0 C _ _ _ _ _ _ (h _ (b_X11_alike_14 C) (b_X11_alike_17 C) (b_X11_alike_25 C)))
def w_X11_grants_0 (M : CT) (G : Nat → PT) (Rp : RT) : PT := tIload 1 <| tCallS M jX11_isNoStore 1 <| tIf (fun x => x = 0) (G 12) <| tConst (-2) <| tGoto (G 20)
def w_X11_grants_12 (M : CT) (G : Nat → PT) (Rp : RT) : PT := tAload 0 <| tGetR 11 11 0 <| tIload 1 <| tCallS M jX8_granting 2 <| G 20
def w_X11_grants_20 (M : CT) (G : Nat → PT) (Rp : RT) : PT := tIret Rp
set_option maxRecDepth 20000 in
theorem b_X11_grants_0 {Z : Zt} {d : Nat} {p : Program} {e : Env} {R : Room} {s : State} {m : MethodId} {args : Array Value} {below : List Frame} {meth : Method} {c : Code} {Rp : RT} (C : Cx Z d jX11_grants RX11 p R s m args meth c) : Sd Z jX11_grants p e R s m args below meth c (MQ below (QcS Z Rp) args s 0 0 (fun a => Z.2.2.1 < a)) 0 (w_X11_grants_0 (MS Z d) (Gw Z 2 p e R s m args below meth c (MQ below (QcS Z Rp) args s 0 0 (fun a => Z.2.2.1 < a))) Rp) := by
  unfold w_X11_grants_0
  refine s_iload_n (k := 1) C (by decide +kernel) ?_
  refine s_callS C (by decide +kernel) rfl w_5_100 w_3_103 w_1_1 w_3_104 (by decide +kernel) ?_
  refine s_if_eq (off := 8) (tgt := 12) C (by decide +kernel) (by decide) (fun _ _ _ _ _ _ h => h) ?_
  refine s_bipush (n := (-2)) C (by decide +kernel) (by decide) ?_
  exact s_goto (off := 11) (tgt := 20) C (by decide +kernel) (by decide) (fun _ _ _ _ _ _ h => h)
set_option maxRecDepth 20000 in
theorem b_X11_grants_12 {Z : Zt} {d : Nat} {p : Program} {e : Env} {R : Room} {s : State} {m : MethodId} {args : Array Value} {below : List Frame} {meth : Method} {c : Code} {Rp : RT} (C : Cx Z d jX11_grants RX11 p R s m args meth c) : Sd Z jX11_grants p e R s m args below meth c (MQ below (QcS Z Rp) args s 0 0 (fun a => Z.2.2.1 < a)) 12 (w_X11_grants_12 (MS Z d) (Gw Z 2 p e R s m args below meth c (MQ below (QcS Z Rp) args s 0 0 (fun a => Z.2.2.1 < a))) Rp) := by
  unfold w_X11_grants_12
  refine s_aload_n (k := 0) C (by decide +kernel) ?_
  refine s_getR C w_2_234 (by decide +kernel) rfl ?_
  refine s_iload_n (k := 1) C (by decide +kernel) ?_
  refine s_callS C (by decide +kernel) rfl w_5_156 w_5_157 w_1_21 w_5_158 (by decide +kernel) ?_
  exact (fun _ _ _ _ _ _ h => h)
set_option maxRecDepth 20000 in
theorem b_X11_grants_20 {Z : Zt} {d : Nat} {p : Program} {e : Env} {R : Room} {s : State} {m : MethodId} {args : Array Value} {below : List Frame} {meth : Method} {c : Code} {Rp : RT} (C : Cx Z d jX11_grants RX11 p R s m args meth c) : Sd Z jX11_grants p e R s m args below meth c (MQ below (QcS Z Rp) args s 0 0 (fun a => Z.2.2.1 < a)) 20 (w_X11_grants_20 (MS Z d) (Gw Z 2 p e R s m args below meth c (MQ below (QcS Z Rp) args s 0 0 (fun a => Z.2.2.1 < a))) Rp) := by
  unfold w_X11_grants_20
  exact s_iret C rfl (by decide +kernel)
theorem ms_X11_grants {Z : Zt} {d : Nat} {S : Sh} {μ : Mi} {ρ : Mr} {Rp : RT} (a0 : Nat) (x1 : Int32) (h : ∀ G : Nat → PT, (∀ (L st : List Value) (S : Sh) (q : Nat × Nat) (μ : Mi) (ρ : Mr), w_X11_grants_12 (MS Z d) G Rp L st S q μ ρ → G 12 L st S q μ ρ) → (∀ (L st : List Value) (S : Sh) (q : Nat × Nat) (μ : Mi) (ρ : Mr), w_X11_grants_20 (MS Z d) G Rp L st S q μ ρ → G 20 L st S q μ ρ) → w_X11_grants_0 (MS Z d) G Rp [.ref a0, .int x1] [] S (0, 0) μ ρ) : MS Z (d + 1) jX11_grants [.ref a0, .int x1] S μ ρ Rp :=
  MS_of [.ref a0, .int x1] (by decide +kernel) rfl rfl (Nat.le_of_ble_eq_true rfl) rfl (fun p e R s m args below meth c C => b_X11_grants_0 C _ _ _ _ _ _ (h _ (b_X11_grants_12 C) (b_X11_grants_20 C)))
def w_X11_electable_0 (M : CT) (G : Nat → PT) (Rp : RT) : PT := tIload 1 <| tCallS M jX11_isNoStore 1 <| tIf (fun x => x = 0) (G 10) <| tConst (-2) <| tIret Rp
def w_X11_electable_10 (M : CT) (G : Nat → PT) (Rp : RT) : PT := tAload 0 <| tGetR 11 11 0 <| tIload 1 <| tAload 0 <| tGetR 11 11 0 <| tCallV M jX10_whoIsUp 10 6 0 <| tCallS M jX8_canBeElected 3 <| tIf (fun x => x = 0) (G 32) <| tConst 1 <| tGoto (G 33)
def w_X11_electable_32 (M : CT) (G : Nat → PT) (Rp : RT) : PT := tConst 0 <| G 33
def w_X11_electable_33 (M : CT) (G : Nat → PT) (Rp : RT) : PT := tIret Rp
set_option maxRecDepth 20000 in
theorem b_X11_electable_0 {Z : Zt} {d : Nat} {p : Program} {e : Env} {R : Room} {s : State} {m : MethodId} {args : Array Value} {below : List Frame} {meth : Method} {c : Code} {Rp : RT} (C : Cx Z d jX11_electable RX11 p R s m args meth c) : Sd Z jX11_electable p e R s m args below meth c (MQ below (QcS Z Rp) args s 0 0 (fun a => Z.2.2.1 < a)) 0 (w_X11_electable_0 (MS Z d) (Gw Z 2 p e R s m args below meth c (MQ below (QcS Z Rp) args s 0 0 (fun a => Z.2.2.1 < a))) Rp) := by
  unfold w_X11_electable_0
  refine s_iload_n (k := 1) C (by decide +kernel) ?_
  refine s_callS C (by decide +kernel) rfl w_5_100 w_3_103 w_1_1 w_3_104 (by decide +kernel) ?_
  refine s_if_eq (off := 6) (tgt := 10) C (by decide +kernel) (by decide) (fun _ _ _ _ _ _ h => h) ?_
  refine s_bipush (n := (-2)) C (by decide +kernel) (by decide) ?_
  exact s_iret C rfl (by decide +kernel)
set_option maxRecDepth 20000 in
theorem b_X11_electable_10 {Z : Zt} {d : Nat} {p : Program} {e : Env} {R : Room} {s : State} {m : MethodId} {args : Array Value} {below : List Frame} {meth : Method} {c : Code} {Rp : RT} (C : Cx Z d jX11_electable RX11 p R s m args meth c) : Sd Z jX11_electable p e R s m args below meth c (MQ below (QcS Z Rp) args s 0 0 (fun a => Z.2.2.1 < a)) 10 (w_X11_electable_10 (MS Z d) (Gw Z 2 p e R s m args below meth c (MQ below (QcS Z Rp) args s 0 0 (fun a => Z.2.2.1 < a))) Rp) := by
  unfold w_X11_electable_10
  refine s_aload_n (k := 0) C (by decide +kernel) ?_
  refine s_getR C w_2_234 (by decide +kernel) rfl ?_
  refine s_iload_n (k := 1) C (by decide +kernel) ?_
  refine s_aload_n (k := 0) C (by decide +kernel) ?_
  refine s_getR C w_2_234 (by decide +kernel) rfl ?_
  refine s_callV C rfl rfl (by decide +kernel) rfl w_5_164 w_5_165 w_5_166 w_1_2 w_5_167 (by decide +kernel) ?_
  refine s_callS C (by decide +kernel) rfl w_5_168 w_5_169 w_1_21 w_5_170 (by decide +kernel) ?_
  refine s_if_eq (off := 7) (tgt := 32) C (by decide +kernel) (by decide) (fun _ _ _ _ _ _ h => h) ?_
  refine s_iconst (n := 1) C (by decide +kernel) (by decide) ?_
  exact s_goto (off := 4) (tgt := 33) C (by decide +kernel) (by decide) (fun _ _ _ _ _ _ h => h)
set_option maxRecDepth 20000 in
theorem b_X11_electable_32 {Z : Zt} {d : Nat} {p : Program} {e : Env} {R : Room} {s : State} {m : MethodId} {args : Array Value} {below : List Frame} {meth : Method} {c : Code} {Rp : RT} (C : Cx Z d jX11_electable RX11 p R s m args meth c) : Sd Z jX11_electable p e R s m args below meth c (MQ below (QcS Z Rp) args s 0 0 (fun a => Z.2.2.1 < a)) 32 (w_X11_electable_32 (MS Z d) (Gw Z 2 p e R s m args below meth c (MQ below (QcS Z Rp) args s 0 0 (fun a => Z.2.2.1 < a))) Rp) := by
  unfold w_X11_electable_32
  refine s_iconst (n := 0) C (by decide +kernel) (by decide) ?_
  exact (fun _ _ _ _ _ _ h => h)
set_option maxRecDepth 20000 in
theorem b_X11_electable_33 {Z : Zt} {d : Nat} {p : Program} {e : Env} {R : Room} {s : State} {m : MethodId} {args : Array Value} {below : List Frame} {meth : Method} {c : Code} {Rp : RT} (C : Cx Z d jX11_electable RX11 p R s m args meth c) : Sd Z jX11_electable p e R s m args below meth c (MQ below (QcS Z Rp) args s 0 0 (fun a => Z.2.2.1 < a)) 33 (w_X11_electable_33 (MS Z d) (Gw Z 2 p e R s m args below meth c (MQ below (QcS Z Rp) args s 0 0 (fun a => Z.2.2.1 < a))) Rp) := by
  unfold w_X11_electable_33
  exact s_iret C rfl (by decide +kernel)
theorem ms_X11_electable {Z : Zt} {d : Nat} {S : Sh} {μ : Mi} {ρ : Mr} {Rp : RT} (a0 : Nat) (x1 : Int32) (h : ∀ G : Nat → PT, (∀ (L st : List Value) (S : Sh) (q : Nat × Nat) (μ : Mi) (ρ : Mr), w_X11_electable_10 (MS Z d) G Rp L st S q μ ρ → G 10 L st S q μ ρ) → (∀ (L st : List Value) (S : Sh) (q : Nat × Nat) (μ : Mi) (ρ : Mr), w_X11_electable_32 (MS Z d) G Rp L st S q μ ρ → G 32 L st S q μ ρ) → (∀ (L st : List Value) (S : Sh) (q : Nat × Nat) (μ : Mi) (ρ : Mr), w_X11_electable_33 (MS Z d) G Rp L st S q μ ρ → G 33 L st S q μ ρ) → w_X11_electable_0 (MS Z d) G Rp [.ref a0, .int x1] [] S (0, 0) μ ρ) : MS Z (d + 1) jX11_electable [.ref a0, .int x1] S μ ρ Rp :=
  MS_of [.ref a0, .int x1] (by decide +kernel) rfl rfl (Nat.le_of_ble_eq_true rfl) rfl (fun p e R s m args below meth c C => b_X11_electable_0 C _ _ _ _ _ _ (h _ (b_X11_electable_10 C) (b_X11_electable_32 C) (b_X11_electable_33 C)))
def w_X11_holders_0 (M : CT) (G : Nat → PT) (Rp : RT) : PT := tIload 1 <| tCallS M jX11_isNoStore 1 <| tIf (fun x => x = 0) (G 10) <| tConst (-2) <| tIret Rp
def w_X11_holders_10 (M : CT) (G : Nat → PT) (Rp : RT) : PT := tAload 0 <| tGetR 11 11 0 <| tGetR 10 6 0 <| tIload 1 <| tAldR 37 <| tIload 2 <| tCallV M jX7_holds 7 18 1 <| tIf (fun x => x = 0) (G 38) <| tAload 0 <| tGetR 11 11 0 <| tIload 1 <| tIload 2 <| tCallS M jX8_holding 3 <| tGoto (G 40)
def w_X11_holders_38 (M : CT) (G : Nat → PT) (Rp : RT) : PT := tConst (-5) <| G 40
def w_X11_holders_40 (M : CT) (G : Nat → PT) (Rp : RT) : PT := tIret Rp
set_option maxRecDepth 20000 in
theorem b_X11_holders_0 {Z : Zt} {d : Nat} {p : Program} {e : Env} {R : Room} {s : State} {m : MethodId} {args : Array Value} {below : List Frame} {meth : Method} {c : Code} {Rp : RT} (C : Cx Z d jX11_holders RX11 p R s m args meth c) : Sd Z jX11_holders p e R s m args below meth c (MQ below (QcS Z Rp) args s 0 0 (fun a => Z.2.2.1 < a)) 0 (w_X11_holders_0 (MS Z d) (Gw Z 3 p e R s m args below meth c (MQ below (QcS Z Rp) args s 0 0 (fun a => Z.2.2.1 < a))) Rp) := by
  unfold w_X11_holders_0
  refine s_iload_n (k := 1) C (by decide +kernel) ?_
  refine s_callS C (by decide +kernel) rfl w_5_100 w_3_103 w_1_1 w_3_104 (by decide +kernel) ?_
  refine s_if_eq (off := 6) (tgt := 10) C (by decide +kernel) (by decide) (fun _ _ _ _ _ _ h => h) ?_
  refine s_bipush (n := (-2)) C (by decide +kernel) (by decide) ?_
  exact s_iret C rfl (by decide +kernel)
set_option maxRecDepth 20000 in
theorem b_X11_holders_10 {Z : Zt} {d : Nat} {p : Program} {e : Env} {R : Room} {s : State} {m : MethodId} {args : Array Value} {below : List Frame} {meth : Method} {c : Code} {Rp : RT} (C : Cx Z d jX11_holders RX11 p R s m args meth c) : Sd Z jX11_holders p e R s m args below meth c (MQ below (QcS Z Rp) args s 0 0 (fun a => Z.2.2.1 < a)) 10 (w_X11_holders_10 (MS Z d) (Gw Z 3 p e R s m args below meth c (MQ below (QcS Z Rp) args s 0 0 (fun a => Z.2.2.1 < a))) Rp) := by
  unfold w_X11_holders_10
  refine s_aload_n (k := 0) C (by decide +kernel) ?_
  refine s_getR C w_2_234 (by decide +kernel) rfl ?_
  refine s_getR C w_2_116 (by decide +kernel) rfl ?_
  refine s_iload_n (k := 1) C (by decide +kernel) ?_
  refine s_aald C rfl (by decide +kernel) ?_
  refine s_iload_n (k := 2) C (by decide +kernel) ?_
  refine s_callV C rfl rfl (by decide +kernel) rfl w_5_107 w_5_108 w_5_109 w_1_5 w_5_110 (by decide +kernel) ?_
  refine s_if_eq (off := 15) (tgt := 38) C (by decide +kernel) (by decide) (fun _ _ _ _ _ _ h => h) ?_
  refine s_aload_n (k := 0) C (by decide +kernel) ?_
  refine s_getR C w_2_234 (by decide +kernel) rfl ?_
  refine s_iload_n (k := 1) C (by decide +kernel) ?_
  refine s_iload_n (k := 2) C (by decide +kernel) ?_
  refine s_callS C (by decide +kernel) rfl w_5_182 w_5_183 w_1_21 w_5_184 (by decide +kernel) ?_
  exact s_goto (off := 5) (tgt := 40) C (by decide +kernel) (by decide) (fun _ _ _ _ _ _ h => h)
set_option maxRecDepth 20000 in
theorem b_X11_holders_38 {Z : Zt} {d : Nat} {p : Program} {e : Env} {R : Room} {s : State} {m : MethodId} {args : Array Value} {below : List Frame} {meth : Method} {c : Code} {Rp : RT} (C : Cx Z d jX11_holders RX11 p R s m args meth c) : Sd Z jX11_holders p e R s m args below meth c (MQ below (QcS Z Rp) args s 0 0 (fun a => Z.2.2.1 < a)) 38 (w_X11_holders_38 (MS Z d) (Gw Z 3 p e R s m args below meth c (MQ below (QcS Z Rp) args s 0 0 (fun a => Z.2.2.1 < a))) Rp) := by
  unfold w_X11_holders_38
  refine s_bipush (n := (-5)) C (by decide +kernel) (by decide) ?_
  exact (fun _ _ _ _ _ _ h => h)
set_option maxRecDepth 20000 in
theorem b_X11_holders_40 {Z : Zt} {d : Nat} {p : Program} {e : Env} {R : Room} {s : State} {m : MethodId} {args : Array Value} {below : List Frame} {meth : Method} {c : Code} {Rp : RT} (C : Cx Z d jX11_holders RX11 p R s m args meth c) : Sd Z jX11_holders p e R s m args below meth c (MQ below (QcS Z Rp) args s 0 0 (fun a => Z.2.2.1 < a)) 40 (w_X11_holders_40 (MS Z d) (Gw Z 3 p e R s m args below meth c (MQ below (QcS Z Rp) args s 0 0 (fun a => Z.2.2.1 < a))) Rp) := by
  unfold w_X11_holders_40
  exact s_iret C rfl (by decide +kernel)
theorem ms_X11_holders {Z : Zt} {d : Nat} {S : Sh} {μ : Mi} {ρ : Mr} {Rp : RT} (a0 : Nat) (x1 : Int32) (x2 : Int32) (h : ∀ G : Nat → PT, (∀ (L st : List Value) (S : Sh) (q : Nat × Nat) (μ : Mi) (ρ : Mr), w_X11_holders_10 (MS Z d) G Rp L st S q μ ρ → G 10 L st S q μ ρ) → (∀ (L st : List Value) (S : Sh) (q : Nat × Nat) (μ : Mi) (ρ : Mr), w_X11_holders_38 (MS Z d) G Rp L st S q μ ρ → G 38 L st S q μ ρ) → (∀ (L st : List Value) (S : Sh) (q : Nat × Nat) (μ : Mi) (ρ : Mr), w_X11_holders_40 (MS Z d) G Rp L st S q μ ρ → G 40 L st S q μ ρ) → w_X11_holders_0 (MS Z d) G Rp [.ref a0, .int x1, .int x2] [] S (0, 0) μ ρ) : MS Z (d + 1) jX11_holders [.ref a0, .int x1, .int x2] S μ ρ Rp :=
  MS_of [.ref a0, .int x1, .int x2] (by decide +kernel) rfl rfl (Nat.le_of_ble_eq_true rfl) rfl (fun p e R s m args below meth c C => b_X11_holders_0 C _ _ _ _ _ _ (h _ (b_X11_holders_10 C) (b_X11_holders_38 C) (b_X11_holders_40 C)))
def w_X11_safe_0 (M : CT) (G : Nat → PT) (Rp : RT) : PT := tIload 1 <| tCallS M jX11_isNoStore 1 <| tIf (fun x => x = 0) (G 10) <| tConst (-2) <| tIret Rp
def w_X11_safe_10 (M : CT) (G : Nat → PT) (Rp : RT) : PT := tAload 0 <| tGetR 11 11 0 <| tGetR 10 6 0 <| tIload 1 <| tAldR 37 <| tAstore 3 <| tAload 3 <| tIload 2 <| tCallV M jX7_holds 7 18 1 <| tIf (fun x => x ≠ 0) (G 31) <| tConst (-5) <| tIret Rp
def w_X11_safe_31 (M : CT) (G : Nat → PT) (Rp : RT) : PT := tAload 3 <| tAload 0 <| tGetR 11 11 0 <| tIload 1 <| tIload 2 <| tCallS M jX8_holding 3 <| tCallV M jX7_isMajority 7 18 1 <| tIf (fun x => x = 0) (G 51) <| tConst 1 <| tGoto (G 52)
def w_X11_safe_51 (M : CT) (G : Nat → PT) (Rp : RT) : PT := tConst 0 <| G 52
def w_X11_safe_52 (M : CT) (G : Nat → PT) (Rp : RT) : PT := tIret Rp
set_option maxRecDepth 20000 in
theorem b_X11_safe_0 {Z : Zt} {d : Nat} {p : Program} {e : Env} {R : Room} {s : State} {m : MethodId} {args : Array Value} {below : List Frame} {meth : Method} {c : Code} {Rp : RT} (C : Cx Z d jX11_safe RX11 p R s m args meth c) : Sd Z jX11_safe p e R s m args below meth c (MQ below (QcS Z Rp) args s 0 0 (fun a => Z.2.2.1 < a)) 0 (w_X11_safe_0 (MS Z d) (Gw Z 4 p e R s m args below meth c (MQ below (QcS Z Rp) args s 0 0 (fun a => Z.2.2.1 < a))) Rp) := by
  unfold w_X11_safe_0
  refine s_iload_n (k := 1) C (by decide +kernel) ?_
  refine s_callS C (by decide +kernel) rfl w_5_100 w_3_103 w_1_1 w_3_104 (by decide +kernel) ?_
  refine s_if_eq (off := 6) (tgt := 10) C (by decide +kernel) (by decide) (fun _ _ _ _ _ _ h => h) ?_
  refine s_bipush (n := (-2)) C (by decide +kernel) (by decide) ?_
  exact s_iret C rfl (by decide +kernel)
set_option maxRecDepth 20000 in
theorem b_X11_safe_10 {Z : Zt} {d : Nat} {p : Program} {e : Env} {R : Room} {s : State} {m : MethodId} {args : Array Value} {below : List Frame} {meth : Method} {c : Code} {Rp : RT} (C : Cx Z d jX11_safe RX11 p R s m args meth c) : Sd Z jX11_safe p e R s m args below meth c (MQ below (QcS Z Rp) args s 0 0 (fun a => Z.2.2.1 < a)) 10 (w_X11_safe_10 (MS Z d) (Gw Z 4 p e R s m args below meth c (MQ below (QcS Z Rp) args s 0 0 (fun a => Z.2.2.1 < a))) Rp) := by
  unfold w_X11_safe_10
  refine s_aload_n (k := 0) C (by decide +kernel) ?_
  refine s_getR C w_2_234 (by decide +kernel) rfl ?_
  refine s_getR C w_2_116 (by decide +kernel) rfl ?_
  refine s_iload_n (k := 1) C (by decide +kernel) ?_
  refine s_aald C rfl (by decide +kernel) ?_
  refine s_astore_n (k := 3) C (by decide +kernel) ?_
  refine s_aload_n (k := 3) C (by decide +kernel) ?_
  refine s_iload_n (k := 2) C (by decide +kernel) ?_
  refine s_callV C rfl rfl (by decide +kernel) rfl w_5_107 w_5_108 w_5_109 w_1_5 w_5_110 (by decide +kernel) ?_
  refine s_if_ne (off := 6) (tgt := 31) C (by decide +kernel) (by decide) (fun _ _ _ _ _ _ h => h) ?_
  refine s_bipush (n := (-5)) C (by decide +kernel) (by decide) ?_
  exact s_iret C rfl (by decide +kernel)
set_option maxRecDepth 20000 in
theorem b_X11_safe_31 {Z : Zt} {d : Nat} {p : Program} {e : Env} {R : Room} {s : State} {m : MethodId} {args : Array Value} {below : List Frame} {meth : Method} {c : Code} {Rp : RT} (C : Cx Z d jX11_safe RX11 p R s m args meth c) : Sd Z jX11_safe p e R s m args below meth c (MQ below (QcS Z Rp) args s 0 0 (fun a => Z.2.2.1 < a)) 31 (w_X11_safe_31 (MS Z d) (Gw Z 4 p e R s m args below meth c (MQ below (QcS Z Rp) args s 0 0 (fun a => Z.2.2.1 < a))) Rp) := by
  unfold w_X11_safe_31
  refine s_aload_n (k := 3) C (by decide +kernel) ?_
  refine s_aload_n (k := 0) C (by decide +kernel) ?_
  refine s_getR C w_2_234 (by decide +kernel) rfl ?_
  refine s_iload_n (k := 1) C (by decide +kernel) ?_
  refine s_iload_n (k := 2) C (by decide +kernel) ?_
  refine s_callS C (by decide +kernel) rfl w_5_182 w_5_183 w_1_21 w_5_184 (by decide +kernel) ?_
  refine s_callV C rfl rfl (by decide +kernel) rfl w_5_191 w_3_134 w_3_135 w_1_5 w_3_136 (by decide +kernel) ?_
  refine s_if_eq (off := 7) (tgt := 51) C (by decide +kernel) (by decide) (fun _ _ _ _ _ _ h => h) ?_
  refine s_iconst (n := 1) C (by decide +kernel) (by decide) ?_
  exact s_goto (off := 4) (tgt := 52) C (by decide +kernel) (by decide) (fun _ _ _ _ _ _ h => h)
set_option maxRecDepth 20000 in
theorem b_X11_safe_51 {Z : Zt} {d : Nat} {p : Program} {e : Env} {R : Room} {s : State} {m : MethodId} {args : Array Value} {below : List Frame} {meth : Method} {c : Code} {Rp : RT} (C : Cx Z d jX11_safe RX11 p R s m args meth c) : Sd Z jX11_safe p e R s m args below meth c (MQ below (QcS Z Rp) args s 0 0 (fun a => Z.2.2.1 < a)) 51 (w_X11_safe_51 (MS Z d) (Gw Z 4 p e R s m args below meth c (MQ below (QcS Z Rp) args s 0 0 (fun a => Z.2.2.1 < a))) Rp) := by
  unfold w_X11_safe_51
  refine s_iconst (n := 0) C (by decide +kernel) (by decide) ?_
  exact (fun _ _ _ _ _ _ h => h)
set_option maxRecDepth 20000 in
theorem b_X11_safe_52 {Z : Zt} {d : Nat} {p : Program} {e : Env} {R : Room} {s : State} {m : MethodId} {args : Array Value} {below : List Frame} {meth : Method} {c : Code} {Rp : RT} (C : Cx Z d jX11_safe RX11 p R s m args meth c) : Sd Z jX11_safe p e R s m args below meth c (MQ below (QcS Z Rp) args s 0 0 (fun a => Z.2.2.1 < a)) 52 (w_X11_safe_52 (MS Z d) (Gw Z 4 p e R s m args below meth c (MQ below (QcS Z Rp) args s 0 0 (fun a => Z.2.2.1 < a))) Rp) := by
  unfold w_X11_safe_52
  exact s_iret C rfl (by decide +kernel)
theorem ms_X11_safe {Z : Zt} {d : Nat} {S : Sh} {μ : Mi} {ρ : Mr} {Rp : RT} (a0 : Nat) (x1 : Int32) (x2 : Int32) (h : ∀ G : Nat → PT, (∀ (L st : List Value) (S : Sh) (q : Nat × Nat) (μ : Mi) (ρ : Mr), w_X11_safe_10 (MS Z d) G Rp L st S q μ ρ → G 10 L st S q μ ρ) → (∀ (L st : List Value) (S : Sh) (q : Nat × Nat) (μ : Mi) (ρ : Mr), w_X11_safe_31 (MS Z d) G Rp L st S q μ ρ → G 31 L st S q μ ρ) → (∀ (L st : List Value) (S : Sh) (q : Nat × Nat) (μ : Mi) (ρ : Mr), w_X11_safe_51 (MS Z d) G Rp L st S q μ ρ → G 51 L st S q μ ρ) → (∀ (L st : List Value) (S : Sh) (q : Nat × Nat) (μ : Mi) (ρ : Mr), w_X11_safe_52 (MS Z d) G Rp L st S q μ ρ → G 52 L st S q μ ρ) → w_X11_safe_0 (MS Z d) G Rp [.ref a0, .int x1, .int x2, .null] [] S (0, 0) μ ρ) : MS Z (d + 1) jX11_safe [.ref a0, .int x1, .int x2] S μ ρ Rp :=
  MS_of [.ref a0, .int x1, .int x2, .null] (by decide +kernel) rfl rfl (Nat.le_of_ble_eq_true rfl) rfl (fun p e R s m args below meth c C => b_X11_safe_0 C _ _ _ _ _ _ (h _ (b_X11_safe_10 C) (b_X11_safe_31 C) (b_X11_safe_51 C) (b_X11_safe_52 C)))
def w_X11_agreed_0 (M : CT) (G : Nat → PT) (Rp : RT) : PT := tIload 1 <| tConst 1 <| tIf2 (fun x y => x < y) (G 23) <| tIload 1 <| tConst 120 <| tIf2 (fun x y => y < x) (G 23) <| tAload 0 <| tGetR 11 11 0 <| tGetR 10 6 2 <| tIload 1 <| tAld 20 <| tIf (fun x => x ≠ 0) (G 27) <| G 23
def w_X11_agreed_23 (M : CT) (G : Nat → PT) (Rp : RT) : PT := tConst (-1000) <| tIret Rp
def w_X11_agreed_27 (M : CT) (G : Nat → PT) (Rp : RT) : PT := tAload 0 <| tGetR 11 11 0 <| tGetR 10 6 2 <| tIload 1 <| tAld 20 <| tIload 2 <| tCallS M jX0_part 2 <| tIret Rp
set_option maxRecDepth 20000 in
theorem b_X11_agreed_0 {Z : Zt} {d : Nat} {p : Program} {e : Env} {R : Room} {s : State} {m : MethodId} {args : Array Value} {below : List Frame} {meth : Method} {c : Code} {Rp : RT} (C : Cx Z d jX11_agreed RX11 p R s m args meth c) : Sd Z jX11_agreed p e R s m args below meth c (MQ below (QcS Z Rp) args s 0 0 (fun a => Z.2.2.1 < a)) 0 (w_X11_agreed_0 (MS Z d) (Gw Z 3 p e R s m args below meth c (MQ below (QcS Z Rp) args s 0 0 (fun a => Z.2.2.1 < a))) Rp) := by
  unfold w_X11_agreed_0
  refine s_iload_n (k := 1) C (by decide +kernel) ?_
  refine s_iconst (n := 1) C (by decide +kernel) (by decide) ?_
  refine s_icmp_lt (off := 21) (tgt := 23) C (by decide +kernel) (by decide) (fun _ _ _ _ _ _ h => h) ?_
  refine s_iload_n (k := 1) C (by decide +kernel) ?_
  refine s_bipush (n := 120) C (by decide +kernel) (by decide) ?_
  refine s_icmp_gt (off := 15) (tgt := 23) C (by decide +kernel) (by decide) (fun _ _ _ _ _ _ h => h) ?_
  refine s_aload_n (k := 0) C (by decide +kernel) ?_
  refine s_getR C w_2_234 (by decide +kernel) rfl ?_
  refine s_getR C w_2_123 (by decide +kernel) rfl ?_
  refine s_iload_n (k := 1) C (by decide +kernel) ?_
  refine s_iald C (by decide +kernel) ?_
  refine s_if_ne (off := 7) (tgt := 27) C (by decide +kernel) (by decide) (fun _ _ _ _ _ _ h => h) ?_
  exact (fun _ _ _ _ _ _ h => h)
set_option maxRecDepth 20000 in
theorem b_X11_agreed_23 {Z : Zt} {d : Nat} {p : Program} {e : Env} {R : Room} {s : State} {m : MethodId} {args : Array Value} {below : List Frame} {meth : Method} {c : Code} {Rp : RT} (C : Cx Z d jX11_agreed RX11 p R s m args meth c) : Sd Z jX11_agreed p e R s m args below meth c (MQ below (QcS Z Rp) args s 0 0 (fun a => Z.2.2.1 < a)) 23 (w_X11_agreed_23 (MS Z d) (Gw Z 3 p e R s m args below meth c (MQ below (QcS Z Rp) args s 0 0 (fun a => Z.2.2.1 < a))) Rp) := by
  unfold w_X11_agreed_23
  refine s_sipush (n := (-1000)) C (by decide +kernel) (by decide) ?_
  exact s_iret C rfl (by decide +kernel)
set_option maxRecDepth 20000 in
theorem b_X11_agreed_27 {Z : Zt} {d : Nat} {p : Program} {e : Env} {R : Room} {s : State} {m : MethodId} {args : Array Value} {below : List Frame} {meth : Method} {c : Code} {Rp : RT} (C : Cx Z d jX11_agreed RX11 p R s m args meth c) : Sd Z jX11_agreed p e R s m args below meth c (MQ below (QcS Z Rp) args s 0 0 (fun a => Z.2.2.1 < a)) 27 (w_X11_agreed_27 (MS Z d) (Gw Z 3 p e R s m args below meth c (MQ below (QcS Z Rp) args s 0 0 (fun a => Z.2.2.1 < a))) Rp) := by
  unfold w_X11_agreed_27
  refine s_aload_n (k := 0) C (by decide +kernel) ?_
  refine s_getR C w_2_234 (by decide +kernel) rfl ?_
  refine s_getR C w_2_123 (by decide +kernel) rfl ?_
  refine s_iload_n (k := 1) C (by decide +kernel) ?_
  refine s_iald C (by decide +kernel) ?_
  refine s_iload_n (k := 2) C (by decide +kernel) ?_
  refine s_callS C (by decide +kernel) rfl w_5_111 w_5_112 w_1_9 w_5_113 (by decide +kernel) ?_
  exact s_iret C rfl (by decide +kernel)
theorem ms_X11_agreed {Z : Zt} {d : Nat} {S : Sh} {μ : Mi} {ρ : Mr} {Rp : RT} (a0 : Nat) (x1 : Int32) (x2 : Int32) (h : ∀ G : Nat → PT, (∀ (L st : List Value) (S : Sh) (q : Nat × Nat) (μ : Mi) (ρ : Mr), w_X11_agreed_23 (MS Z d) G Rp L st S q μ ρ → G 23 L st S q μ ρ) → (∀ (L st : List Value) (S : Sh) (q : Nat × Nat) (μ : Mi) (ρ : Mr), w_X11_agreed_27 (MS Z d) G Rp L st S q μ ρ → G 27 L st S q μ ρ) → w_X11_agreed_0 (MS Z d) G Rp [.ref a0, .int x1, .int x2] [] S (0, 0) μ ρ) : MS Z (d + 1) jX11_agreed [.ref a0, .int x1, .int x2] S μ ρ Rp :=
  MS_of [.ref a0, .int x1, .int x2] (by decide +kernel) rfl rfl (Nat.le_of_ble_eq_true rfl) rfl (fun p e R s m args below meth c C => b_X11_agreed_0 C _ _ _ _ _ _ (h _ (b_X11_agreed_23 C) (b_X11_agreed_27 C)))
def w_X11_leaders_0 (M : CT) (G : Nat → PT) (Rp : RT) : PT := tIload 1 <| tConst 1 <| tIf2 (fun x y => x < y) (G 12) <| tIload 1 <| tConst 200 <| tIf2 (fun x y => x ≤ y) (G 17) <| G 12
def w_X11_leaders_12 (M : CT) (G : Nat → PT) (Rp : RT) : PT := tConst (-3) <| tGoto (G 26)
def w_X11_leaders_17 (M : CT) (G : Nat → PT) (Rp : RT) : PT := tAload 0 <| tGetR 11 11 0 <| tGetR 10 6 3 <| tIload 1 <| tAld 20 <| G 26
def w_X11_leaders_26 (M : CT) (G : Nat → PT) (Rp : RT) : PT := tIret Rp
set_option maxRecDepth 20000 in
theorem b_X11_leaders_0 {Z : Zt} {d : Nat} {p : Program} {e : Env} {R : Room} {s : State} {m : MethodId} {args : Array Value} {below : List Frame} {meth : Method} {c : Code} {Rp : RT} (C : Cx Z d jX11_leaders RX11 p R s m args meth c) : Sd Z jX11_leaders p e R s m args below meth c (MQ below (QcS Z Rp) args s 0 0 (fun a => Z.2.2.1 < a)) 0 (w_X11_leaders_0 (MS Z d) (Gw Z 2 p e R s m args below meth c (MQ below (QcS Z Rp) args s 0 0 (fun a => Z.2.2.1 < a))) Rp) := by
  unfold w_X11_leaders_0
  refine s_iload_n (k := 1) C (by decide +kernel) ?_
  refine s_iconst (n := 1) C (by decide +kernel) (by decide) ?_
  refine s_icmp_lt (off := 10) (tgt := 12) C (by decide +kernel) (by decide) (fun _ _ _ _ _ _ h => h) ?_
  refine s_iload_n (k := 1) C (by decide +kernel) ?_
  refine s_sipush (n := 200) C (by decide +kernel) (by decide) ?_
  refine s_icmp_le (off := 8) (tgt := 17) C (by decide +kernel) (by decide) (fun _ _ _ _ _ _ h => h) ?_
  exact (fun _ _ _ _ _ _ h => h)
set_option maxRecDepth 20000 in
theorem b_X11_leaders_12 {Z : Zt} {d : Nat} {p : Program} {e : Env} {R : Room} {s : State} {m : MethodId} {args : Array Value} {below : List Frame} {meth : Method} {c : Code} {Rp : RT} (C : Cx Z d jX11_leaders RX11 p R s m args meth c) : Sd Z jX11_leaders p e R s m args below meth c (MQ below (QcS Z Rp) args s 0 0 (fun a => Z.2.2.1 < a)) 12 (w_X11_leaders_12 (MS Z d) (Gw Z 2 p e R s m args below meth c (MQ below (QcS Z Rp) args s 0 0 (fun a => Z.2.2.1 < a))) Rp) := by
  unfold w_X11_leaders_12
  refine s_bipush (n := (-3)) C (by decide +kernel) (by decide) ?_
  exact s_goto (off := 12) (tgt := 26) C (by decide +kernel) (by decide) (fun _ _ _ _ _ _ h => h)
set_option maxRecDepth 20000 in
theorem b_X11_leaders_17 {Z : Zt} {d : Nat} {p : Program} {e : Env} {R : Room} {s : State} {m : MethodId} {args : Array Value} {below : List Frame} {meth : Method} {c : Code} {Rp : RT} (C : Cx Z d jX11_leaders RX11 p R s m args meth c) : Sd Z jX11_leaders p e R s m args below meth c (MQ below (QcS Z Rp) args s 0 0 (fun a => Z.2.2.1 < a)) 17 (w_X11_leaders_17 (MS Z d) (Gw Z 2 p e R s m args below meth c (MQ below (QcS Z Rp) args s 0 0 (fun a => Z.2.2.1 < a))) Rp) := by
  unfold w_X11_leaders_17
  refine s_aload_n (k := 0) C (by decide +kernel) ?_
  refine s_getR C w_2_234 (by decide +kernel) rfl ?_
  refine s_getR C w_2_125 (by decide +kernel) rfl ?_
  refine s_iload_n (k := 1) C (by decide +kernel) ?_
  refine s_iald C (by decide +kernel) ?_
  exact (fun _ _ _ _ _ _ h => h)
set_option maxRecDepth 20000 in
theorem b_X11_leaders_26 {Z : Zt} {d : Nat} {p : Program} {e : Env} {R : Room} {s : State} {m : MethodId} {args : Array Value} {below : List Frame} {meth : Method} {c : Code} {Rp : RT} (C : Cx Z d jX11_leaders RX11 p R s m args meth c) : Sd Z jX11_leaders p e R s m args below meth c (MQ below (QcS Z Rp) args s 0 0 (fun a => Z.2.2.1 < a)) 26 (w_X11_leaders_26 (MS Z d) (Gw Z 2 p e R s m args below meth c (MQ below (QcS Z Rp) args s 0 0 (fun a => Z.2.2.1 < a))) Rp) := by
  unfold w_X11_leaders_26
  exact s_iret C rfl (by decide +kernel)
theorem ms_X11_leaders {Z : Zt} {d : Nat} {S : Sh} {μ : Mi} {ρ : Mr} {Rp : RT} (a0 : Nat) (x1 : Int32) (h : ∀ G : Nat → PT, (∀ (L st : List Value) (S : Sh) (q : Nat × Nat) (μ : Mi) (ρ : Mr), w_X11_leaders_12 (MS Z d) G Rp L st S q μ ρ → G 12 L st S q μ ρ) → (∀ (L st : List Value) (S : Sh) (q : Nat × Nat) (μ : Mi) (ρ : Mr), w_X11_leaders_17 (MS Z d) G Rp L st S q μ ρ → G 17 L st S q μ ρ) → (∀ (L st : List Value) (S : Sh) (q : Nat × Nat) (μ : Mi) (ρ : Mr), w_X11_leaders_26 (MS Z d) G Rp L st S q μ ρ → G 26 L st S q μ ρ) → w_X11_leaders_0 (MS Z d) G Rp [.ref a0, .int x1] [] S (0, 0) μ ρ) : MS Z (d + 1) jX11_leaders [.ref a0, .int x1] S μ ρ Rp :=
  MS_of [.ref a0, .int x1] (by decide +kernel) rfl rfl (Nat.le_of_ble_eq_true rfl) rfl (fun p e R s m args below meth c C => b_X11_leaders_0 C _ _ _ _ _ _ (h _ (b_X11_leaders_12 C) (b_X11_leaders_17 C) (b_X11_leaders_26 C)))
def w_X11_leader_0 (M : CT) (G : Nat → PT) (Rp : RT) : PT := tAload 0 <| tGetR 11 11 0 <| tCallS M jX8_leaderNow 1 <| tIret Rp
set_option maxRecDepth 20000 in
theorem b_X11_leader_0 {Z : Zt} {d : Nat} {p : Program} {e : Env} {R : Room} {s : State} {m : MethodId} {args : Array Value} {below : List Frame} {meth : Method} {c : Code} {Rp : RT} (C : Cx Z d jX11_leader RX11 p R s m args meth c) : Sd Z jX11_leader p e R s m args below meth c (MQ below (QcS Z Rp) args s 0 0 (fun a => Z.2.2.1 < a)) 0 (w_X11_leader_0 (MS Z d) (Gw Z 1 p e R s m args below meth c (MQ below (QcS Z Rp) args s 0 0 (fun a => Z.2.2.1 < a))) Rp) := by
  unfold w_X11_leader_0
  refine s_aload_n (k := 0) C (by decide +kernel) ?_
  refine s_getR C w_2_234 (by decide +kernel) rfl ?_
  refine s_callS C (by decide +kernel) rfl w_5_204 w_5_205 w_1_21 w_5_206 (by decide +kernel) ?_
  exact s_iret C rfl (by decide +kernel)
theorem ms_X11_leader {Z : Zt} {d : Nat} {S : Sh} {μ : Mi} {ρ : Mr} {Rp : RT} (a0 : Nat) (h : ∀ G : Nat → PT, w_X11_leader_0 (MS Z d) G Rp [.ref a0] [] S (0, 0) μ ρ) : MS Z (d + 1) jX11_leader [.ref a0] S μ ρ Rp :=
  MS_of [.ref a0] (by decide +kernel) rfl rfl (Nat.le_of_ble_eq_true rfl) rfl (fun p e R s m args below meth c C => b_X11_leader_0 C _ _ _ _ _ _ (h _ ))
def w_X11_wins_0 (M : CT) (G : Nat → PT) (Rp : RT) : PT := tIload 1 <| tCallS M jX11_isNoStore 1 <| tIf (fun x => x = 0) (G 12) <| tConst (-2) <| tGoto (G 24)
def w_X11_wins_12 (M : CT) (G : Nat → PT) (Rp : RT) : PT := tAload 0 <| tGetR 11 11 3 <| tAload 0 <| tGetR 11 11 0 <| tIload 1 <| tCallV M jX3_wouldWin 3 2 2 <| G 24
def w_X11_wins_24 (M : CT) (G : Nat → PT) (Rp : RT) : PT := tIret Rp
set_option maxRecDepth 20000 in
theorem b_X11_wins_0 {Z : Zt} {d : Nat} {p : Program} {e : Env} {R : Room} {s : State} {m : MethodId} {args : Array Value} {below : List Frame} {meth : Method} {c : Code} {Rp : RT} (C : Cx Z d jX11_wins RX11 p R s m args meth c) : Sd Z jX11_wins p e R s m args below meth c (MQ below (QcS Z Rp) args s 0 0 (fun a => Z.2.2.1 < a)) 0 (w_X11_wins_0 (MS Z d) (Gw Z 2 p e R s m args below meth c (MQ below (QcS Z Rp) args s 0 0 (fun a => Z.2.2.1 < a))) Rp) := by
  unfold w_X11_wins_0
  refine s_iload_n (k := 1) C (by decide +kernel) ?_
  refine s_callS C (by decide +kernel) rfl w_5_100 w_3_103 w_1_1 w_3_104 (by decide +kernel) ?_
  refine s_if_eq (off := 8) (tgt := 12) C (by decide +kernel) (by decide) (fun _ _ _ _ _ _ h => h) ?_
  refine s_bipush (n := (-2)) C (by decide +kernel) (by decide) ?_
  exact s_goto (off := 15) (tgt := 24) C (by decide +kernel) (by decide) (fun _ _ _ _ _ _ h => h)
set_option maxRecDepth 20000 in
theorem b_X11_wins_12 {Z : Zt} {d : Nat} {p : Program} {e : Env} {R : Room} {s : State} {m : MethodId} {args : Array Value} {below : List Frame} {meth : Method} {c : Code} {Rp : RT} (C : Cx Z d jX11_wins RX11 p R s m args meth c) : Sd Z jX11_wins p e R s m args below meth c (MQ below (QcS Z Rp) args s 0 0 (fun a => Z.2.2.1 < a)) 12 (w_X11_wins_12 (MS Z d) (Gw Z 2 p e R s m args below meth c (MQ below (QcS Z Rp) args s 0 0 (fun a => Z.2.2.1 < a))) Rp) := by
  unfold w_X11_wins_12
  refine s_aload_n (k := 0) C (by decide +kernel) ?_
  refine s_getR C w_2_237 (by decide +kernel) rfl ?_
  refine s_aload_n (k := 0) C (by decide +kernel) ?_
  refine s_getR C w_2_234 (by decide +kernel) rfl ?_
  refine s_iload_n (k := 1) C (by decide +kernel) ?_
  refine s_callV C rfl rfl (by decide +kernel) rfl w_5_211 w_5_212 w_5_213 w_1_10 w_5_214 (by decide +kernel) ?_
  exact (fun _ _ _ _ _ _ h => h)
set_option maxRecDepth 20000 in
theorem b_X11_wins_24 {Z : Zt} {d : Nat} {p : Program} {e : Env} {R : Room} {s : State} {m : MethodId} {args : Array Value} {below : List Frame} {meth : Method} {c : Code} {Rp : RT} (C : Cx Z d jX11_wins RX11 p R s m args meth c) : Sd Z jX11_wins p e R s m args below meth c (MQ below (QcS Z Rp) args s 0 0 (fun a => Z.2.2.1 < a)) 24 (w_X11_wins_24 (MS Z d) (Gw Z 2 p e R s m args below meth c (MQ below (QcS Z Rp) args s 0 0 (fun a => Z.2.2.1 < a))) Rp) := by
  unfold w_X11_wins_24
  exact s_iret C rfl (by decide +kernel)
theorem ms_X11_wins {Z : Zt} {d : Nat} {S : Sh} {μ : Mi} {ρ : Mr} {Rp : RT} (a0 : Nat) (x1 : Int32) (h : ∀ G : Nat → PT, (∀ (L st : List Value) (S : Sh) (q : Nat × Nat) (μ : Mi) (ρ : Mr), w_X11_wins_12 (MS Z d) G Rp L st S q μ ρ → G 12 L st S q μ ρ) → (∀ (L st : List Value) (S : Sh) (q : Nat × Nat) (μ : Mi) (ρ : Mr), w_X11_wins_24 (MS Z d) G Rp L st S q μ ρ → G 24 L st S q μ ρ) → w_X11_wins_0 (MS Z d) G Rp [.ref a0, .int x1] [] S (0, 0) μ ρ) : MS Z (d + 1) jX11_wins [.ref a0, .int x1] S μ ρ Rp :=
  MS_of [.ref a0, .int x1] (by decide +kernel) rfl rfl (Nat.le_of_ble_eq_true rfl) rfl (fun p e R s m args below meth c C => b_X11_wins_0 C _ _ _ _ _ _ (h _ (b_X11_wins_12 C) (b_X11_wins_24 C)))
def w_X11_then_0 (M : CT) (G : Nat → PT) (Rp : RT) : PT := tAload 0 <| tGetR 11 11 3 <| tAload 0 <| tGetR 11 11 0 <| tIload 1 <| tIload 2 <| tCallV M jX3_factThen 3 2 3 <| tIret Rp
set_option maxRecDepth 20000 in
theorem b_X11_then_0 {Z : Zt} {d : Nat} {p : Program} {e : Env} {R : Room} {s : State} {m : MethodId} {args : Array Value} {below : List Frame} {meth : Method} {c : Code} {Rp : RT} (C : Cx Z d jX11_then RX11 p R s m args meth c) : Sd Z jX11_then p e R s m args below meth c (MQ below (QcS Z Rp) args s 0 0 (fun a => Z.2.2.1 < a)) 0 (w_X11_then_0 (MS Z d) (Gw Z 3 p e R s m args below meth c (MQ below (QcS Z Rp) args s 0 0 (fun a => Z.2.2.1 < a))) Rp) := by
  unfold w_X11_then_0
  refine s_aload_n (k := 0) C (by decide +kernel) ?_
  refine s_getR C w_2_237 (by decide +kernel) rfl ?_
  refine s_aload_n (k := 0) C (by decide +kernel) ?_
  refine s_getR C w_2_234 (by decide +kernel) rfl ?_
  refine s_iload_n (k := 1) C (by decide +kernel) ?_
  refine s_iload_n (k := 2) C (by decide +kernel) ?_
  refine s_callV C rfl rfl (by decide +kernel) rfl w_5_226 w_5_227 w_5_228 w_1_10 w_5_229 (by decide +kernel) ?_
  exact s_iret C rfl (by decide +kernel)
theorem ms_X11_then {Z : Zt} {d : Nat} {S : Sh} {μ : Mi} {ρ : Mr} {Rp : RT} (a0 : Nat) (x1 : Int32) (x2 : Int32) (h : ∀ G : Nat → PT, w_X11_then_0 (MS Z d) G Rp [.ref a0, .int x1, .int x2] [] S (0, 0) μ ρ) : MS Z (d + 1) jX11_then [.ref a0, .int x1, .int x2] S μ ρ Rp :=
  MS_of [.ref a0, .int x1, .int x2] (by decide +kernel) rfl rfl (Nat.le_of_ble_eq_true rfl) rfl (fun p e R s m args below meth c C => b_X11_then_0 C _ _ _ _ _ _ (h _ ))
def w_X11_storm_0 (M : CT) (G : Nat → PT) (Rp : RT) : PT := tIload 1 <| tIf (fun x => x < 0) (G 9) <| tIload 1 <| tConst 1 <| tIf2 (fun x y => x ≤ y) (G 14) <| G 9
def w_X11_storm_9 (M : CT) (G : Nat → PT) (Rp : RT) : PT := tConst (-2) <| tGoto (G 26)
def w_X11_storm_14 (M : CT) (G : Nat → PT) (Rp : RT) : PT := tAload 0 <| tGetR 11 11 3 <| tAload 0 <| tGetR 11 11 0 <| tIload 1 <| tCallV M jX3_stormOf 3 2 2 <| G 26
def w_X11_storm_26 (M : CT) (G : Nat → PT) (Rp : RT) : PT := tIret Rp
set_option maxRecDepth 20000 in
theorem b_X11_storm_0 {Z : Zt} {d : Nat} {p : Program} {e : Env} {R : Room} {s : State} {m : MethodId} {args : Array Value} {below : List Frame} {meth : Method} {c : Code} {Rp : RT} (C : Cx Z d jX11_storm RX11 p R s m args meth c) : Sd Z jX11_storm p e R s m args below meth c (MQ below (QcS Z Rp) args s 0 0 (fun a => Z.2.2.1 < a)) 0 (w_X11_storm_0 (MS Z d) (Gw Z 2 p e R s m args below meth c (MQ below (QcS Z Rp) args s 0 0 (fun a => Z.2.2.1 < a))) Rp) := by
  unfold w_X11_storm_0
  refine s_iload_n (k := 1) C (by decide +kernel) ?_
  refine s_if_lt (off := 8) (tgt := 9) C (by decide +kernel) (by decide) (fun _ _ _ _ _ _ h => h) ?_
  refine s_iload_n (k := 1) C (by decide +kernel) ?_
  refine s_iconst (n := 1) C (by decide +kernel) (by decide) ?_
  refine s_icmp_le (off := 8) (tgt := 14) C (by decide +kernel) (by decide) (fun _ _ _ _ _ _ h => h) ?_
  exact (fun _ _ _ _ _ _ h => h)
set_option maxRecDepth 20000 in
theorem b_X11_storm_9 {Z : Zt} {d : Nat} {p : Program} {e : Env} {R : Room} {s : State} {m : MethodId} {args : Array Value} {below : List Frame} {meth : Method} {c : Code} {Rp : RT} (C : Cx Z d jX11_storm RX11 p R s m args meth c) : Sd Z jX11_storm p e R s m args below meth c (MQ below (QcS Z Rp) args s 0 0 (fun a => Z.2.2.1 < a)) 9 (w_X11_storm_9 (MS Z d) (Gw Z 2 p e R s m args below meth c (MQ below (QcS Z Rp) args s 0 0 (fun a => Z.2.2.1 < a))) Rp) := by
  unfold w_X11_storm_9
  refine s_bipush (n := (-2)) C (by decide +kernel) (by decide) ?_
  exact s_goto (off := 15) (tgt := 26) C (by decide +kernel) (by decide) (fun _ _ _ _ _ _ h => h)
set_option maxRecDepth 20000 in
theorem b_X11_storm_14 {Z : Zt} {d : Nat} {p : Program} {e : Env} {R : Room} {s : State} {m : MethodId} {args : Array Value} {below : List Frame} {meth : Method} {c : Code} {Rp : RT} (C : Cx Z d jX11_storm RX11 p R s m args meth c) : Sd Z jX11_storm p e R s m args below meth c (MQ below (QcS Z Rp) args s 0 0 (fun a => Z.2.2.1 < a)) 14 (w_X11_storm_14 (MS Z d) (Gw Z 2 p e R s m args below meth c (MQ below (QcS Z Rp) args s 0 0 (fun a => Z.2.2.1 < a))) Rp) := by
  unfold w_X11_storm_14
  refine s_aload_n (k := 0) C (by decide +kernel) ?_
  refine s_getR C w_2_237 (by decide +kernel) rfl ?_
  refine s_aload_n (k := 0) C (by decide +kernel) ?_
  refine s_getR C w_2_234 (by decide +kernel) rfl ?_
  refine s_iload_n (k := 1) C (by decide +kernel) ?_
  refine s_callV C rfl rfl (by decide +kernel) rfl w_5_235 w_5_236 w_5_237 w_1_10 w_5_238 (by decide +kernel) ?_
  exact (fun _ _ _ _ _ _ h => h)
set_option maxRecDepth 20000 in
theorem b_X11_storm_26 {Z : Zt} {d : Nat} {p : Program} {e : Env} {R : Room} {s : State} {m : MethodId} {args : Array Value} {below : List Frame} {meth : Method} {c : Code} {Rp : RT} (C : Cx Z d jX11_storm RX11 p R s m args meth c) : Sd Z jX11_storm p e R s m args below meth c (MQ below (QcS Z Rp) args s 0 0 (fun a => Z.2.2.1 < a)) 26 (w_X11_storm_26 (MS Z d) (Gw Z 2 p e R s m args below meth c (MQ below (QcS Z Rp) args s 0 0 (fun a => Z.2.2.1 < a))) Rp) := by
  unfold w_X11_storm_26
  exact s_iret C rfl (by decide +kernel)
theorem ms_X11_storm {Z : Zt} {d : Nat} {S : Sh} {μ : Mi} {ρ : Mr} {Rp : RT} (a0 : Nat) (x1 : Int32) (h : ∀ G : Nat → PT, (∀ (L st : List Value) (S : Sh) (q : Nat × Nat) (μ : Mi) (ρ : Mr), w_X11_storm_9 (MS Z d) G Rp L st S q μ ρ → G 9 L st S q μ ρ) → (∀ (L st : List Value) (S : Sh) (q : Nat × Nat) (μ : Mi) (ρ : Mr), w_X11_storm_14 (MS Z d) G Rp L st S q μ ρ → G 14 L st S q μ ρ) → (∀ (L st : List Value) (S : Sh) (q : Nat × Nat) (μ : Mi) (ρ : Mr), w_X11_storm_26 (MS Z d) G Rp L st S q μ ρ → G 26 L st S q μ ρ) → w_X11_storm_0 (MS Z d) G Rp [.ref a0, .int x1] [] S (0, 0) μ ρ) : MS Z (d + 1) jX11_storm [.ref a0, .int x1] S μ ρ Rp :=
  MS_of [.ref a0, .int x1] (by decide +kernel) rfl rfl (Nat.le_of_ble_eq_true rfl) rfl (fun p e R s m args below meth c C => b_X11_storm_0 C _ _ _ _ _ _ (h _ (b_X11_storm_9 C) (b_X11_storm_14 C) (b_X11_storm_26 C)))
def w_X11_rounds_0 (M : CT) (G : Nat → PT) (Rp : RT) : PT := tAload 0 <| tGetR 11 11 3 <| tAload 0 <| tGetR 11 11 0 <| tCallV M jX3_roundsNeeded 3 2 1 <| tIret Rp
set_option maxRecDepth 20000 in
theorem b_X11_rounds_0 {Z : Zt} {d : Nat} {p : Program} {e : Env} {R : Room} {s : State} {m : MethodId} {args : Array Value} {below : List Frame} {meth : Method} {c : Code} {Rp : RT} (C : Cx Z d jX11_rounds RX11 p R s m args meth c) : Sd Z jX11_rounds p e R s m args below meth c (MQ below (QcS Z Rp) args s 0 0 (fun a => Z.2.2.1 < a)) 0 (w_X11_rounds_0 (MS Z d) (Gw Z 1 p e R s m args below meth c (MQ below (QcS Z Rp) args s 0 0 (fun a => Z.2.2.1 < a))) Rp) := by
  unfold w_X11_rounds_0
  refine s_aload_n (k := 0) C (by decide +kernel) ?_
  refine s_getR C w_2_237 (by decide +kernel) rfl ?_
  refine s_aload_n (k := 0) C (by decide +kernel) ?_
  refine s_getR C w_2_234 (by decide +kernel) rfl ?_
  refine s_callV C rfl rfl (by decide +kernel) rfl w_6_3 w_6_4 w_6_5 w_1_10 w_6_6 (by decide +kernel) ?_
  exact s_iret C rfl (by decide +kernel)
theorem ms_X11_rounds {Z : Zt} {d : Nat} {S : Sh} {μ : Mi} {ρ : Mr} {Rp : RT} (a0 : Nat) (h : ∀ G : Nat → PT, w_X11_rounds_0 (MS Z d) G Rp [.ref a0] [] S (0, 0) μ ρ) : MS Z (d + 1) jX11_rounds [.ref a0] S μ ρ Rp :=
  MS_of [.ref a0] (by decide +kernel) rfl rfl (Nat.le_of_ble_eq_true rfl) rfl (fun p e R s m args below meth c C => b_X11_rounds_0 C _ _ _ _ _ _ (h _ ))
def w_X11_could_0 (M : CT) (G : Nat → PT) (Rp : RT) : PT := tIload 1 <| tCallS M jX11_isNoStore 1 <| tIf (fun x => x = 0) (G 10) <| tConst (-2) <| tIret Rp
def w_X11_could_10 (M : CT) (G : Nat → PT) (Rp : RT) : PT := tIload 2 <| tIf (fun x => x < 0) (G 19) <| tIload 2 <| tConst 3 <| tIf2 (fun x y => x ≤ y) (G 22) <| G 19
def w_X11_could_19 (M : CT) (G : Nat → PT) (Rp : RT) : PT := tConst (-3) <| tIret Rp
def w_X11_could_22 (M : CT) (G : Nat → PT) (Rp : RT) : PT := tAload 0 <| tGetR 11 11 0 <| tGetR 10 6 1 <| tGetI 1 6 2 <| tConst 8 <| tIf2 (fun x y => x ≤ y) (G 40) <| tConst (-5) <| tIret Rp
def w_X11_could_40 (M : CT) (G : Nat → PT) (Rp : RT) : PT := tAload 0 <| tGetR 11 11 3 <| tAload 0 <| tGetR 11 11 0 <| tIload 1 <| tIload 2 <| tCallV M jX3_couldLead 3 2 3 <| tIf (fun x => x = 0) (G 60) <| tConst 1 <| tGoto (G 61)
def w_X11_could_60 (M : CT) (G : Nat → PT) (Rp : RT) : PT := tConst 0 <| G 61
def w_X11_could_61 (M : CT) (G : Nat → PT) (Rp : RT) : PT := tIret Rp
set_option maxRecDepth 20000 in
theorem b_X11_could_0 {Z : Zt} {d : Nat} {p : Program} {e : Env} {R : Room} {s : State} {m : MethodId} {args : Array Value} {below : List Frame} {meth : Method} {c : Code} {Rp : RT} (C : Cx Z d jX11_could RX11 p R s m args meth c) : Sd Z jX11_could p e R s m args below meth c (MQ below (QcS Z Rp) args s 0 0 (fun a => Z.2.2.1 < a)) 0 (w_X11_could_0 (MS Z d) (Gw Z 3 p e R s m args below meth c (MQ below (QcS Z Rp) args s 0 0 (fun a => Z.2.2.1 < a))) Rp) := by
  unfold w_X11_could_0
  refine s_iload_n (k := 1) C (by decide +kernel) ?_
  refine s_callS C (by decide +kernel) rfl w_5_100 w_3_103 w_1_1 w_3_104 (by decide +kernel) ?_
  refine s_if_eq (off := 6) (tgt := 10) C (by decide +kernel) (by decide) (fun _ _ _ _ _ _ h => h) ?_
  refine s_bipush (n := (-2)) C (by decide +kernel) (by decide) ?_
  exact s_iret C rfl (by decide +kernel)
set_option maxRecDepth 20000 in
theorem b_X11_could_10 {Z : Zt} {d : Nat} {p : Program} {e : Env} {R : Room} {s : State} {m : MethodId} {args : Array Value} {below : List Frame} {meth : Method} {c : Code} {Rp : RT} (C : Cx Z d jX11_could RX11 p R s m args meth c) : Sd Z jX11_could p e R s m args below meth c (MQ below (QcS Z Rp) args s 0 0 (fun a => Z.2.2.1 < a)) 10 (w_X11_could_10 (MS Z d) (Gw Z 3 p e R s m args below meth c (MQ below (QcS Z Rp) args s 0 0 (fun a => Z.2.2.1 < a))) Rp) := by
  unfold w_X11_could_10
  refine s_iload_n (k := 2) C (by decide +kernel) ?_
  refine s_if_lt (off := 8) (tgt := 19) C (by decide +kernel) (by decide) (fun _ _ _ _ _ _ h => h) ?_
  refine s_iload_n (k := 2) C (by decide +kernel) ?_
  refine s_iconst (n := 3) C (by decide +kernel) (by decide) ?_
  refine s_icmp_le (off := 6) (tgt := 22) C (by decide +kernel) (by decide) (fun _ _ _ _ _ _ h => h) ?_
  exact (fun _ _ _ _ _ _ h => h)
set_option maxRecDepth 20000 in
theorem b_X11_could_19 {Z : Zt} {d : Nat} {p : Program} {e : Env} {R : Room} {s : State} {m : MethodId} {args : Array Value} {below : List Frame} {meth : Method} {c : Code} {Rp : RT} (C : Cx Z d jX11_could RX11 p R s m args meth c) : Sd Z jX11_could p e R s m args below meth c (MQ below (QcS Z Rp) args s 0 0 (fun a => Z.2.2.1 < a)) 19 (w_X11_could_19 (MS Z d) (Gw Z 3 p e R s m args below meth c (MQ below (QcS Z Rp) args s 0 0 (fun a => Z.2.2.1 < a))) Rp) := by
  unfold w_X11_could_19
  refine s_bipush (n := (-3)) C (by decide +kernel) (by decide) ?_
  exact s_iret C rfl (by decide +kernel)
set_option maxRecDepth 20000 in
theorem b_X11_could_22 {Z : Zt} {d : Nat} {p : Program} {e : Env} {R : Room} {s : State} {m : MethodId} {args : Array Value} {below : List Frame} {meth : Method} {c : Code} {Rp : RT} (C : Cx Z d jX11_could RX11 p R s m args meth c) : Sd Z jX11_could p e R s m args below meth c (MQ below (QcS Z Rp) args s 0 0 (fun a => Z.2.2.1 < a)) 22 (w_X11_could_22 (MS Z d) (Gw Z 3 p e R s m args below meth c (MQ below (QcS Z Rp) args s 0 0 (fun a => Z.2.2.1 < a))) Rp) := by
  unfold w_X11_could_22
  refine s_aload_n (k := 0) C (by decide +kernel) ?_
  refine s_getR C w_2_234 (by decide +kernel) rfl ?_
  refine s_getR C w_2_120 (by decide +kernel) rfl ?_
  refine s_getI C w_1_127 (by decide +kernel) rfl ?_
  refine s_bipush (n := 8) C (by decide +kernel) (by decide) ?_
  refine s_icmp_le (off := 6) (tgt := 40) C (by decide +kernel) (by decide) (fun _ _ _ _ _ _ h => h) ?_
  refine s_bipush (n := (-5)) C (by decide +kernel) (by decide) ?_
  exact s_iret C rfl (by decide +kernel)
set_option maxRecDepth 20000 in
theorem b_X11_could_40 {Z : Zt} {d : Nat} {p : Program} {e : Env} {R : Room} {s : State} {m : MethodId} {args : Array Value} {below : List Frame} {meth : Method} {c : Code} {Rp : RT} (C : Cx Z d jX11_could RX11 p R s m args meth c) : Sd Z jX11_could p e R s m args below meth c (MQ below (QcS Z Rp) args s 0 0 (fun a => Z.2.2.1 < a)) 40 (w_X11_could_40 (MS Z d) (Gw Z 3 p e R s m args below meth c (MQ below (QcS Z Rp) args s 0 0 (fun a => Z.2.2.1 < a))) Rp) := by
  unfold w_X11_could_40
  refine s_aload_n (k := 0) C (by decide +kernel) ?_
  refine s_getR C w_2_237 (by decide +kernel) rfl ?_
  refine s_aload_n (k := 0) C (by decide +kernel) ?_
  refine s_getR C w_2_234 (by decide +kernel) rfl ?_
  refine s_iload_n (k := 1) C (by decide +kernel) ?_
  refine s_iload_n (k := 2) C (by decide +kernel) ?_
  refine s_callV C rfl rfl (by decide +kernel) rfl w_6_19 w_6_20 w_6_21 w_1_10 w_6_22 (by decide +kernel) ?_
  refine s_if_eq (off := 7) (tgt := 60) C (by decide +kernel) (by decide) (fun _ _ _ _ _ _ h => h) ?_
  refine s_iconst (n := 1) C (by decide +kernel) (by decide) ?_
  exact s_goto (off := 4) (tgt := 61) C (by decide +kernel) (by decide) (fun _ _ _ _ _ _ h => h)
set_option maxRecDepth 20000 in
theorem b_X11_could_60 {Z : Zt} {d : Nat} {p : Program} {e : Env} {R : Room} {s : State} {m : MethodId} {args : Array Value} {below : List Frame} {meth : Method} {c : Code} {Rp : RT} (C : Cx Z d jX11_could RX11 p R s m args meth c) : Sd Z jX11_could p e R s m args below meth c (MQ below (QcS Z Rp) args s 0 0 (fun a => Z.2.2.1 < a)) 60 (w_X11_could_60 (MS Z d) (Gw Z 3 p e R s m args below meth c (MQ below (QcS Z Rp) args s 0 0 (fun a => Z.2.2.1 < a))) Rp) := by
  unfold w_X11_could_60
  refine s_iconst (n := 0) C (by decide +kernel) (by decide) ?_
  exact (fun _ _ _ _ _ _ h => h)
set_option maxRecDepth 20000 in
theorem b_X11_could_61 {Z : Zt} {d : Nat} {p : Program} {e : Env} {R : Room} {s : State} {m : MethodId} {args : Array Value} {below : List Frame} {meth : Method} {c : Code} {Rp : RT} (C : Cx Z d jX11_could RX11 p R s m args meth c) : Sd Z jX11_could p e R s m args below meth c (MQ below (QcS Z Rp) args s 0 0 (fun a => Z.2.2.1 < a)) 61 (w_X11_could_61 (MS Z d) (Gw Z 3 p e R s m args below meth c (MQ below (QcS Z Rp) args s 0 0 (fun a => Z.2.2.1 < a))) Rp) := by
  unfold w_X11_could_61
  exact s_iret C rfl (by decide +kernel)
theorem ms_X11_could {Z : Zt} {d : Nat} {S : Sh} {μ : Mi} {ρ : Mr} {Rp : RT} (a0 : Nat) (x1 : Int32) (x2 : Int32) (h : ∀ G : Nat → PT, (∀ (L st : List Value) (S : Sh) (q : Nat × Nat) (μ : Mi) (ρ : Mr), w_X11_could_10 (MS Z d) G Rp L st S q μ ρ → G 10 L st S q μ ρ) → (∀ (L st : List Value) (S : Sh) (q : Nat × Nat) (μ : Mi) (ρ : Mr), w_X11_could_19 (MS Z d) G Rp L st S q μ ρ → G 19 L st S q μ ρ) → (∀ (L st : List Value) (S : Sh) (q : Nat × Nat) (μ : Mi) (ρ : Mr), w_X11_could_22 (MS Z d) G Rp L st S q μ ρ → G 22 L st S q μ ρ) → (∀ (L st : List Value) (S : Sh) (q : Nat × Nat) (μ : Mi) (ρ : Mr), w_X11_could_40 (MS Z d) G Rp L st S q μ ρ → G 40 L st S q μ ρ) → (∀ (L st : List Value) (S : Sh) (q : Nat × Nat) (μ : Mi) (ρ : Mr), w_X11_could_60 (MS Z d) G Rp L st S q μ ρ → G 60 L st S q μ ρ) → (∀ (L st : List Value) (S : Sh) (q : Nat × Nat) (μ : Mi) (ρ : Mr), w_X11_could_61 (MS Z d) G Rp L st S q μ ρ → G 61 L st S q μ ρ) → w_X11_could_0 (MS Z d) G Rp [.ref a0, .int x1, .int x2] [] S (0, 0) μ ρ) : MS Z (d + 1) jX11_could [.ref a0, .int x1, .int x2] S μ ρ Rp :=
  MS_of [.ref a0, .int x1, .int x2] (by decide +kernel) rfl rfl (Nat.le_of_ble_eq_true rfl) rfl (fun p e R s m args below meth c C => b_X11_could_0 C _ _ _ _ _ _ (h _ (b_X11_could_10 C) (b_X11_could_19 C) (b_X11_could_22 C) (b_X11_could_40 C) (b_X11_could_60 C) (b_X11_could_61 C)))
def w_X11_fragile_0 (M : CT) (G : Nat → PT) (Rp : RT) : PT := tAload 0 <| tGetR 11 11 0 <| tCallS M jX8_fewestStops 1 <| tIret Rp
set_option maxRecDepth 20000 in
theorem b_X11_fragile_0 {Z : Zt} {d : Nat} {p : Program} {e : Env} {R : Room} {s : State} {m : MethodId} {args : Array Value} {below : List Frame} {meth : Method} {c : Code} {Rp : RT} (C : Cx Z d jX11_fragile RX11 p R s m args meth c) : Sd Z jX11_fragile p e R s m args below meth c (MQ below (QcS Z Rp) args s 0 0 (fun a => Z.2.2.1 < a)) 0 (w_X11_fragile_0 (MS Z d) (Gw Z 1 p e R s m args below meth c (MQ below (QcS Z Rp) args s 0 0 (fun a => Z.2.2.1 < a))) Rp) := by
  unfold w_X11_fragile_0
  refine s_aload_n (k := 0) C (by decide +kernel) ?_
  refine s_getR C w_2_234 (by decide +kernel) rfl ?_
  refine s_callS C (by decide +kernel) rfl w_6_34 w_6_35 w_1_21 w_6_36 (by decide +kernel) ?_
  exact s_iret C rfl (by decide +kernel)
theorem ms_X11_fragile {Z : Zt} {d : Nat} {S : Sh} {μ : Mi} {ρ : Mr} {Rp : RT} (a0 : Nat) (h : ∀ G : Nat → PT, w_X11_fragile_0 (MS Z d) G Rp [.ref a0] [] S (0, 0) μ ρ) : MS Z (d + 1) jX11_fragile [.ref a0] S μ ρ Rp :=
  MS_of [.ref a0] (by decide +kernel) rfl rfl (Nat.le_of_ble_eq_true rfl) rfl (fun p e R s m args below meth c C => b_X11_fragile_0 C _ _ _ _ _ _ (h _ ))
def w_X11_undo_0 (M : CT) (G : Nat → PT) (Rp : RT) : PT := tIload 1 <| tConst 1 <| tIf2 (fun x y => x < y) (G 13) <| tIload 1 <| tAload 0 <| tGetI 11 11 7 <| tIf2 (fun x y => x ≤ y) (G 16) <| G 13
def w_X11_undo_13 (M : CT) (G : Nat → PT) (Rp : RT) : PT := tConst (-3) <| tIret Rp
def w_X11_undo_16 (M : CT) (G : Nat → PT) (Rp : RT) : PT := tAload 0 <| tAload 0 <| tGetI 11 11 6 <| tConst 9 <| tBin (fun x y => x + y) <| tIload 1 <| tBin (fun x y => x - y) <| tConst 9 <| tRem <| tPutI 11 11 6 <| tAload 0 <| tDup <| tGetI 11 11 7 <| tIload 1 <| tBin (fun x y => x - y) <| tPutI 11 11 7 <| tAload 0 <| tGetR 11 11 0 <| tAload 0 <| tGetR 11 11 1 <| tAload 0 <| tGetI 11 11 6 <| tAldR 40 <| tCallV M jX10_copyFrom 10 6 1 <| tAload 0 <| tGetI 11 11 7 <| tIret Rp
set_option maxRecDepth 20000 in
theorem b_X11_undo_0 {Z : Zt} {d : Nat} {p : Program} {e : Env} {R : Room} {s : State} {m : MethodId} {args : Array Value} {below : List Frame} {meth : Method} {c : Code} {Rp : RT} (C : Cx Z d jX11_undo RX11 p R s m args meth c) : Sd Z jX11_undo p e R s m args below meth c (MQ below (QcS Z Rp) args s 0 0 (fun a => Z.2.2.1 < a)) 0 (w_X11_undo_0 (MS Z d) (Gw Z 2 p e R s m args below meth c (MQ below (QcS Z Rp) args s 0 0 (fun a => Z.2.2.1 < a))) Rp) := by
  unfold w_X11_undo_0
  refine s_iload_n (k := 1) C (by decide +kernel) ?_
  refine s_iconst (n := 1) C (by decide +kernel) (by decide) ?_
  refine s_icmp_lt (off := 11) (tgt := 13) C (by decide +kernel) (by decide) (fun _ _ _ _ _ _ h => h) ?_
  refine s_iload_n (k := 1) C (by decide +kernel) ?_
  refine s_aload_n (k := 0) C (by decide +kernel) ?_
  refine s_getI C w_3_1 (by decide +kernel) rfl ?_
  refine s_icmp_le (off := 6) (tgt := 16) C (by decide +kernel) (by decide) (fun _ _ _ _ _ _ h => h) ?_
  exact (fun _ _ _ _ _ _ h => h)
set_option maxRecDepth 20000 in
theorem b_X11_undo_13 {Z : Zt} {d : Nat} {p : Program} {e : Env} {R : Room} {s : State} {m : MethodId} {args : Array Value} {below : List Frame} {meth : Method} {c : Code} {Rp : RT} (C : Cx Z d jX11_undo RX11 p R s m args meth c) : Sd Z jX11_undo p e R s m args below meth c (MQ below (QcS Z Rp) args s 0 0 (fun a => Z.2.2.1 < a)) 13 (w_X11_undo_13 (MS Z d) (Gw Z 2 p e R s m args below meth c (MQ below (QcS Z Rp) args s 0 0 (fun a => Z.2.2.1 < a))) Rp) := by
  unfold w_X11_undo_13
  refine s_bipush (n := (-3)) C (by decide +kernel) (by decide) ?_
  exact s_iret C rfl (by decide +kernel)
set_option maxRecDepth 20000 in
theorem b_X11_undo_16 {Z : Zt} {d : Nat} {p : Program} {e : Env} {R : Room} {s : State} {m : MethodId} {args : Array Value} {below : List Frame} {meth : Method} {c : Code} {Rp : RT} (C : Cx Z d jX11_undo RX11 p R s m args meth c) : Sd Z jX11_undo p e R s m args below meth c (MQ below (QcS Z Rp) args s 0 0 (fun a => Z.2.2.1 < a)) 16 (w_X11_undo_16 (MS Z d) (Gw Z 2 p e R s m args below meth c (MQ below (QcS Z Rp) args s 0 0 (fun a => Z.2.2.1 < a))) Rp) := by
  unfold w_X11_undo_16
  refine s_aload_n (k := 0) C (by decide +kernel) ?_
  refine s_aload_n (k := 0) C (by decide +kernel) ?_
  refine s_getI C w_3_0 (by decide +kernel) rfl ?_
  refine s_bipush (n := 9) C (by decide +kernel) (by decide) ?_
  refine s_iadd C (by decide +kernel) ?_
  refine s_iload_n (k := 1) C (by decide +kernel) ?_
  refine s_isub C (by decide +kernel) ?_
  refine s_bipush (n := 9) C (by decide +kernel) (by decide) ?_
  refine s_irem C (by decide +kernel) ?_
  refine s_putI C w_3_0 (by decide +kernel) rfl (Or.inl rfl) ?_
  refine s_aload_n (k := 0) C (by decide +kernel) ?_
  refine s_dup C (by decide +kernel) ?_
  refine s_getI C w_3_1 (by decide +kernel) rfl ?_
  refine s_iload_n (k := 1) C (by decide +kernel) ?_
  refine s_isub C (by decide +kernel) ?_
  refine s_putI C w_3_1 (by decide +kernel) rfl (Or.inl rfl) ?_
  refine s_aload_n (k := 0) C (by decide +kernel) ?_
  refine s_getR C w_2_234 (by decide +kernel) rfl ?_
  refine s_aload_n (k := 0) C (by decide +kernel) ?_
  refine s_getR C w_2_235 (by decide +kernel) rfl ?_
  refine s_aload_n (k := 0) C (by decide +kernel) ?_
  refine s_getI C w_3_0 (by decide +kernel) rfl ?_
  refine s_aald C rfl (by decide +kernel) ?_
  refine s_callV C rfl rfl (by decide +kernel) rfl w_3_36 w_3_37 w_3_38 w_1_2 w_3_39 (by decide +kernel) ?_
  refine s_aload_n (k := 0) C (by decide +kernel) ?_
  refine s_getI C w_3_1 (by decide +kernel) rfl ?_
  exact s_iret C rfl (by decide +kernel)
theorem ms_X11_undo {Z : Zt} {d : Nat} {S : Sh} {μ : Mi} {ρ : Mr} {Rp : RT} (a0 : Nat) (x1 : Int32) (h : ∀ G : Nat → PT, (∀ (L st : List Value) (S : Sh) (q : Nat × Nat) (μ : Mi) (ρ : Mr), w_X11_undo_13 (MS Z d) G Rp L st S q μ ρ → G 13 L st S q μ ρ) → (∀ (L st : List Value) (S : Sh) (q : Nat × Nat) (μ : Mi) (ρ : Mr), w_X11_undo_16 (MS Z d) G Rp L st S q μ ρ → G 16 L st S q μ ρ) → w_X11_undo_0 (MS Z d) G Rp [.ref a0, .int x1] [] S (0, 0) μ ρ) : MS Z (d + 1) jX11_undo [.ref a0, .int x1] S μ ρ Rp :=
  MS_of [.ref a0, .int x1] (by decide +kernel) rfl rfl (Nat.le_of_ble_eq_true rfl) rfl (fun p e R s m args below meth c C => b_X11_undo_0 C _ _ _ _ _ _ (h _ (b_X11_undo_13 C) (b_X11_undo_16 C)))
def w_X11_image_0 (M : CT) (G : Nat → PT) (Rp : RT) : PT := tIload 1 <| tIf (fun x => x < 0) (G 9) <| tIload 1 <| tConst 2 <| tIf2 (fun x y => x < y) (G 12) <| G 9
def w_X11_image_9 (M : CT) (G : Nat → PT) (Rp : RT) : PT := tConst (-2) <| tIret Rp
def w_X11_image_12 (M : CT) (G : Nat → PT) (Rp : RT) : PT := tAload 0 <| tGetR 11 11 2 <| tIload 1 <| tAldR 40 <| tAload 0 <| tGetR 11 11 0 <| tCallV M jX10_copyFrom 10 6 1 <| tAload 0 <| tDup <| tGetI 11 11 8 <| tConst 1 <| tIload 1 <| tBin (fun x y => x <<< (y &&& 31)) <| tBin (fun x y => x ||| y) <| tPutI 11 11 8 <| tConst 0 <| tIret Rp
set_option maxRecDepth 20000 in
theorem b_X11_image_0 {Z : Zt} {d : Nat} {p : Program} {e : Env} {R : Room} {s : State} {m : MethodId} {args : Array Value} {below : List Frame} {meth : Method} {c : Code} {Rp : RT} (C : Cx Z d jX11_image RX11 p R s m args meth c) : Sd Z jX11_image p e R s m args below meth c (MQ below (QcS Z Rp) args s 0 0 (fun a => Z.2.2.1 < a)) 0 (w_X11_image_0 (MS Z d) (Gw Z 2 p e R s m args below meth c (MQ below (QcS Z Rp) args s 0 0 (fun a => Z.2.2.1 < a))) Rp) := by
  unfold w_X11_image_0
  refine s_iload_n (k := 1) C (by decide +kernel) ?_
  refine s_if_lt (off := 8) (tgt := 9) C (by decide +kernel) (by decide) (fun _ _ _ _ _ _ h => h) ?_
  refine s_iload_n (k := 1) C (by decide +kernel) ?_
  refine s_iconst (n := 2) C (by decide +kernel) (by decide) ?_
  refine s_icmp_lt (off := 6) (tgt := 12) C (by decide +kernel) (by decide) (fun _ _ _ _ _ _ h => h) ?_
  exact (fun _ _ _ _ _ _ h => h)
set_option maxRecDepth 20000 in
theorem b_X11_image_9 {Z : Zt} {d : Nat} {p : Program} {e : Env} {R : Room} {s : State} {m : MethodId} {args : Array Value} {below : List Frame} {meth : Method} {c : Code} {Rp : RT} (C : Cx Z d jX11_image RX11 p R s m args meth c) : Sd Z jX11_image p e R s m args below meth c (MQ below (QcS Z Rp) args s 0 0 (fun a => Z.2.2.1 < a)) 9 (w_X11_image_9 (MS Z d) (Gw Z 2 p e R s m args below meth c (MQ below (QcS Z Rp) args s 0 0 (fun a => Z.2.2.1 < a))) Rp) := by
  unfold w_X11_image_9
  refine s_bipush (n := (-2)) C (by decide +kernel) (by decide) ?_
  exact s_iret C rfl (by decide +kernel)
set_option maxRecDepth 20000 in
theorem b_X11_image_12 {Z : Zt} {d : Nat} {p : Program} {e : Env} {R : Room} {s : State} {m : MethodId} {args : Array Value} {below : List Frame} {meth : Method} {c : Code} {Rp : RT} (C : Cx Z d jX11_image RX11 p R s m args meth c) : Sd Z jX11_image p e R s m args below meth c (MQ below (QcS Z Rp) args s 0 0 (fun a => Z.2.2.1 < a)) 12 (w_X11_image_12 (MS Z d) (Gw Z 2 p e R s m args below meth c (MQ below (QcS Z Rp) args s 0 0 (fun a => Z.2.2.1 < a))) Rp) := by
  unfold w_X11_image_12
  refine s_aload_n (k := 0) C (by decide +kernel) ?_
  refine s_getR C w_2_236 (by decide +kernel) rfl ?_
  refine s_iload_n (k := 1) C (by decide +kernel) ?_
  refine s_aald C rfl (by decide +kernel) ?_
  refine s_aload_n (k := 0) C (by decide +kernel) ?_
  refine s_getR C w_2_234 (by decide +kernel) rfl ?_
  refine s_callV C rfl rfl (by decide +kernel) rfl w_3_36 w_3_37 w_3_38 w_1_2 w_3_39 (by decide +kernel) ?_
  refine s_aload_n (k := 0) C (by decide +kernel) ?_
  refine s_dup C (by decide +kernel) ?_
  refine s_getI C w_3_2 (by decide +kernel) rfl ?_
  refine s_iconst (n := 1) C (by decide +kernel) (by decide) ?_
  refine s_iload_n (k := 1) C (by decide +kernel) ?_
  refine s_ishl C (by decide +kernel) ?_
  refine s_ior C (by decide +kernel) ?_
  refine s_putI C w_3_2 (by decide +kernel) rfl (Or.inl rfl) ?_
  refine s_iconst (n := 0) C (by decide +kernel) (by decide) ?_
  exact s_iret C rfl (by decide +kernel)
theorem ms_X11_image {Z : Zt} {d : Nat} {S : Sh} {μ : Mi} {ρ : Mr} {Rp : RT} (a0 : Nat) (x1 : Int32) (h : ∀ G : Nat → PT, (∀ (L st : List Value) (S : Sh) (q : Nat × Nat) (μ : Mi) (ρ : Mr), w_X11_image_9 (MS Z d) G Rp L st S q μ ρ → G 9 L st S q μ ρ) → (∀ (L st : List Value) (S : Sh) (q : Nat × Nat) (μ : Mi) (ρ : Mr), w_X11_image_12 (MS Z d) G Rp L st S q μ ρ → G 12 L st S q μ ρ) → w_X11_image_0 (MS Z d) G Rp [.ref a0, .int x1] [] S (0, 0) μ ρ) : MS Z (d + 1) jX11_image [.ref a0, .int x1] S μ ρ Rp :=
  MS_of [.ref a0, .int x1] (by decide +kernel) rfl rfl (Nat.le_of_ble_eq_true rfl) rfl (fun p e R s m args below meth c C => b_X11_image_0 C _ _ _ _ _ _ (h _ (b_X11_image_9 C) (b_X11_image_12 C)))
def w_X11_restore_0 (M : CT) (G : Nat → PT) (Rp : RT) : PT := tIload 1 <| tIf (fun x => x < 0) (G 9) <| tIload 1 <| tConst 2 <| tIf2 (fun x y => x < y) (G 12) <| G 9
def w_X11_restore_9 (M : CT) (G : Nat → PT) (Rp : RT) : PT := tConst (-2) <| tIret Rp
def w_X11_restore_12 (M : CT) (G : Nat → PT) (Rp : RT) : PT := tAload 0 <| tGetI 11 11 8 <| tIload 1 <| tBin (fun x y => x >>> (y &&& 31)) <| tConst 1 <| tBin (fun x y => x &&& y) <| tIf (fun x => x ≠ 0) (G 26) <| tConst (-6) <| tIret Rp
def w_X11_restore_26 (M : CT) (G : Nat → PT) (Rp : RT) : PT := tAload 0 <| tGetR 11 11 0 <| tAload 0 <| tGetR 11 11 2 <| tIload 1 <| tAldR 40 <| tCallV M jX10_copyFrom 10 6 1 <| tAload 0 <| tConst 0 <| tPutI 11 11 7 <| tConst 0 <| tIret Rp
set_option maxRecDepth 20000 in
theorem b_X11_restore_0 {Z : Zt} {d : Nat} {p : Program} {e : Env} {R : Room} {s : State} {m : MethodId} {args : Array Value} {below : List Frame} {meth : Method} {c : Code} {Rp : RT} (C : Cx Z d jX11_restore RX11 p R s m args meth c) : Sd Z jX11_restore p e R s m args below meth c (MQ below (QcS Z Rp) args s 0 0 (fun a => Z.2.2.1 < a)) 0 (w_X11_restore_0 (MS Z d) (Gw Z 2 p e R s m args below meth c (MQ below (QcS Z Rp) args s 0 0 (fun a => Z.2.2.1 < a))) Rp) := by
  unfold w_X11_restore_0
  refine s_iload_n (k := 1) C (by decide +kernel) ?_
  refine s_if_lt (off := 8) (tgt := 9) C (by decide +kernel) (by decide) (fun _ _ _ _ _ _ h => h) ?_
  refine s_iload_n (k := 1) C (by decide +kernel) ?_
  refine s_iconst (n := 2) C (by decide +kernel) (by decide) ?_
  refine s_icmp_lt (off := 6) (tgt := 12) C (by decide +kernel) (by decide) (fun _ _ _ _ _ _ h => h) ?_
  exact (fun _ _ _ _ _ _ h => h)
set_option maxRecDepth 20000 in
theorem b_X11_restore_9 {Z : Zt} {d : Nat} {p : Program} {e : Env} {R : Room} {s : State} {m : MethodId} {args : Array Value} {below : List Frame} {meth : Method} {c : Code} {Rp : RT} (C : Cx Z d jX11_restore RX11 p R s m args meth c) : Sd Z jX11_restore p e R s m args below meth c (MQ below (QcS Z Rp) args s 0 0 (fun a => Z.2.2.1 < a)) 9 (w_X11_restore_9 (MS Z d) (Gw Z 2 p e R s m args below meth c (MQ below (QcS Z Rp) args s 0 0 (fun a => Z.2.2.1 < a))) Rp) := by
  unfold w_X11_restore_9
  refine s_bipush (n := (-2)) C (by decide +kernel) (by decide) ?_
  exact s_iret C rfl (by decide +kernel)
set_option maxRecDepth 20000 in
theorem b_X11_restore_12 {Z : Zt} {d : Nat} {p : Program} {e : Env} {R : Room} {s : State} {m : MethodId} {args : Array Value} {below : List Frame} {meth : Method} {c : Code} {Rp : RT} (C : Cx Z d jX11_restore RX11 p R s m args meth c) : Sd Z jX11_restore p e R s m args below meth c (MQ below (QcS Z Rp) args s 0 0 (fun a => Z.2.2.1 < a)) 12 (w_X11_restore_12 (MS Z d) (Gw Z 2 p e R s m args below meth c (MQ below (QcS Z Rp) args s 0 0 (fun a => Z.2.2.1 < a))) Rp) := by
  unfold w_X11_restore_12
  refine s_aload_n (k := 0) C (by decide +kernel) ?_
  refine s_getI C w_3_2 (by decide +kernel) rfl ?_
  refine s_iload_n (k := 1) C (by decide +kernel) ?_
  refine s_ishr C (by decide +kernel) ?_
  refine s_iconst (n := 1) C (by decide +kernel) (by decide) ?_
  refine s_iand C (by decide +kernel) ?_
  refine s_if_ne (off := 6) (tgt := 26) C (by decide +kernel) (by decide) (fun _ _ _ _ _ _ h => h) ?_
  refine s_bipush (n := (-6)) C (by decide +kernel) (by decide) ?_
  exact s_iret C rfl (by decide +kernel)
set_option maxRecDepth 20000 in
theorem b_X11_restore_26 {Z : Zt} {d : Nat} {p : Program} {e : Env} {R : Room} {s : State} {m : MethodId} {args : Array Value} {below : List Frame} {meth : Method} {c : Code} {Rp : RT} (C : Cx Z d jX11_restore RX11 p R s m args meth c) : Sd Z jX11_restore p e R s m args below meth c (MQ below (QcS Z Rp) args s 0 0 (fun a => Z.2.2.1 < a)) 26 (w_X11_restore_26 (MS Z d) (Gw Z 2 p e R s m args below meth c (MQ below (QcS Z Rp) args s 0 0 (fun a => Z.2.2.1 < a))) Rp) := by
  unfold w_X11_restore_26
  refine s_aload_n (k := 0) C (by decide +kernel) ?_
  refine s_getR C w_2_234 (by decide +kernel) rfl ?_
  refine s_aload_n (k := 0) C (by decide +kernel) ?_
  refine s_getR C w_2_236 (by decide +kernel) rfl ?_
  refine s_iload_n (k := 1) C (by decide +kernel) ?_
  refine s_aald C rfl (by decide +kernel) ?_
  refine s_callV C rfl rfl (by decide +kernel) rfl w_3_36 w_3_37 w_3_38 w_1_2 w_3_39 (by decide +kernel) ?_
  refine s_aload_n (k := 0) C (by decide +kernel) ?_
  refine s_iconst (n := 0) C (by decide +kernel) (by decide) ?_
  refine s_putI C w_3_1 (by decide +kernel) rfl (Or.inl rfl) ?_
  refine s_iconst (n := 0) C (by decide +kernel) (by decide) ?_
  exact s_iret C rfl (by decide +kernel)
theorem ms_X11_restore {Z : Zt} {d : Nat} {S : Sh} {μ : Mi} {ρ : Mr} {Rp : RT} (a0 : Nat) (x1 : Int32) (h : ∀ G : Nat → PT, (∀ (L st : List Value) (S : Sh) (q : Nat × Nat) (μ : Mi) (ρ : Mr), w_X11_restore_9 (MS Z d) G Rp L st S q μ ρ → G 9 L st S q μ ρ) → (∀ (L st : List Value) (S : Sh) (q : Nat × Nat) (μ : Mi) (ρ : Mr), w_X11_restore_12 (MS Z d) G Rp L st S q μ ρ → G 12 L st S q μ ρ) → (∀ (L st : List Value) (S : Sh) (q : Nat × Nat) (μ : Mi) (ρ : Mr), w_X11_restore_26 (MS Z d) G Rp L st S q μ ρ → G 26 L st S q μ ρ) → w_X11_restore_0 (MS Z d) G Rp [.ref a0, .int x1] [] S (0, 0) μ ρ) : MS Z (d + 1) jX11_restore [.ref a0, .int x1] S μ ρ Rp :=
  MS_of [.ref a0, .int x1] (by decide +kernel) rfl rfl (Nat.le_of_ble_eq_true rfl) rfl (fun p e R s m args below meth c C => b_X11_restore_0 C _ _ _ _ _ _ (h _ (b_X11_restore_9 C) (b_X11_restore_12 C) (b_X11_restore_26 C)))
def w_X11_count_0 (M : CT) (G : Nat → PT) (Rp : RT) : PT := tIload 1 <| tSw [(7, G 28), (10, G 33)] (G 41)
def w_X11_count_28 (M : CT) (G : Nat → PT) (Rp : RT) : PT := tAload 0 <| tGetI 11 11 7 <| tIret Rp
def w_X11_count_33 (M : CT) (G : Nat → PT) (Rp : RT) : PT := tAload 0 <| tGetR 11 11 4 <| tGetI 9 7 2 <| tIret Rp
def w_X11_count_41 (M : CT) (G : Nat → PT) (Rp : RT) : PT := tAload 0 <| tGetR 11 11 0 <| tIload 1 <| tCallS M jX8_countOf 2 <| tIret Rp
set_option maxRecDepth 20000 in
theorem b_X11_count_0 {Z : Zt} {d : Nat} {p : Program} {e : Env} {R : Room} {s : State} {m : MethodId} {args : Array Value} {below : List Frame} {meth : Method} {c : Code} {Rp : RT} (C : Cx Z d jX11_count RX11 p R s m args meth c) : Sd Z jX11_count p e R s m args below meth c (MQ below (QcS Z Rp) args s 0 0 (fun a => Z.2.2.1 < a)) 0 (w_X11_count_0 (MS Z d) (Gw Z 2 p e R s m args below meth c (MQ below (QcS Z Rp) args s 0 0 (fun a => Z.2.2.1 < a))) Rp) := by
  unfold w_X11_count_0
  refine s_iload_n (k := 1) C (by decide +kernel) ?_
  refine s_lsw (df := 40) (ps := #[(7, 27), (10, 32)]) (len := 27) C (by decide +kernel) (by decide) 41 (by decide) (fun _ _ _ _ _ _ h => h) (fun i r h => ?_) (fun x h => ?_)
  · match i, h with
    | 0, h => cases h; dsimp only; exact ⟨27, 28, by decide, by decide, (fun _ _ _ _ _ _ h => h)⟩
    | 1, h => cases h; dsimp only; exact ⟨32, 33, by decide, by decide, (fun _ _ _ _ _ _ h => h)⟩
    | q + 2, h => simp at h
  · refine lsw_out _ _ x (fun a ha => ?_)
    simp at ha h
    rcases ha with ⟨rfl, _⟩ | ⟨rfl, _⟩
    · exact fun z => h.1 (Int32.toInt_inj.mp (by rw [z]; rfl))
    · exact fun z => h.2 (Int32.toInt_inj.mp (by rw [z]; rfl))
set_option maxRecDepth 20000 in
theorem b_X11_count_28 {Z : Zt} {d : Nat} {p : Program} {e : Env} {R : Room} {s : State} {m : MethodId} {args : Array Value} {below : List Frame} {meth : Method} {c : Code} {Rp : RT} (C : Cx Z d jX11_count RX11 p R s m args meth c) : Sd Z jX11_count p e R s m args below meth c (MQ below (QcS Z Rp) args s 0 0 (fun a => Z.2.2.1 < a)) 28 (w_X11_count_28 (MS Z d) (Gw Z 2 p e R s m args below meth c (MQ below (QcS Z Rp) args s 0 0 (fun a => Z.2.2.1 < a))) Rp) := by
  unfold w_X11_count_28
  refine s_aload_n (k := 0) C (by decide +kernel) ?_
  refine s_getI C w_3_1 (by decide +kernel) rfl ?_
  exact s_iret C rfl (by decide +kernel)
set_option maxRecDepth 20000 in
theorem b_X11_count_33 {Z : Zt} {d : Nat} {p : Program} {e : Env} {R : Room} {s : State} {m : MethodId} {args : Array Value} {below : List Frame} {meth : Method} {c : Code} {Rp : RT} (C : Cx Z d jX11_count RX11 p R s m args meth c) : Sd Z jX11_count p e R s m args below meth c (MQ below (QcS Z Rp) args s 0 0 (fun a => Z.2.2.1 < a)) 33 (w_X11_count_33 (MS Z d) (Gw Z 2 p e R s m args below meth c (MQ below (QcS Z Rp) args s 0 0 (fun a => Z.2.2.1 < a))) Rp) := by
  unfold w_X11_count_33
  refine s_aload_n (k := 0) C (by decide +kernel) ?_
  refine s_getR C w_2_238 (by decide +kernel) rfl ?_
  refine s_getI C w_2_168 (by decide +kernel) rfl ?_
  exact s_iret C rfl (by decide +kernel)
set_option maxRecDepth 20000 in
theorem b_X11_count_41 {Z : Zt} {d : Nat} {p : Program} {e : Env} {R : Room} {s : State} {m : MethodId} {args : Array Value} {below : List Frame} {meth : Method} {c : Code} {Rp : RT} (C : Cx Z d jX11_count RX11 p R s m args meth c) : Sd Z jX11_count p e R s m args below meth c (MQ below (QcS Z Rp) args s 0 0 (fun a => Z.2.2.1 < a)) 41 (w_X11_count_41 (MS Z d) (Gw Z 2 p e R s m args below meth c (MQ below (QcS Z Rp) args s 0 0 (fun a => Z.2.2.1 < a))) Rp) := by
  unfold w_X11_count_41
  refine s_aload_n (k := 0) C (by decide +kernel) ?_
  refine s_getR C w_2_234 (by decide +kernel) rfl ?_
  refine s_iload_n (k := 1) C (by decide +kernel) ?_
  refine s_callS C (by decide +kernel) rfl w_6_59 w_6_60 w_1_21 w_6_61 (by decide +kernel) ?_
  exact s_iret C rfl (by decide +kernel)
theorem ms_X11_count {Z : Zt} {d : Nat} {S : Sh} {μ : Mi} {ρ : Mr} {Rp : RT} (a0 : Nat) (x1 : Int32) (h : ∀ G : Nat → PT, (∀ (L st : List Value) (S : Sh) (q : Nat × Nat) (μ : Mi) (ρ : Mr), w_X11_count_28 (MS Z d) G Rp L st S q μ ρ → G 28 L st S q μ ρ) → (∀ (L st : List Value) (S : Sh) (q : Nat × Nat) (μ : Mi) (ρ : Mr), w_X11_count_33 (MS Z d) G Rp L st S q μ ρ → G 33 L st S q μ ρ) → (∀ (L st : List Value) (S : Sh) (q : Nat × Nat) (μ : Mi) (ρ : Mr), w_X11_count_41 (MS Z d) G Rp L st S q μ ρ → G 41 L st S q μ ρ) → w_X11_count_0 (MS Z d) G Rp [.ref a0, .int x1] [] S (0, 0) μ ρ) : MS Z (d + 1) jX11_count [.ref a0, .int x1] S μ ρ Rp :=
  MS_of [.ref a0, .int x1] (by decide +kernel) rfl rfl (Nat.le_of_ble_eq_true rfl) rfl (fun p e R s m args below meth c C => b_X11_count_0 C _ _ _ _ _ _ (h _ (b_X11_count_28 C) (b_X11_count_33 C) (b_X11_count_41 C)))
def w_X11_remember_0 (M : CT) (G : Nat → PT) (Rp : RT) : PT := tAload 0 <| tGetR 11 11 1 <| tAload 0 <| tGetI 11 11 6 <| tAldR 40 <| tAload 0 <| tGetR 11 11 0 <| tCallV M jX10_copyFrom 10 6 1 <| tVret Rp
set_option maxRecDepth 20000 in
theorem b_X11_remember_0 {Z : Zt} {d : Nat} {p : Program} {e : Env} {R : Room} {s : State} {m : MethodId} {args : Array Value} {below : List Frame} {meth : Method} {c : Code} {Rp : RT} (C : Cx Z d jX11_remember RX11 p R s m args meth c) : Sd Z jX11_remember p e R s m args below meth c (MQ below (QcS Z Rp) args s 0 0 (fun a => Z.2.2.1 < a)) 0 (w_X11_remember_0 (MS Z d) (Gw Z 1 p e R s m args below meth c (MQ below (QcS Z Rp) args s 0 0 (fun a => Z.2.2.1 < a))) Rp) := by
  unfold w_X11_remember_0
  refine s_aload_n (k := 0) C (by decide +kernel) ?_
  refine s_getR C w_2_235 (by decide +kernel) rfl ?_
  refine s_aload_n (k := 0) C (by decide +kernel) ?_
  refine s_getI C w_3_0 (by decide +kernel) rfl ?_
  refine s_aald C rfl (by decide +kernel) ?_
  refine s_aload_n (k := 0) C (by decide +kernel) ?_
  refine s_getR C w_2_234 (by decide +kernel) rfl ?_
  refine s_callV C rfl rfl (by decide +kernel) rfl w_3_36 w_3_37 w_3_38 w_1_2 w_3_39 (by decide +kernel) ?_
  exact s_vret C rfl (by decide +kernel)
theorem ms_X11_remember {Z : Zt} {d : Nat} {S : Sh} {μ : Mi} {ρ : Mr} {Rp : RT} (a0 : Nat) (h : ∀ G : Nat → PT, w_X11_remember_0 (MS Z d) G Rp [.ref a0] [] S (0, 0) μ ρ) : MS Z (d + 1) jX11_remember [.ref a0] S μ ρ Rp :=
  MS_of [.ref a0] (by decide +kernel) rfl rfl (Nat.le_of_ble_eq_true rfl) rfl (fun p e R s m args below meth c C => b_X11_remember_0 C _ _ _ _ _ _ (h _ ))
def w_X11_kept_0 (M : CT) (G : Nat → PT) (Rp : RT) : PT := tIload 1 <| tIf (fun x => x < 0) (G 32) <| tAload 0 <| tAload 0 <| tGetI 11 11 6 <| tConst 1 <| tBin (fun x y => x + y) <| tConst 9 <| tRem <| tPutI 11 11 6 <| tAload 0 <| tAload 0 <| tGetI 11 11 7 <| tConst 1 <| tBin (fun x y => x + y) <| tConst 8 <| tMin <| tPutI 11 11 7 <| G 32
def w_X11_kept_32 (M : CT) (G : Nat → PT) (Rp : RT) : PT := tIload 1 <| tIret Rp
set_option maxRecDepth 20000 in
theorem b_X11_kept_0 {Z : Zt} {d : Nat} {p : Program} {e : Env} {R : Room} {s : State} {m : MethodId} {args : Array Value} {below : List Frame} {meth : Method} {c : Code} {Rp : RT} (C : Cx Z d jX11_kept RX11 p R s m args meth c) : Sd Z jX11_kept p e R s m args below meth c (MQ below (QcS Z Rp) args s 0 0 (fun a => Z.2.2.1 < a)) 0 (w_X11_kept_0 (MS Z d) (Gw Z 2 p e R s m args below meth c (MQ below (QcS Z Rp) args s 0 0 (fun a => Z.2.2.1 < a))) Rp) := by
  unfold w_X11_kept_0
  refine s_iload_n (k := 1) C (by decide +kernel) ?_
  refine s_if_lt (off := 31) (tgt := 32) C (by decide +kernel) (by decide) (fun _ _ _ _ _ _ h => h) ?_
  refine s_aload_n (k := 0) C (by decide +kernel) ?_
  refine s_aload_n (k := 0) C (by decide +kernel) ?_
  refine s_getI C w_3_0 (by decide +kernel) rfl ?_
  refine s_iconst (n := 1) C (by decide +kernel) (by decide) ?_
  refine s_iadd C (by decide +kernel) ?_
  refine s_bipush (n := 9) C (by decide +kernel) (by decide) ?_
  refine s_irem C (by decide +kernel) ?_
  refine s_putI C w_3_0 (by decide +kernel) rfl (Or.inl rfl) ?_
  refine s_aload_n (k := 0) C (by decide +kernel) ?_
  refine s_aload_n (k := 0) C (by decide +kernel) ?_
  refine s_getI C w_3_1 (by decide +kernel) rfl ?_
  refine s_iconst (n := 1) C (by decide +kernel) (by decide) ?_
  refine s_iadd C (by decide +kernel) ?_
  refine s_bipush (n := 8) C (by decide +kernel) (by decide) ?_
  refine s_min C w_3_83 w_3_84 w_1_16 w_min (by decide +kernel) ?_
  refine s_putI C w_3_1 (by decide +kernel) rfl (Or.inl rfl) ?_
  exact (fun _ _ _ _ _ _ h => h)
set_option maxRecDepth 20000 in
theorem b_X11_kept_32 {Z : Zt} {d : Nat} {p : Program} {e : Env} {R : Room} {s : State} {m : MethodId} {args : Array Value} {below : List Frame} {meth : Method} {c : Code} {Rp : RT} (C : Cx Z d jX11_kept RX11 p R s m args meth c) : Sd Z jX11_kept p e R s m args below meth c (MQ below (QcS Z Rp) args s 0 0 (fun a => Z.2.2.1 < a)) 32 (w_X11_kept_32 (MS Z d) (Gw Z 2 p e R s m args below meth c (MQ below (QcS Z Rp) args s 0 0 (fun a => Z.2.2.1 < a))) Rp) := by
  unfold w_X11_kept_32
  refine s_iload_n (k := 1) C (by decide +kernel) ?_
  exact s_iret C rfl (by decide +kernel)
theorem ms_X11_kept {Z : Zt} {d : Nat} {S : Sh} {μ : Mi} {ρ : Mr} {Rp : RT} (a0 : Nat) (x1 : Int32) (h : ∀ G : Nat → PT, (∀ (L st : List Value) (S : Sh) (q : Nat × Nat) (μ : Mi) (ρ : Mr), w_X11_kept_32 (MS Z d) G Rp L st S q μ ρ → G 32 L st S q μ ρ) → w_X11_kept_0 (MS Z d) G Rp [.ref a0, .int x1] [] S (0, 0) μ ρ) : MS Z (d + 1) jX11_kept [.ref a0, .int x1] S μ ρ Rp :=
  MS_of [.ref a0, .int x1] (by decide +kernel) rfl rfl (Nat.le_of_ble_eq_true rfl) rfl (fun p e R s m args below meth c C => b_X11_kept_0 C _ _ _ _ _ _ (h _ (b_X11_kept_32 C)))
def w_X11_isNoStore_0 (M : CT) (G : Nat → PT) (Rp : RT) : PT := tIload 0 <| tIf (fun x => x < 0) (G 9) <| tIload 0 <| tConst 5 <| tIf2 (fun x y => x < y) (G 13) <| G 9
def w_X11_isNoStore_9 (M : CT) (G : Nat → PT) (Rp : RT) : PT := tConst 1 <| tGoto (G 14)
def w_X11_isNoStore_13 (M : CT) (G : Nat → PT) (Rp : RT) : PT := tConst 0 <| G 14
def w_X11_isNoStore_14 (M : CT) (G : Nat → PT) (Rp : RT) : PT := tZret Rp
set_option maxRecDepth 20000 in
theorem b_X11_isNoStore_0 {Z : Zt} {d : Nat} {p : Program} {e : Env} {R : Room} {s : State} {m : MethodId} {args : Array Value} {below : List Frame} {meth : Method} {c : Code} {Rp : RT} (C : Cx Z d jX11_isNoStore RX11 p R s m args meth c) : Sd Z jX11_isNoStore p e R s m args below meth c (MQ below (QcS Z Rp) args s 0 0 (fun a => Z.2.2.1 < a)) 0 (w_X11_isNoStore_0 (MS Z d) (Gw Z 1 p e R s m args below meth c (MQ below (QcS Z Rp) args s 0 0 (fun a => Z.2.2.1 < a))) Rp) := by
  unfold w_X11_isNoStore_0
  refine s_iload_n (k := 0) C (by decide +kernel) ?_
  refine s_if_lt (off := 8) (tgt := 9) C (by decide +kernel) (by decide) (fun _ _ _ _ _ _ h => h) ?_
  refine s_iload_n (k := 0) C (by decide +kernel) ?_
  refine s_iconst (n := 5) C (by decide +kernel) (by decide) ?_
  refine s_icmp_lt (off := 7) (tgt := 13) C (by decide +kernel) (by decide) (fun _ _ _ _ _ _ h => h) ?_
  exact (fun _ _ _ _ _ _ h => h)
set_option maxRecDepth 20000 in
theorem b_X11_isNoStore_9 {Z : Zt} {d : Nat} {p : Program} {e : Env} {R : Room} {s : State} {m : MethodId} {args : Array Value} {below : List Frame} {meth : Method} {c : Code} {Rp : RT} (C : Cx Z d jX11_isNoStore RX11 p R s m args meth c) : Sd Z jX11_isNoStore p e R s m args below meth c (MQ below (QcS Z Rp) args s 0 0 (fun a => Z.2.2.1 < a)) 9 (w_X11_isNoStore_9 (MS Z d) (Gw Z 1 p e R s m args below meth c (MQ below (QcS Z Rp) args s 0 0 (fun a => Z.2.2.1 < a))) Rp) := by
  unfold w_X11_isNoStore_9
  refine s_iconst (n := 1) C (by decide +kernel) (by decide) ?_
  exact s_goto (off := 4) (tgt := 14) C (by decide +kernel) (by decide) (fun _ _ _ _ _ _ h => h)
set_option maxRecDepth 20000 in
theorem b_X11_isNoStore_13 {Z : Zt} {d : Nat} {p : Program} {e : Env} {R : Room} {s : State} {m : MethodId} {args : Array Value} {below : List Frame} {meth : Method} {c : Code} {Rp : RT} (C : Cx Z d jX11_isNoStore RX11 p R s m args meth c) : Sd Z jX11_isNoStore p e R s m args below meth c (MQ below (QcS Z Rp) args s 0 0 (fun a => Z.2.2.1 < a)) 13 (w_X11_isNoStore_13 (MS Z d) (Gw Z 1 p e R s m args below meth c (MQ below (QcS Z Rp) args s 0 0 (fun a => Z.2.2.1 < a))) Rp) := by
  unfold w_X11_isNoStore_13
  refine s_iconst (n := 0) C (by decide +kernel) (by decide) ?_
  exact (fun _ _ _ _ _ _ h => h)
set_option maxRecDepth 20000 in
theorem b_X11_isNoStore_14 {Z : Zt} {d : Nat} {p : Program} {e : Env} {R : Room} {s : State} {m : MethodId} {args : Array Value} {below : List Frame} {meth : Method} {c : Code} {Rp : RT} (C : Cx Z d jX11_isNoStore RX11 p R s m args meth c) : Sd Z jX11_isNoStore p e R s m args below meth c (MQ below (QcS Z Rp) args s 0 0 (fun a => Z.2.2.1 < a)) 14 (w_X11_isNoStore_14 (MS Z d) (Gw Z 1 p e R s m args below meth c (MQ below (QcS Z Rp) args s 0 0 (fun a => Z.2.2.1 < a))) Rp) := by
  unfold w_X11_isNoStore_14
  exact s_zret C rfl (by decide +kernel)
theorem ms_X11_isNoStore {Z : Zt} {d : Nat} {S : Sh} {μ : Mi} {ρ : Mr} {Rp : RT} (x1 : Int32) (h : ∀ G : Nat → PT, (∀ (L st : List Value) (S : Sh) (q : Nat × Nat) (μ : Mi) (ρ : Mr), w_X11_isNoStore_9 (MS Z d) G Rp L st S q μ ρ → G 9 L st S q μ ρ) → (∀ (L st : List Value) (S : Sh) (q : Nat × Nat) (μ : Mi) (ρ : Mr), w_X11_isNoStore_13 (MS Z d) G Rp L st S q μ ρ → G 13 L st S q μ ρ) → (∀ (L st : List Value) (S : Sh) (q : Nat × Nat) (μ : Mi) (ρ : Mr), w_X11_isNoStore_14 (MS Z d) G Rp L st S q μ ρ → G 14 L st S q μ ρ) → w_X11_isNoStore_0 (MS Z d) G Rp [.int x1] [] S (0, 0) μ ρ) : MS Z (d + 1) jX11_isNoStore [.int x1] S μ ρ Rp :=
  MS_of [.int x1] (by decide +kernel) rfl rfl (Nat.le_of_ble_eq_true rfl) rfl (fun p e R s m args below meth c C => b_X11_isNoStore_0 C _ _ _ _ _ _ (h _ (b_X11_isNoStore_9 C) (b_X11_isNoStore_13 C) (b_X11_isNoStore_14 C)))
def w_X11_isNoCell_0 (M : CT) (G : Nat → PT) (Rp : RT) : PT := tIload 0 <| tIf (fun x => x < 0) (G 9) <| tIload 0 <| tConst 4 <| tIf2 (fun x y => x < y) (G 13) <| G 9
def w_X11_isNoCell_9 (M : CT) (G : Nat → PT) (Rp : RT) : PT := tConst 1 <| tGoto (G 14)
def w_X11_isNoCell_13 (M : CT) (G : Nat → PT) (Rp : RT) : PT := tConst 0 <| G 14
def w_X11_isNoCell_14 (M : CT) (G : Nat → PT) (Rp : RT) : PT := tZret Rp
set_option maxRecDepth 20000 in
theorem b_X11_isNoCell_0 {Z : Zt} {d : Nat} {p : Program} {e : Env} {R : Room} {s : State} {m : MethodId} {args : Array Value} {below : List Frame} {meth : Method} {c : Code} {Rp : RT} (C : Cx Z d jX11_isNoCell RX11 p R s m args meth c) : Sd Z jX11_isNoCell p e R s m args below meth c (MQ below (QcS Z Rp) args s 0 0 (fun a => Z.2.2.1 < a)) 0 (w_X11_isNoCell_0 (MS Z d) (Gw Z 1 p e R s m args below meth c (MQ below (QcS Z Rp) args s 0 0 (fun a => Z.2.2.1 < a))) Rp) := by
  unfold w_X11_isNoCell_0
  refine s_iload_n (k := 0) C (by decide +kernel) ?_
  refine s_if_lt (off := 8) (tgt := 9) C (by decide +kernel) (by decide) (fun _ _ _ _ _ _ h => h) ?_
  refine s_iload_n (k := 0) C (by decide +kernel) ?_
  refine s_iconst (n := 4) C (by decide +kernel) (by decide) ?_
  refine s_icmp_lt (off := 7) (tgt := 13) C (by decide +kernel) (by decide) (fun _ _ _ _ _ _ h => h) ?_
  exact (fun _ _ _ _ _ _ h => h)
set_option maxRecDepth 20000 in
theorem b_X11_isNoCell_9 {Z : Zt} {d : Nat} {p : Program} {e : Env} {R : Room} {s : State} {m : MethodId} {args : Array Value} {below : List Frame} {meth : Method} {c : Code} {Rp : RT} (C : Cx Z d jX11_isNoCell RX11 p R s m args meth c) : Sd Z jX11_isNoCell p e R s m args below meth c (MQ below (QcS Z Rp) args s 0 0 (fun a => Z.2.2.1 < a)) 9 (w_X11_isNoCell_9 (MS Z d) (Gw Z 1 p e R s m args below meth c (MQ below (QcS Z Rp) args s 0 0 (fun a => Z.2.2.1 < a))) Rp) := by
  unfold w_X11_isNoCell_9
  refine s_iconst (n := 1) C (by decide +kernel) (by decide) ?_
  exact s_goto (off := 4) (tgt := 14) C (by decide +kernel) (by decide) (fun _ _ _ _ _ _ h => h)
set_option maxRecDepth 20000 in
theorem b_X11_isNoCell_13 {Z : Zt} {d : Nat} {p : Program} {e : Env} {R : Room} {s : State} {m : MethodId} {args : Array Value} {below : List Frame} {meth : Method} {c : Code} {Rp : RT} (C : Cx Z d jX11_isNoCell RX11 p R s m args meth c) : Sd Z jX11_isNoCell p e R s m args below meth c (MQ below (QcS Z Rp) args s 0 0 (fun a => Z.2.2.1 < a)) 13 (w_X11_isNoCell_13 (MS Z d) (Gw Z 1 p e R s m args below meth c (MQ below (QcS Z Rp) args s 0 0 (fun a => Z.2.2.1 < a))) Rp) := by
  unfold w_X11_isNoCell_13
  refine s_iconst (n := 0) C (by decide +kernel) (by decide) ?_
  exact (fun _ _ _ _ _ _ h => h)
set_option maxRecDepth 20000 in
theorem b_X11_isNoCell_14 {Z : Zt} {d : Nat} {p : Program} {e : Env} {R : Room} {s : State} {m : MethodId} {args : Array Value} {below : List Frame} {meth : Method} {c : Code} {Rp : RT} (C : Cx Z d jX11_isNoCell RX11 p R s m args meth c) : Sd Z jX11_isNoCell p e R s m args below meth c (MQ below (QcS Z Rp) args s 0 0 (fun a => Z.2.2.1 < a)) 14 (w_X11_isNoCell_14 (MS Z d) (Gw Z 1 p e R s m args below meth c (MQ below (QcS Z Rp) args s 0 0 (fun a => Z.2.2.1 < a))) Rp) := by
  unfold w_X11_isNoCell_14
  exact s_zret C rfl (by decide +kernel)
theorem ms_X11_isNoCell {Z : Zt} {d : Nat} {S : Sh} {μ : Mi} {ρ : Mr} {Rp : RT} (x1 : Int32) (h : ∀ G : Nat → PT, (∀ (L st : List Value) (S : Sh) (q : Nat × Nat) (μ : Mi) (ρ : Mr), w_X11_isNoCell_9 (MS Z d) G Rp L st S q μ ρ → G 9 L st S q μ ρ) → (∀ (L st : List Value) (S : Sh) (q : Nat × Nat) (μ : Mi) (ρ : Mr), w_X11_isNoCell_13 (MS Z d) G Rp L st S q μ ρ → G 13 L st S q μ ρ) → (∀ (L st : List Value) (S : Sh) (q : Nat × Nat) (μ : Mi) (ρ : Mr), w_X11_isNoCell_14 (MS Z d) G Rp L st S q μ ρ → G 14 L st S q μ ρ) → w_X11_isNoCell_0 (MS Z d) G Rp [.int x1] [] S (0, 0) μ ρ) : MS Z (d + 1) jX11_isNoCell [.int x1] S μ ρ Rp :=
  MS_of [.int x1] (by decide +kernel) rfl rfl (Nat.le_of_ble_eq_true rfl) rfl (fun p e R s m args below meth c C => b_X11_isNoCell_0 C _ _ _ _ _ _ (h _ (b_X11_isNoCell_9 C) (b_X11_isNoCell_13 C) (b_X11_isNoCell_14 C)))
def w_X11_isNoSet_0 (M : CT) (G : Nat → PT) (Rp : RT) : PT := tIload 0 <| tConst 1 <| tIf2 (fun x y => x < y) (G 11) <| tIload 0 <| tConst 31 <| tIf2 (fun x y => x ≤ y) (G 15) <| G 11
def w_X11_isNoSet_11 (M : CT) (G : Nat → PT) (Rp : RT) : PT := tConst 1 <| tGoto (G 16)
def w_X11_isNoSet_15 (M : CT) (G : Nat → PT) (Rp : RT) : PT := tConst 0 <| G 16
def w_X11_isNoSet_16 (M : CT) (G : Nat → PT) (Rp : RT) : PT := tZret Rp
set_option maxRecDepth 20000 in
theorem b_X11_isNoSet_0 {Z : Zt} {d : Nat} {p : Program} {e : Env} {R : Room} {s : State} {m : MethodId} {args : Array Value} {below : List Frame} {meth : Method} {c : Code} {Rp : RT} (C : Cx Z d jX11_isNoSet RX11 p R s m args meth c) : Sd Z jX11_isNoSet p e R s m args below meth c (MQ below (QcS Z Rp) args s 0 0 (fun a => Z.2.2.1 < a)) 0 (w_X11_isNoSet_0 (MS Z d) (Gw Z 1 p e R s m args below meth c (MQ below (QcS Z Rp) args s 0 0 (fun a => Z.2.2.1 < a))) Rp) := by
  unfold w_X11_isNoSet_0
  refine s_iload_n (k := 0) C (by decide +kernel) ?_
  refine s_iconst (n := 1) C (by decide +kernel) (by decide) ?_
  refine s_icmp_lt (off := 9) (tgt := 11) C (by decide +kernel) (by decide) (fun _ _ _ _ _ _ h => h) ?_
  refine s_iload_n (k := 0) C (by decide +kernel) ?_
  refine s_bipush (n := 31) C (by decide +kernel) (by decide) ?_
  refine s_icmp_le (off := 7) (tgt := 15) C (by decide +kernel) (by decide) (fun _ _ _ _ _ _ h => h) ?_
  exact (fun _ _ _ _ _ _ h => h)
set_option maxRecDepth 20000 in
theorem b_X11_isNoSet_11 {Z : Zt} {d : Nat} {p : Program} {e : Env} {R : Room} {s : State} {m : MethodId} {args : Array Value} {below : List Frame} {meth : Method} {c : Code} {Rp : RT} (C : Cx Z d jX11_isNoSet RX11 p R s m args meth c) : Sd Z jX11_isNoSet p e R s m args below meth c (MQ below (QcS Z Rp) args s 0 0 (fun a => Z.2.2.1 < a)) 11 (w_X11_isNoSet_11 (MS Z d) (Gw Z 1 p e R s m args below meth c (MQ below (QcS Z Rp) args s 0 0 (fun a => Z.2.2.1 < a))) Rp) := by
  unfold w_X11_isNoSet_11
  refine s_iconst (n := 1) C (by decide +kernel) (by decide) ?_
  exact s_goto (off := 4) (tgt := 16) C (by decide +kernel) (by decide) (fun _ _ _ _ _ _ h => h)
set_option maxRecDepth 20000 in
theorem b_X11_isNoSet_15 {Z : Zt} {d : Nat} {p : Program} {e : Env} {R : Room} {s : State} {m : MethodId} {args : Array Value} {below : List Frame} {meth : Method} {c : Code} {Rp : RT} (C : Cx Z d jX11_isNoSet RX11 p R s m args meth c) : Sd Z jX11_isNoSet p e R s m args below meth c (MQ below (QcS Z Rp) args s 0 0 (fun a => Z.2.2.1 < a)) 15 (w_X11_isNoSet_15 (MS Z d) (Gw Z 1 p e R s m args below meth c (MQ below (QcS Z Rp) args s 0 0 (fun a => Z.2.2.1 < a))) Rp) := by
  unfold w_X11_isNoSet_15
  refine s_iconst (n := 0) C (by decide +kernel) (by decide) ?_
  exact (fun _ _ _ _ _ _ h => h)
set_option maxRecDepth 20000 in
theorem b_X11_isNoSet_16 {Z : Zt} {d : Nat} {p : Program} {e : Env} {R : Room} {s : State} {m : MethodId} {args : Array Value} {below : List Frame} {meth : Method} {c : Code} {Rp : RT} (C : Cx Z d jX11_isNoSet RX11 p R s m args meth c) : Sd Z jX11_isNoSet p e R s m args below meth c (MQ below (QcS Z Rp) args s 0 0 (fun a => Z.2.2.1 < a)) 16 (w_X11_isNoSet_16 (MS Z d) (Gw Z 1 p e R s m args below meth c (MQ below (QcS Z Rp) args s 0 0 (fun a => Z.2.2.1 < a))) Rp) := by
  unfold w_X11_isNoSet_16
  exact s_zret C rfl (by decide +kernel)
theorem ms_X11_isNoSet {Z : Zt} {d : Nat} {S : Sh} {μ : Mi} {ρ : Mr} {Rp : RT} (x1 : Int32) (h : ∀ G : Nat → PT, (∀ (L st : List Value) (S : Sh) (q : Nat × Nat) (μ : Mi) (ρ : Mr), w_X11_isNoSet_11 (MS Z d) G Rp L st S q μ ρ → G 11 L st S q μ ρ) → (∀ (L st : List Value) (S : Sh) (q : Nat × Nat) (μ : Mi) (ρ : Mr), w_X11_isNoSet_15 (MS Z d) G Rp L st S q μ ρ → G 15 L st S q μ ρ) → (∀ (L st : List Value) (S : Sh) (q : Nat × Nat) (μ : Mi) (ρ : Mr), w_X11_isNoSet_16 (MS Z d) G Rp L st S q μ ρ → G 16 L st S q μ ρ) → w_X11_isNoSet_0 (MS Z d) G Rp [.int x1] [] S (0, 0) μ ρ) : MS Z (d + 1) jX11_isNoSet [.int x1] S μ ρ Rp :=
  MS_of [.int x1] (by decide +kernel) rfl rfl (Nat.le_of_ble_eq_true rfl) rfl (fun p e R s m args below meth c C => b_X11_isNoSet_0 C _ _ _ _ _ _ (h _ (b_X11_isNoSet_11 C) (b_X11_isNoSet_15 C) (b_X11_isNoSet_16 C)))
