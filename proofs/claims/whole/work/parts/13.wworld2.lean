def w_X10_whoIsUp_0 (M : CT) (G : Nat → PT) (Rp : RT) : PT := tConst 0 <| tIstore 1 <| tConst 0 <| tIstore 2 <| G 4
def w_X10_whoIsUp_4 (M : CT) (G : Nat → PT) (Rp : RT) : PT := tIload 2 <| tConst 5 <| tIf2 (fun x y => y ≤ x) (G 33) <| tAload 0 <| tGetR 10 6 0 <| tIload 2 <| tAldR 37 <| tGetI 7 18 1 <| tIf (fun x => x = 0) (G 27) <| tIload 1 <| tConst 1 <| tIload 2 <| tBin (fun x y => x <<< (y &&& 31)) <| tBin (fun x y => x ||| y) <| tIstore 1 <| G 27
def w_X10_whoIsUp_27 (M : CT) (G : Nat → PT) (Rp : RT) : PT := tIinc 2 1 <| tGoto (G 4)
def w_X10_whoIsUp_33 (M : CT) (G : Nat → PT) (Rp : RT) : PT := tIload 1 <| tIret Rp
set_option maxRecDepth 20000 in
theorem b_X10_whoIsUp_0 {Z : Zt} {d : Nat} {p : Program} {e : Env} {R : Room} {s : State} {m : MethodId} {args : Array Value} {below : List Frame} {meth : Method} {c : Code} {Rp : RT} (C : Cx Z d jX10_whoIsUp RX10 p R s m args meth c) : Sd Z jX10_whoIsUp p e R s m args below meth c (MQ below (QcS Z Rp) args s 0 0 (fun a => Z.2.2.1 < a)) 0 (w_X10_whoIsUp_0 (MS Z d) (Gw Z 3 p e R s m args below meth c (MQ below (QcS Z Rp) args s 0 0 (fun a => Z.2.2.1 < a))) Rp) := by
  unfold w_X10_whoIsUp_0
  refine s_iconst (n := 0) C (by decide +kernel) (by decide) ?_
  refine s_istore_n (k := 1) C (by decide +kernel) ?_
  refine s_iconst (n := 0) C (by decide +kernel) (by decide) ?_
  refine s_istore_n (k := 2) C (by decide +kernel) ?_
  exact (fun _ _ _ _ _ _ h => h)
set_option maxRecDepth 20000 in
theorem b_X10_whoIsUp_4 {Z : Zt} {d : Nat} {p : Program} {e : Env} {R : Room} {s : State} {m : MethodId} {args : Array Value} {below : List Frame} {meth : Method} {c : Code} {Rp : RT} (C : Cx Z d jX10_whoIsUp RX10 p R s m args meth c) : Sd Z jX10_whoIsUp p e R s m args below meth c (MQ below (QcS Z Rp) args s 0 0 (fun a => Z.2.2.1 < a)) 4 (w_X10_whoIsUp_4 (MS Z d) (Gw Z 3 p e R s m args below meth c (MQ below (QcS Z Rp) args s 0 0 (fun a => Z.2.2.1 < a))) Rp) := by
  unfold w_X10_whoIsUp_4
  refine s_iload_n (k := 2) C (by decide +kernel) ?_
  refine s_iconst (n := 5) C (by decide +kernel) (by decide) ?_
  refine s_icmp_ge (off := 27) (tgt := 33) C (by decide +kernel) (by decide) (fun _ _ _ _ _ _ h => h) ?_
  refine s_aload_n (k := 0) C (by decide +kernel) ?_
  refine s_getR C w_2_113 (by decide +kernel) rfl ?_
  refine s_iload_n (k := 2) C (by decide +kernel) ?_
  refine s_aald C rfl (by decide +kernel) ?_
  refine s_getI C w_1_224 (by decide +kernel) rfl ?_
  refine s_if_eq (off := 9) (tgt := 27) C (by decide +kernel) (by decide) (fun _ _ _ _ _ _ h => h) ?_
  refine s_iload_n (k := 1) C (by decide +kernel) ?_
  refine s_iconst (n := 1) C (by decide +kernel) (by decide) ?_
  refine s_iload_n (k := 2) C (by decide +kernel) ?_
  refine s_ishl C (by decide +kernel) ?_
  refine s_ior C (by decide +kernel) ?_
  refine s_istore_n (k := 1) C (by decide +kernel) ?_
  exact (fun _ _ _ _ _ _ h => h)
set_option maxRecDepth 20000 in
theorem b_X10_whoIsUp_27 {Z : Zt} {d : Nat} {p : Program} {e : Env} {R : Room} {s : State} {m : MethodId} {args : Array Value} {below : List Frame} {meth : Method} {c : Code} {Rp : RT} (C : Cx Z d jX10_whoIsUp RX10 p R s m args meth c) : Sd Z jX10_whoIsUp p e R s m args below meth c (MQ below (QcS Z Rp) args s 0 0 (fun a => Z.2.2.1 < a)) 27 (w_X10_whoIsUp_27 (MS Z d) (Gw Z 3 p e R s m args below meth c (MQ below (QcS Z Rp) args s 0 0 (fun a => Z.2.2.1 < a))) Rp) := by
  unfold w_X10_whoIsUp_27
  refine s_iinc (n := 1) C (by decide +kernel) (by decide) ?_
  exact s_goto (off := (-26)) (tgt := 4) C (by decide +kernel) (by decide) (fun _ _ _ _ _ _ h => h)
set_option maxRecDepth 20000 in
theorem b_X10_whoIsUp_33 {Z : Zt} {d : Nat} {p : Program} {e : Env} {R : Room} {s : State} {m : MethodId} {args : Array Value} {below : List Frame} {meth : Method} {c : Code} {Rp : RT} (C : Cx Z d jX10_whoIsUp RX10 p R s m args meth c) : Sd Z jX10_whoIsUp p e R s m args below meth c (MQ below (QcS Z Rp) args s 0 0 (fun a => Z.2.2.1 < a)) 33 (w_X10_whoIsUp_33 (MS Z d) (Gw Z 3 p e R s m args below meth c (MQ below (QcS Z Rp) args s 0 0 (fun a => Z.2.2.1 < a))) Rp) := by
  unfold w_X10_whoIsUp_33
  refine s_iload_n (k := 1) C (by decide +kernel) ?_
  exact s_iret C rfl (by decide +kernel)
theorem ms_X10_whoIsUp {Z : Zt} {d : Nat} {S : Sh} {μ : Mi} {ρ : Mr} {Rp : RT} (a0 : Nat) (h : ∀ G : Nat → PT, (∀ (L st : List Value) (S : Sh) (q : Nat × Nat) (μ : Mi) (ρ : Mr), w_X10_whoIsUp_4 (MS Z d) G Rp L st S q μ ρ → G 4 L st S q μ ρ) → (∀ (L st : List Value) (S : Sh) (q : Nat × Nat) (μ : Mi) (ρ : Mr), w_X10_whoIsUp_27 (MS Z d) G Rp L st S q μ ρ → G 27 L st S q μ ρ) → (∀ (L st : List Value) (S : Sh) (q : Nat × Nat) (μ : Mi) (ρ : Mr), w_X10_whoIsUp_33 (MS Z d) G Rp L st S q μ ρ → G 33 L st S q μ ρ) → w_X10_whoIsUp_0 (MS Z d) G Rp [.ref a0, .null, .null] [] S (0, 0) μ ρ) : MS Z (d + 1) jX10_whoIsUp [.ref a0] S μ ρ Rp :=
  MS_of [.ref a0, .null, .null] (by decide +kernel) rfl rfl (Nat.le_of_ble_eq_true rfl) rfl (fun p e R s m args below meth c C => b_X10_whoIsUp_0 C _ _ _ _ _ _ (h _ (b_X10_whoIsUp_4 C) (b_X10_whoIsUp_27 C) (b_X10_whoIsUp_33 C)))
def w_X10_takeIn_0 (M : CT) (G : Nat → PT) (Rp : RT) : PT := tAload 0 <| tGetR 10 6 1 <| tIload 1 <| tCallV M jX1_takeOut 1 6 1 <| tAstore 2 <| tAload 0 <| tAload 2 <| tCallV M jX10_canCome 10 6 1 <| tIf (fun x => x ≠ 0) (G 32) <| tAload 0 <| tGetR 10 6 1 <| tDup <| tGetI 1 6 3 <| tConst 1 <| tBin (fun x y => x + y) <| tPutI 1 6 3 <| tConst 0 <| tIret Rp
def w_X10_takeIn_32 (M : CT) (G : Nat → PT) (Rp : RT) : PT := tAload 0 <| tGetR 10 6 1 <| tDup <| tGetI 1 6 4 <| tConst 1 <| tBin (fun x y => x + y) <| tPutI 1 6 4 <| tAload 0 <| tGetR 10 6 0 <| tAload 2 <| tGetI 2 10 1 <| tAldR 37 <| tAstore 3 <| tAload 2 <| tGetI 2 10 3 <| tAload 3 <| tGetI 7 18 2 <| tIf2 (fun x y => x ≤ y) (G 83) <| tAload 2 <| tGetI 2 10 2 <| tConst 7 <| tIf2 (fun x y => y ≤ x) (G 83) <| tAload 3 <| tAload 2 <| tGetI 2 10 3 <| tCallV M jX7_fallBack 7 18 1 <| G 83
def w_X10_takeIn_83 (M : CT) (G : Nat → PT) (Rp : RT) : PT := tConst 0 <| tIstore 4 <| tAload 2 <| tGetI 2 10 2 <| tSw [(0, G 136), (1, G 145), (2, G 156), (3, G 165), (4, G 176), (5, G 185), (6, G 196), (7, G 207)] (G 216)
def w_X10_takeIn_136 (M : CT) (G : Nat → PT) (Rp : RT) : PT := tAload 0 <| tAload 3 <| tAload 2 <| tCallV M jX10_hearAsk 10 6 2 <| tGoto (G 224)
def w_X10_takeIn_145 (M : CT) (G : Nat → PT) (Rp : RT) : PT := tAload 0 <| tAload 3 <| tAload 2 <| tCallV M jX10_hearVote 10 6 2 <| tIstore 4 <| tGoto (G 224)
def w_X10_takeIn_156 (M : CT) (G : Nat → PT) (Rp : RT) : PT := tAload 0 <| tAload 3 <| tAload 2 <| tCallV M jX10_hearTake 10 6 2 <| tGoto (G 224)
def w_X10_takeIn_165 (M : CT) (G : Nat → PT) (Rp : RT) : PT := tAload 0 <| tAload 3 <| tAload 2 <| tCallV M jX10_hearTook 10 6 2 <| tIstore 4 <| tGoto (G 224)
def w_X10_takeIn_176 (M : CT) (G : Nat → PT) (Rp : RT) : PT := tAload 0 <| tAload 3 <| tAload 2 <| tCallV M jX10_hearInstall 10 6 2 <| tGoto (G 224)
def w_X10_takeIn_185 (M : CT) (G : Nat → PT) (Rp : RT) : PT := tAload 0 <| tAload 3 <| tAload 2 <| tCallV M jX10_hearInstalled 10 6 2 <| tIstore 4 <| tGoto (G 224)
def w_X10_takeIn_196 (M : CT) (G : Nat → PT) (Rp : RT) : PT := tAload 0 <| tAload 3 <| tAload 2 <| tCallV M jX10_hearNow 10 6 2 <| tIstore 4 <| tGoto (G 224)
def w_X10_takeIn_207 (M : CT) (G : Nat → PT) (Rp : RT) : PT := tAload 0 <| tAload 3 <| tAload 2 <| tCallV M jX10_hearMay 10 6 2 <| tGoto (G 224)
def w_X10_takeIn_216 (M : CT) (G : Nat → PT) (Rp : RT) : PT := tAload 0 <| tAload 3 <| tAload 2 <| tCallV M jX10_hearWould 10 6 2 <| tIstore 4 <| G 224
def w_X10_takeIn_224 (M : CT) (G : Nat → PT) (Rp : RT) : PT := tAload 0 <| tAload 3 <| tIload 4 <| tAload 2 <| tGetI 2 10 0 <| tCallV M jX10_finish 10 6 3 <| tConst 1 <| tIret Rp
set_option maxRecDepth 20000 in
theorem b_X10_takeIn_0 {Z : Zt} {d : Nat} {p : Program} {e : Env} {R : Room} {s : State} {m : MethodId} {args : Array Value} {below : List Frame} {meth : Method} {c : Code} {Rp : RT} (C : Cx Z d jX10_takeIn RX10 p R s m args meth c) : Sd Z jX10_takeIn p e R s m args below meth c (MQ below (QcS Z Rp) args s 0 0 (fun a => Z.2.2.1 < a)) 0 (w_X10_takeIn_0 (MS Z d) (Gw Z 5 p e R s m args below meth c (MQ below (QcS Z Rp) args s 0 0 (fun a => Z.2.2.1 < a))) Rp) := by
  unfold w_X10_takeIn_0
  refine s_aload_n (k := 0) C (by decide +kernel) ?_
  refine s_getR C w_2_117 (by decide +kernel) rfl ?_
  refine s_iload_n (k := 1) C (by decide +kernel) ?_
  refine s_callV C rfl rfl (by decide +kernel) rfl w_4_71 w_4_72 w_4_73 w_1_3 w_4_74 (by decide +kernel) ?_
  refine s_astore_n (k := 2) C (by decide +kernel) ?_
  refine s_aload_n (k := 0) C (by decide +kernel) ?_
  refine s_aload_n (k := 2) C (by decide +kernel) ?_
  refine s_callV C rfl rfl (by decide +kernel) rfl w_4_75 w_4_76 w_4_77 w_1_2 w_4_78 (by decide +kernel) ?_
  refine s_if_ne (off := 18) (tgt := 32) C (by decide +kernel) (by decide) (fun _ _ _ _ _ _ h => h) ?_
  refine s_aload_n (k := 0) C (by decide +kernel) ?_
  refine s_getR C w_2_117 (by decide +kernel) rfl ?_
  refine s_dup C (by decide +kernel) ?_
  refine s_getI C w_1_131 (by decide +kernel) rfl ?_
  refine s_iconst (n := 1) C (by decide +kernel) (by decide) ?_
  refine s_iadd C (by decide +kernel) ?_
  refine s_putI C w_1_131 (by decide +kernel) rfl (Or.inl rfl) ?_
  refine s_iconst (n := 0) C (by decide +kernel) (by decide) ?_
  exact s_iret C rfl (by decide +kernel)
set_option maxRecDepth 20000 in
theorem b_X10_takeIn_32 {Z : Zt} {d : Nat} {p : Program} {e : Env} {R : Room} {s : State} {m : MethodId} {args : Array Value} {below : List Frame} {meth : Method} {c : Code} {Rp : RT} (C : Cx Z d jX10_takeIn RX10 p R s m args meth c) : Sd Z jX10_takeIn p e R s m args below meth c (MQ below (QcS Z Rp) args s 0 0 (fun a => Z.2.2.1 < a)) 32 (w_X10_takeIn_32 (MS Z d) (Gw Z 5 p e R s m args below meth c (MQ below (QcS Z Rp) args s 0 0 (fun a => Z.2.2.1 < a))) Rp) := by
  unfold w_X10_takeIn_32
  refine s_aload_n (k := 0) C (by decide +kernel) ?_
  refine s_getR C w_2_117 (by decide +kernel) rfl ?_
  refine s_dup C (by decide +kernel) ?_
  refine s_getI C w_1_134 (by decide +kernel) rfl ?_
  refine s_iconst (n := 1) C (by decide +kernel) (by decide) ?_
  refine s_iadd C (by decide +kernel) ?_
  refine s_putI C w_1_134 (by decide +kernel) rfl (Or.inl rfl) ?_
  refine s_aload_n (k := 0) C (by decide +kernel) ?_
  refine s_getR C w_2_113 (by decide +kernel) rfl ?_
  refine s_aload_n (k := 2) C (by decide +kernel) ?_
  refine s_getI C w_1_60 (by decide +kernel) rfl ?_
  refine s_aald C rfl (by decide +kernel) ?_
  refine s_astore_n (k := 3) C (by decide +kernel) ?_
  refine s_aload_n (k := 2) C (by decide +kernel) ?_
  refine s_getI C w_1_69 (by decide +kernel) rfl ?_
  refine s_aload_n (k := 3) C (by decide +kernel) ?_
  refine s_getI C w_1_227 (by decide +kernel) rfl ?_
  refine s_icmp_le (off := 20) (tgt := 83) C (by decide +kernel) (by decide) (fun _ _ _ _ _ _ h => h) ?_
  refine s_aload_n (k := 2) C (by decide +kernel) ?_
  refine s_getI C w_1_65 (by decide +kernel) rfl ?_
  refine s_bipush (n := 7) C (by decide +kernel) (by decide) ?_
  refine s_icmp_ge (off := 11) (tgt := 83) C (by decide +kernel) (by decide) (fun _ _ _ _ _ _ h => h) ?_
  refine s_aload_n (k := 3) C (by decide +kernel) ?_
  refine s_aload_n (k := 2) C (by decide +kernel) ?_
  refine s_getI C w_1_69 (by decide +kernel) rfl ?_
  refine s_callV C rfl rfl (by decide +kernel) rfl w_4_79 w_4_80 w_4_81 w_1_5 w_4_82 (by decide +kernel) ?_
  exact (fun _ _ _ _ _ _ h => h)
set_option maxRecDepth 20000 in
theorem b_X10_takeIn_83 {Z : Zt} {d : Nat} {p : Program} {e : Env} {R : Room} {s : State} {m : MethodId} {args : Array Value} {below : List Frame} {meth : Method} {c : Code} {Rp : RT} (C : Cx Z d jX10_takeIn RX10 p R s m args meth c) : Sd Z jX10_takeIn p e R s m args below meth c (MQ below (QcS Z Rp) args s 0 0 (fun a => Z.2.2.1 < a)) 83 (w_X10_takeIn_83 (MS Z d) (Gw Z 5 p e R s m args below meth c (MQ below (QcS Z Rp) args s 0 0 (fun a => Z.2.2.1 < a))) Rp) := by
  unfold w_X10_takeIn_83
  refine s_iconst (n := 0) C (by decide +kernel) (by decide) ?_
  refine s_istore (k := 4) C (by decide +kernel) ?_
  refine s_aload_n (k := 2) C (by decide +kernel) ?_
  refine s_getI C w_1_65 (by decide +kernel) rfl ?_
  refine s_tsw (df := 126) (lo := 0) (hi := 7) (offs := #[46, 55, 66, 75, 86, 95, 106, 117]) (len := 46) (tgt := 216) C (by decide +kernel) (by decide) (fun _ _ _ _ _ _ h => h) (fun i r h => ?_) (fun x h => tsw_out 8 x (fun q hq => ?_))
  · match i, h with
    | 0, h => cases h; dsimp only; exact ⟨by decide, by decide, 46, 136, by rfl, by decide, (fun _ _ _ _ _ _ h => h)⟩
    | 1, h => cases h; dsimp only; exact ⟨by decide, by decide, 55, 145, by rfl, by decide, (fun _ _ _ _ _ _ h => h)⟩
    | 2, h => cases h; dsimp only; exact ⟨by decide, by decide, 66, 156, by rfl, by decide, (fun _ _ _ _ _ _ h => h)⟩
    | 3, h => cases h; dsimp only; exact ⟨by decide, by decide, 75, 165, by rfl, by decide, (fun _ _ _ _ _ _ h => h)⟩
    | 4, h => cases h; dsimp only; exact ⟨by decide, by decide, 86, 176, by rfl, by decide, (fun _ _ _ _ _ _ h => h)⟩
    | 5, h => cases h; dsimp only; exact ⟨by decide, by decide, 95, 185, by rfl, by decide, (fun _ _ _ _ _ _ h => h)⟩
    | 6, h => cases h; dsimp only; exact ⟨by decide, by decide, 106, 196, by rfl, by decide, (fun _ _ _ _ _ _ h => h)⟩
    | 7, h => cases h; dsimp only; exact ⟨by decide, by decide, 117, 207, by rfl, by decide, (fun _ _ _ _ _ _ h => h)⟩
    | q + 8, h => simp at h
  · match q, hq with
    | 0, _ => exact h _ (List.mem_of_getElem? (i := 0) rfl)
    | 1, _ => exact h _ (List.mem_of_getElem? (i := 1) rfl)
    | 2, _ => exact h _ (List.mem_of_getElem? (i := 2) rfl)
    | 3, _ => exact h _ (List.mem_of_getElem? (i := 3) rfl)
    | 4, _ => exact h _ (List.mem_of_getElem? (i := 4) rfl)
    | 5, _ => exact h _ (List.mem_of_getElem? (i := 5) rfl)
    | 6, _ => exact h _ (List.mem_of_getElem? (i := 6) rfl)
    | 7, _ => exact h _ (List.mem_of_getElem? (i := 7) rfl)
    | q + 8, hq => exact absurd hq (by omega)
set_option maxRecDepth 20000 in
theorem b_X10_takeIn_136 {Z : Zt} {d : Nat} {p : Program} {e : Env} {R : Room} {s : State} {m : MethodId} {args : Array Value} {below : List Frame} {meth : Method} {c : Code} {Rp : RT} (C : Cx Z d jX10_takeIn RX10 p R s m args meth c) : Sd Z jX10_takeIn p e R s m args below meth c (MQ below (QcS Z Rp) args s 0 0 (fun a => Z.2.2.1 < a)) 136 (w_X10_takeIn_136 (MS Z d) (Gw Z 5 p e R s m args below meth c (MQ below (QcS Z Rp) args s 0 0 (fun a => Z.2.2.1 < a))) Rp) := by
  unfold w_X10_takeIn_136
  refine s_aload_n (k := 0) C (by decide +kernel) ?_
  refine s_aload_n (k := 3) C (by decide +kernel) ?_
  refine s_aload_n (k := 2) C (by decide +kernel) ?_
  refine s_callV C rfl rfl (by decide +kernel) rfl w_4_83 w_4_85 w_p1_14 w_1_2 w_4_86 (by decide +kernel) ?_
  exact s_goto (off := 82) (tgt := 224) C (by decide +kernel) (by decide) (fun _ _ _ _ _ _ h => h)
set_option maxRecDepth 20000 in
theorem b_X10_takeIn_145 {Z : Zt} {d : Nat} {p : Program} {e : Env} {R : Room} {s : State} {m : MethodId} {args : Array Value} {below : List Frame} {meth : Method} {c : Code} {Rp : RT} (C : Cx Z d jX10_takeIn RX10 p R s m args meth c) : Sd Z jX10_takeIn p e R s m args below meth c (MQ below (QcS Z Rp) args s 0 0 (fun a => Z.2.2.1 < a)) 145 (w_X10_takeIn_145 (MS Z d) (Gw Z 5 p e R s m args below meth c (MQ below (QcS Z Rp) args s 0 0 (fun a => Z.2.2.1 < a))) Rp) := by
  unfold w_X10_takeIn_145
  refine s_aload_n (k := 0) C (by decide +kernel) ?_
  refine s_aload_n (k := 3) C (by decide +kernel) ?_
  refine s_aload_n (k := 2) C (by decide +kernel) ?_
  refine s_callV C rfl rfl (by decide +kernel) rfl w_4_91 w_4_93 w_p1_15 w_1_2 w_4_94 (by decide +kernel) ?_
  refine s_istore (k := 4) C (by decide +kernel) ?_
  exact s_goto (off := 71) (tgt := 224) C (by decide +kernel) (by decide) (fun _ _ _ _ _ _ h => h)
set_option maxRecDepth 20000 in
theorem b_X10_takeIn_156 {Z : Zt} {d : Nat} {p : Program} {e : Env} {R : Room} {s : State} {m : MethodId} {args : Array Value} {below : List Frame} {meth : Method} {c : Code} {Rp : RT} (C : Cx Z d jX10_takeIn RX10 p R s m args meth c) : Sd Z jX10_takeIn p e R s m args below meth c (MQ below (QcS Z Rp) args s 0 0 (fun a => Z.2.2.1 < a)) 156 (w_X10_takeIn_156 (MS Z d) (Gw Z 5 p e R s m args below meth c (MQ below (QcS Z Rp) args s 0 0 (fun a => Z.2.2.1 < a))) Rp) := by
  unfold w_X10_takeIn_156
  refine s_aload_n (k := 0) C (by decide +kernel) ?_
  refine s_aload_n (k := 3) C (by decide +kernel) ?_
  refine s_aload_n (k := 2) C (by decide +kernel) ?_
  refine s_callV C rfl rfl (by decide +kernel) rfl w_4_95 w_4_97 w_p2_0 w_1_2 w_4_98 (by decide +kernel) ?_
  exact s_goto (off := 62) (tgt := 224) C (by decide +kernel) (by decide) (fun _ _ _ _ _ _ h => h)
set_option maxRecDepth 20000 in
theorem b_X10_takeIn_165 {Z : Zt} {d : Nat} {p : Program} {e : Env} {R : Room} {s : State} {m : MethodId} {args : Array Value} {below : List Frame} {meth : Method} {c : Code} {Rp : RT} (C : Cx Z d jX10_takeIn RX10 p R s m args meth c) : Sd Z jX10_takeIn p e R s m args below meth c (MQ below (QcS Z Rp) args s 0 0 (fun a => Z.2.2.1 < a)) 165 (w_X10_takeIn_165 (MS Z d) (Gw Z 5 p e R s m args below meth c (MQ below (QcS Z Rp) args s 0 0 (fun a => Z.2.2.1 < a))) Rp) := by
  unfold w_X10_takeIn_165
  refine s_aload_n (k := 0) C (by decide +kernel) ?_
  refine s_aload_n (k := 3) C (by decide +kernel) ?_
  refine s_aload_n (k := 2) C (by decide +kernel) ?_
  refine s_callV C rfl rfl (by decide +kernel) rfl w_4_105 w_4_107 w_p2_1 w_1_2 w_4_108 (by decide +kernel) ?_
  refine s_istore (k := 4) C (by decide +kernel) ?_
  exact s_goto (off := 51) (tgt := 224) C (by decide +kernel) (by decide) (fun _ _ _ _ _ _ h => h)
set_option maxRecDepth 20000 in
theorem b_X10_takeIn_176 {Z : Zt} {d : Nat} {p : Program} {e : Env} {R : Room} {s : State} {m : MethodId} {args : Array Value} {below : List Frame} {meth : Method} {c : Code} {Rp : RT} (C : Cx Z d jX10_takeIn RX10 p R s m args meth c) : Sd Z jX10_takeIn p e R s m args below meth c (MQ below (QcS Z Rp) args s 0 0 (fun a => Z.2.2.1 < a)) 176 (w_X10_takeIn_176 (MS Z d) (Gw Z 5 p e R s m args below meth c (MQ below (QcS Z Rp) args s 0 0 (fun a => Z.2.2.1 < a))) Rp) := by
  unfold w_X10_takeIn_176
  refine s_aload_n (k := 0) C (by decide +kernel) ?_
  refine s_aload_n (k := 3) C (by decide +kernel) ?_
  refine s_aload_n (k := 2) C (by decide +kernel) ?_
  refine s_callV C rfl rfl (by decide +kernel) rfl w_4_114 w_4_116 w_p2_2 w_1_2 w_4_117 (by decide +kernel) ?_
  exact s_goto (off := 42) (tgt := 224) C (by decide +kernel) (by decide) (fun _ _ _ _ _ _ h => h)
set_option maxRecDepth 20000 in
theorem b_X10_takeIn_185 {Z : Zt} {d : Nat} {p : Program} {e : Env} {R : Room} {s : State} {m : MethodId} {args : Array Value} {below : List Frame} {meth : Method} {c : Code} {Rp : RT} (C : Cx Z d jX10_takeIn RX10 p R s m args meth c) : Sd Z jX10_takeIn p e R s m args below meth c (MQ below (QcS Z Rp) args s 0 0 (fun a => Z.2.2.1 < a)) 185 (w_X10_takeIn_185 (MS Z d) (Gw Z 5 p e R s m args below meth c (MQ below (QcS Z Rp) args s 0 0 (fun a => Z.2.2.1 < a))) Rp) := by
  unfold w_X10_takeIn_185
  refine s_aload_n (k := 0) C (by decide +kernel) ?_
  refine s_aload_n (k := 3) C (by decide +kernel) ?_
  refine s_aload_n (k := 2) C (by decide +kernel) ?_
  refine s_callV C rfl rfl (by decide +kernel) rfl w_4_122 w_4_124 w_p2_3 w_1_2 w_4_125 (by decide +kernel) ?_
  refine s_istore (k := 4) C (by decide +kernel) ?_
  exact s_goto (off := 31) (tgt := 224) C (by decide +kernel) (by decide) (fun _ _ _ _ _ _ h => h)
set_option maxRecDepth 20000 in
theorem b_X10_takeIn_196 {Z : Zt} {d : Nat} {p : Program} {e : Env} {R : Room} {s : State} {m : MethodId} {args : Array Value} {below : List Frame} {meth : Method} {c : Code} {Rp : RT} (C : Cx Z d jX10_takeIn RX10 p R s m args meth c) : Sd Z jX10_takeIn p e R s m args below meth c (MQ below (QcS Z Rp) args s 0 0 (fun a => Z.2.2.1 < a)) 196 (w_X10_takeIn_196 (MS Z d) (Gw Z 5 p e R s m args below meth c (MQ below (QcS Z Rp) args s 0 0 (fun a => Z.2.2.1 < a))) Rp) := by
  unfold w_X10_takeIn_196
  refine s_aload_n (k := 0) C (by decide +kernel) ?_
  refine s_aload_n (k := 3) C (by decide +kernel) ?_
  refine s_aload_n (k := 2) C (by decide +kernel) ?_
  refine s_callV C rfl rfl (by decide +kernel) rfl w_4_126 w_4_128 w_p2_4 w_1_2 w_4_129 (by decide +kernel) ?_
  refine s_istore (k := 4) C (by decide +kernel) ?_
  exact s_goto (off := 20) (tgt := 224) C (by decide +kernel) (by decide) (fun _ _ _ _ _ _ h => h)
set_option maxRecDepth 20000 in
theorem b_X10_takeIn_207 {Z : Zt} {d : Nat} {p : Program} {e : Env} {R : Room} {s : State} {m : MethodId} {args : Array Value} {below : List Frame} {meth : Method} {c : Code} {Rp : RT} (C : Cx Z d jX10_takeIn RX10 p R s m args meth c) : Sd Z jX10_takeIn p e R s m args below meth c (MQ below (QcS Z Rp) args s 0 0 (fun a => Z.2.2.1 < a)) 207 (w_X10_takeIn_207 (MS Z d) (Gw Z 5 p e R s m args below meth c (MQ below (QcS Z Rp) args s 0 0 (fun a => Z.2.2.1 < a))) Rp) := by
  unfold w_X10_takeIn_207
  refine s_aload_n (k := 0) C (by decide +kernel) ?_
  refine s_aload_n (k := 3) C (by decide +kernel) ?_
  refine s_aload_n (k := 2) C (by decide +kernel) ?_
  refine s_callV C rfl rfl (by decide +kernel) rfl w_4_130 w_4_132 w_p2_5 w_1_2 w_4_133 (by decide +kernel) ?_
  exact s_goto (off := 11) (tgt := 224) C (by decide +kernel) (by decide) (fun _ _ _ _ _ _ h => h)
set_option maxRecDepth 20000 in
theorem b_X10_takeIn_216 {Z : Zt} {d : Nat} {p : Program} {e : Env} {R : Room} {s : State} {m : MethodId} {args : Array Value} {below : List Frame} {meth : Method} {c : Code} {Rp : RT} (C : Cx Z d jX10_takeIn RX10 p R s m args meth c) : Sd Z jX10_takeIn p e R s m args below meth c (MQ below (QcS Z Rp) args s 0 0 (fun a => Z.2.2.1 < a)) 216 (w_X10_takeIn_216 (MS Z d) (Gw Z 5 p e R s m args below meth c (MQ below (QcS Z Rp) args s 0 0 (fun a => Z.2.2.1 < a))) Rp) := by
  unfold w_X10_takeIn_216
  refine s_aload_n (k := 0) C (by decide +kernel) ?_
  refine s_aload_n (k := 3) C (by decide +kernel) ?_
  refine s_aload_n (k := 2) C (by decide +kernel) ?_
  refine s_callV C rfl rfl (by decide +kernel) rfl w_4_134 w_4_136 w_p2_6 w_1_2 w_4_137 (by decide +kernel) ?_
  refine s_istore (k := 4) C (by decide +kernel) ?_
  exact (fun _ _ _ _ _ _ h => h)
set_option maxRecDepth 20000 in
theorem b_X10_takeIn_224 {Z : Zt} {d : Nat} {p : Program} {e : Env} {R : Room} {s : State} {m : MethodId} {args : Array Value} {below : List Frame} {meth : Method} {c : Code} {Rp : RT} (C : Cx Z d jX10_takeIn RX10 p R s m args meth c) : Sd Z jX10_takeIn p e R s m args below meth c (MQ below (QcS Z Rp) args s 0 0 (fun a => Z.2.2.1 < a)) 224 (w_X10_takeIn_224 (MS Z d) (Gw Z 5 p e R s m args below meth c (MQ below (QcS Z Rp) args s 0 0 (fun a => Z.2.2.1 < a))) Rp) := by
  unfold w_X10_takeIn_224
  refine s_aload_n (k := 0) C (by decide +kernel) ?_
  refine s_aload_n (k := 3) C (by decide +kernel) ?_
  refine s_iload (k := 4) C (by decide +kernel) ?_
  refine s_aload_n (k := 2) C (by decide +kernel) ?_
  refine s_getI C w_1_55 (by decide +kernel) rfl ?_
  refine s_callV C rfl rfl (by decide +kernel) rfl w_3_138 w_3_140 w_p1_5 w_1_2 w_3_141 (by decide +kernel) ?_
  refine s_iconst (n := 1) C (by decide +kernel) (by decide) ?_
  exact s_iret C rfl (by decide +kernel)
theorem ms_X10_takeIn {Z : Zt} {d : Nat} {S : Sh} {μ : Mi} {ρ : Mr} {Rp : RT} (a0 : Nat) (x1 : Int32) (h : ∀ G : Nat → PT, (∀ (L st : List Value) (S : Sh) (q : Nat × Nat) (μ : Mi) (ρ : Mr), w_X10_takeIn_32 (MS Z d) G Rp L st S q μ ρ → G 32 L st S q μ ρ) → (∀ (L st : List Value) (S : Sh) (q : Nat × Nat) (μ : Mi) (ρ : Mr), w_X10_takeIn_83 (MS Z d) G Rp L st S q μ ρ → G 83 L st S q μ ρ) → (∀ (L st : List Value) (S : Sh) (q : Nat × Nat) (μ : Mi) (ρ : Mr), w_X10_takeIn_136 (MS Z d) G Rp L st S q μ ρ → G 136 L st S q μ ρ) → (∀ (L st : List Value) (S : Sh) (q : Nat × Nat) (μ : Mi) (ρ : Mr), w_X10_takeIn_145 (MS Z d) G Rp L st S q μ ρ → G 145 L st S q μ ρ) → (∀ (L st : List Value) (S : Sh) (q : Nat × Nat) (μ : Mi) (ρ : Mr), w_X10_takeIn_156 (MS Z d) G Rp L st S q μ ρ → G 156 L st S q μ ρ) → (∀ (L st : List Value) (S : Sh) (q : Nat × Nat) (μ : Mi) (ρ : Mr), w_X10_takeIn_165 (MS Z d) G Rp L st S q μ ρ → G 165 L st S q μ ρ) → (∀ (L st : List Value) (S : Sh) (q : Nat × Nat) (μ : Mi) (ρ : Mr), w_X10_takeIn_176 (MS Z d) G Rp L st S q μ ρ → G 176 L st S q μ ρ) → (∀ (L st : List Value) (S : Sh) (q : Nat × Nat) (μ : Mi) (ρ : Mr), w_X10_takeIn_185 (MS Z d) G Rp L st S q μ ρ → G 185 L st S q μ ρ) → (∀ (L st : List Value) (S : Sh) (q : Nat × Nat) (μ : Mi) (ρ : Mr), w_X10_takeIn_196 (MS Z d) G Rp L st S q μ ρ → G 196 L st S q μ ρ) → (∀ (L st : List Value) (S : Sh) (q : Nat × Nat) (μ : Mi) (ρ : Mr), w_X10_takeIn_207 (MS Z d) G Rp L st S q μ ρ → G 207 L st S q μ ρ) → (∀ (L st : List Value) (S : Sh) (q : Nat × Nat) (μ : Mi) (ρ : Mr), w_X10_takeIn_216 (MS Z d) G Rp L st S q μ ρ → G 216 L st S q μ ρ) → (∀ (L st : List Value) (S : Sh) (q : Nat × Nat) (μ : Mi) (ρ : Mr), w_X10_takeIn_224 (MS Z d) G Rp L st S q μ ρ → G 224 L st S q μ ρ) → w_X10_takeIn_0 (MS Z d) G Rp [.ref a0, .int x1, .null, .null, .null] [] S (0, 0) μ ρ) : MS Z (d + 1) jX10_takeIn [.ref a0, .int x1] S μ ρ Rp :=
  MS_of [.ref a0, .int x1, .null, .null, .null] (by decide +kernel) rfl rfl (Nat.le_of_ble_eq_true rfl) rfl (fun p e R s m args below meth c C => b_X10_takeIn_0 C _ _ _ _ _ _ (h _ (b_X10_takeIn_32 C) (b_X10_takeIn_83 C) (b_X10_takeIn_136 C) (b_X10_takeIn_145 C) (b_X10_takeIn_156 C) (b_X10_takeIn_165 C) (b_X10_takeIn_176 C) (b_X10_takeIn_185 C) (b_X10_takeIn_196 C) (b_X10_takeIn_207 C) (b_X10_takeIn_216 C) (b_X10_takeIn_224 C)))
def w_X10_hearAsk_0 (M : CT) (G : Nat → PT) (Rp : RT) : PT := tAload 1 <| tGetI 7 18 3 <| tConst (-1) <| tIf2 (fun x y => x = y) (G 19) <| tAload 1 <| tGetI 7 18 3 <| tAload 2 <| tGetI 2 10 0 <| tIf2 (fun x y => x ≠ y) (G 23) <| G 19
def w_X10_hearAsk_19 (M : CT) (G : Nat → PT) (Rp : RT) : PT := tConst 1 <| tGoto (G 24)
def w_X10_hearAsk_23 (M : CT) (G : Nat → PT) (Rp : RT) : PT := tConst 0 <| G 24
def w_X10_hearAsk_24 (M : CT) (G : Nat → PT) (Rp : RT) : PT := tIstore 3 <| tAload 2 <| tGetI 2 10 3 <| tAload 1 <| tGetI 7 18 2 <| tIf2 (fun x y => x < y) (G 59) <| tIload 3 <| tIf (fun x => x = 0) (G 59) <| tAload 1 <| tAload 2 <| tGetI 2 10 5 <| tAload 2 <| tGetI 2 10 4 <| tCallV M jX7_findsFresh 7 18 2 <| tIf (fun x => x = 0) (G 59) <| tConst 1 <| tGoto (G 60)
def w_X10_hearAsk_59 (M : CT) (G : Nat → PT) (Rp : RT) : PT := tConst 0 <| G 60
def w_X10_hearAsk_60 (M : CT) (G : Nat → PT) (Rp : RT) : PT := tIstore 4 <| tIload 4 <| tIf (fun x => x = 0) (G 75) <| tAload 1 <| tAload 2 <| tGetI 2 10 0 <| tPutI 7 18 3 <| G 75
def w_X10_hearAsk_75 (M : CT) (G : Nat → PT) (Rp : RT) : PT := tAload 0 <| tGetR 10 6 1 <| tAload 1 <| tGetI 7 18 0 <| tAload 2 <| tGetI 2 10 0 <| tConst 1 <| tAload 1 <| tGetI 7 18 2 <| tCallV M jX1_post 1 6 4 <| tIload 4 <| tIf (fun x => x = 0) (G 104) <| tConst 1 <| tGoto (G 105)
def w_X10_hearAsk_104 (M : CT) (G : Nat → PT) (Rp : RT) : PT := tConst 0 <| G 105
def w_X10_hearAsk_105 (M : CT) (G : Nat → PT) (Rp : RT) : PT := tPutI 2 10 4 <| tVret Rp
set_option maxRecDepth 20000 in
theorem b_X10_hearAsk_0 {Z : Zt} {d : Nat} {p : Program} {e : Env} {R : Room} {s : State} {m : MethodId} {args : Array Value} {below : List Frame} {meth : Method} {c : Code} {Rp : RT} (C : Cx Z d jX10_hearAsk RX10 p R s m args meth c) : Sd Z jX10_hearAsk p e R s m args below meth c (MQ below (QcS Z Rp) args s 0 0 (fun a => Z.2.2.1 < a)) 0 (w_X10_hearAsk_0 (MS Z d) (Gw Z 5 p e R s m args below meth c (MQ below (QcS Z Rp) args s 0 0 (fun a => Z.2.2.1 < a))) Rp) := by
  unfold w_X10_hearAsk_0
  refine s_aload_n (k := 1) C (by decide +kernel) ?_
  refine s_getI C w_1_230 (by decide +kernel) rfl ?_
  refine s_iconst (n := (-1)) C (by decide +kernel) (by decide) ?_
  refine s_icmp_eq (off := 14) (tgt := 19) C (by decide +kernel) (by decide) (fun _ _ _ _ _ _ h => h) ?_
  refine s_aload_n (k := 1) C (by decide +kernel) ?_
  refine s_getI C w_1_230 (by decide +kernel) rfl ?_
  refine s_aload_n (k := 2) C (by decide +kernel) ?_
  refine s_getI C w_1_55 (by decide +kernel) rfl ?_
  refine s_icmp_ne (off := 7) (tgt := 23) C (by decide +kernel) (by decide) (fun _ _ _ _ _ _ h => h) ?_
  exact (fun _ _ _ _ _ _ h => h)
set_option maxRecDepth 20000 in
theorem b_X10_hearAsk_19 {Z : Zt} {d : Nat} {p : Program} {e : Env} {R : Room} {s : State} {m : MethodId} {args : Array Value} {below : List Frame} {meth : Method} {c : Code} {Rp : RT} (C : Cx Z d jX10_hearAsk RX10 p R s m args meth c) : Sd Z jX10_hearAsk p e R s m args below meth c (MQ below (QcS Z Rp) args s 0 0 (fun a => Z.2.2.1 < a)) 19 (w_X10_hearAsk_19 (MS Z d) (Gw Z 5 p e R s m args below meth c (MQ below (QcS Z Rp) args s 0 0 (fun a => Z.2.2.1 < a))) Rp) := by
  unfold w_X10_hearAsk_19
  refine s_iconst (n := 1) C (by decide +kernel) (by decide) ?_
  exact s_goto (off := 4) (tgt := 24) C (by decide +kernel) (by decide) (fun _ _ _ _ _ _ h => h)
set_option maxRecDepth 20000 in
theorem b_X10_hearAsk_23 {Z : Zt} {d : Nat} {p : Program} {e : Env} {R : Room} {s : State} {m : MethodId} {args : Array Value} {below : List Frame} {meth : Method} {c : Code} {Rp : RT} (C : Cx Z d jX10_hearAsk RX10 p R s m args meth c) : Sd Z jX10_hearAsk p e R s m args below meth c (MQ below (QcS Z Rp) args s 0 0 (fun a => Z.2.2.1 < a)) 23 (w_X10_hearAsk_23 (MS Z d) (Gw Z 5 p e R s m args below meth c (MQ below (QcS Z Rp) args s 0 0 (fun a => Z.2.2.1 < a))) Rp) := by
  unfold w_X10_hearAsk_23
  refine s_iconst (n := 0) C (by decide +kernel) (by decide) ?_
  exact (fun _ _ _ _ _ _ h => h)
set_option maxRecDepth 20000 in
theorem b_X10_hearAsk_24 {Z : Zt} {d : Nat} {p : Program} {e : Env} {R : Room} {s : State} {m : MethodId} {args : Array Value} {below : List Frame} {meth : Method} {c : Code} {Rp : RT} (C : Cx Z d jX10_hearAsk RX10 p R s m args meth c) : Sd Z jX10_hearAsk p e R s m args below meth c (MQ below (QcS Z Rp) args s 0 0 (fun a => Z.2.2.1 < a)) 24 (w_X10_hearAsk_24 (MS Z d) (Gw Z 5 p e R s m args below meth c (MQ below (QcS Z Rp) args s 0 0 (fun a => Z.2.2.1 < a))) Rp) := by
  unfold w_X10_hearAsk_24
  refine s_istore_n (k := 3) C (by decide +kernel) ?_
  refine s_aload_n (k := 2) C (by decide +kernel) ?_
  refine s_getI C w_1_69 (by decide +kernel) rfl ?_
  refine s_aload_n (k := 1) C (by decide +kernel) ?_
  refine s_getI C w_1_227 (by decide +kernel) rfl ?_
  refine s_icmp_lt (off := 26) (tgt := 59) C (by decide +kernel) (by decide) (fun _ _ _ _ _ _ h => h) ?_
  refine s_iload_n (k := 3) C (by decide +kernel) ?_
  refine s_if_eq (off := 22) (tgt := 59) C (by decide +kernel) (by decide) (fun _ _ _ _ _ _ h => h) ?_
  refine s_aload_n (k := 1) C (by decide +kernel) ?_
  refine s_aload_n (k := 2) C (by decide +kernel) ?_
  refine s_getI C w_1_79 (by decide +kernel) rfl ?_
  refine s_aload_n (k := 2) C (by decide +kernel) ?_
  refine s_getI C w_1_74 (by decide +kernel) rfl ?_
  refine s_callV C rfl rfl (by decide +kernel) rfl w_4_87 w_4_88 w_4_89 w_1_5 w_4_90 (by decide +kernel) ?_
  refine s_if_eq (off := 7) (tgt := 59) C (by decide +kernel) (by decide) (fun _ _ _ _ _ _ h => h) ?_
  refine s_iconst (n := 1) C (by decide +kernel) (by decide) ?_
  exact s_goto (off := 4) (tgt := 60) C (by decide +kernel) (by decide) (fun _ _ _ _ _ _ h => h)
set_option maxRecDepth 20000 in
theorem b_X10_hearAsk_59 {Z : Zt} {d : Nat} {p : Program} {e : Env} {R : Room} {s : State} {m : MethodId} {args : Array Value} {below : List Frame} {meth : Method} {c : Code} {Rp : RT} (C : Cx Z d jX10_hearAsk RX10 p R s m args meth c) : Sd Z jX10_hearAsk p e R s m args below meth c (MQ below (QcS Z Rp) args s 0 0 (fun a => Z.2.2.1 < a)) 59 (w_X10_hearAsk_59 (MS Z d) (Gw Z 5 p e R s m args below meth c (MQ below (QcS Z Rp) args s 0 0 (fun a => Z.2.2.1 < a))) Rp) := by
  unfold w_X10_hearAsk_59
  refine s_iconst (n := 0) C (by decide +kernel) (by decide) ?_
  exact (fun _ _ _ _ _ _ h => h)
set_option maxRecDepth 20000 in
theorem b_X10_hearAsk_60 {Z : Zt} {d : Nat} {p : Program} {e : Env} {R : Room} {s : State} {m : MethodId} {args : Array Value} {below : List Frame} {meth : Method} {c : Code} {Rp : RT} (C : Cx Z d jX10_hearAsk RX10 p R s m args meth c) : Sd Z jX10_hearAsk p e R s m args below meth c (MQ below (QcS Z Rp) args s 0 0 (fun a => Z.2.2.1 < a)) 60 (w_X10_hearAsk_60 (MS Z d) (Gw Z 5 p e R s m args below meth c (MQ below (QcS Z Rp) args s 0 0 (fun a => Z.2.2.1 < a))) Rp) := by
  unfold w_X10_hearAsk_60
  refine s_istore (k := 4) C (by decide +kernel) ?_
  refine s_iload (k := 4) C (by decide +kernel) ?_
  refine s_if_eq (off := 11) (tgt := 75) C (by decide +kernel) (by decide) (fun _ _ _ _ _ _ h => h) ?_
  refine s_aload_n (k := 1) C (by decide +kernel) ?_
  refine s_aload_n (k := 2) C (by decide +kernel) ?_
  refine s_getI C w_1_55 (by decide +kernel) rfl ?_
  refine s_putI C w_1_230 (by decide +kernel) rfl (Or.inl rfl) ?_
  exact (fun _ _ _ _ _ _ h => h)
set_option maxRecDepth 20000 in
theorem b_X10_hearAsk_75 {Z : Zt} {d : Nat} {p : Program} {e : Env} {R : Room} {s : State} {m : MethodId} {args : Array Value} {below : List Frame} {meth : Method} {c : Code} {Rp : RT} (C : Cx Z d jX10_hearAsk RX10 p R s m args meth c) : Sd Z jX10_hearAsk p e R s m args below meth c (MQ below (QcS Z Rp) args s 0 0 (fun a => Z.2.2.1 < a)) 75 (w_X10_hearAsk_75 (MS Z d) (Gw Z 5 p e R s m args below meth c (MQ below (QcS Z Rp) args s 0 0 (fun a => Z.2.2.1 < a))) Rp) := by
  unfold w_X10_hearAsk_75
  refine s_aload_n (k := 0) C (by decide +kernel) ?_
  refine s_getR C w_2_117 (by decide +kernel) rfl ?_
  refine s_aload_n (k := 1) C (by decide +kernel) ?_
  refine s_getI C w_1_221 (by decide +kernel) rfl ?_
  refine s_aload_n (k := 2) C (by decide +kernel) ?_
  refine s_getI C w_1_55 (by decide +kernel) rfl ?_
  refine s_iconst (n := 1) C (by decide +kernel) (by decide) ?_
  refine s_aload_n (k := 1) C (by decide +kernel) ?_
  refine s_getI C w_1_227 (by decide +kernel) rfl ?_
  refine s_callV C rfl rfl (by decide +kernel) rfl w_3_125 w_3_126 w_3_127 w_1_3 w_3_128 (by decide +kernel) ?_
  refine s_iload (k := 4) C (by decide +kernel) ?_
  refine s_if_eq (off := 7) (tgt := 104) C (by decide +kernel) (by decide) (fun _ _ _ _ _ _ h => h) ?_
  refine s_iconst (n := 1) C (by decide +kernel) (by decide) ?_
  exact s_goto (off := 4) (tgt := 105) C (by decide +kernel) (by decide) (fun _ _ _ _ _ _ h => h)
set_option maxRecDepth 20000 in
theorem b_X10_hearAsk_104 {Z : Zt} {d : Nat} {p : Program} {e : Env} {R : Room} {s : State} {m : MethodId} {args : Array Value} {below : List Frame} {meth : Method} {c : Code} {Rp : RT} (C : Cx Z d jX10_hearAsk RX10 p R s m args meth c) : Sd Z jX10_hearAsk p e R s m args below meth c (MQ below (QcS Z Rp) args s 0 0 (fun a => Z.2.2.1 < a)) 104 (w_X10_hearAsk_104 (MS Z d) (Gw Z 5 p e R s m args below meth c (MQ below (QcS Z Rp) args s 0 0 (fun a => Z.2.2.1 < a))) Rp) := by
  unfold w_X10_hearAsk_104
  refine s_iconst (n := 0) C (by decide +kernel) (by decide) ?_
  exact (fun _ _ _ _ _ _ h => h)
set_option maxRecDepth 20000 in
theorem b_X10_hearAsk_105 {Z : Zt} {d : Nat} {p : Program} {e : Env} {R : Room} {s : State} {m : MethodId} {args : Array Value} {below : List Frame} {meth : Method} {c : Code} {Rp : RT} (C : Cx Z d jX10_hearAsk RX10 p R s m args meth c) : Sd Z jX10_hearAsk p e R s m args below meth c (MQ below (QcS Z Rp) args s 0 0 (fun a => Z.2.2.1 < a)) 105 (w_X10_hearAsk_105 (MS Z d) (Gw Z 5 p e R s m args below meth c (MQ below (QcS Z Rp) args s 0 0 (fun a => Z.2.2.1 < a))) Rp) := by
  unfold w_X10_hearAsk_105
  refine s_putI C w_1_74 (by decide +kernel) rfl (Or.inl rfl) ?_
  exact s_vret C rfl (by decide +kernel)
theorem ms_X10_hearAsk {Z : Zt} {d : Nat} {S : Sh} {μ : Mi} {ρ : Mr} {Rp : RT} (a0 : Nat) (a1 : Nat) (a2 : Nat) (h : ∀ G : Nat → PT, (∀ (L st : List Value) (S : Sh) (q : Nat × Nat) (μ : Mi) (ρ : Mr), w_X10_hearAsk_19 (MS Z d) G Rp L st S q μ ρ → G 19 L st S q μ ρ) → (∀ (L st : List Value) (S : Sh) (q : Nat × Nat) (μ : Mi) (ρ : Mr), w_X10_hearAsk_23 (MS Z d) G Rp L st S q μ ρ → G 23 L st S q μ ρ) → (∀ (L st : List Value) (S : Sh) (q : Nat × Nat) (μ : Mi) (ρ : Mr), w_X10_hearAsk_24 (MS Z d) G Rp L st S q μ ρ → G 24 L st S q μ ρ) → (∀ (L st : List Value) (S : Sh) (q : Nat × Nat) (μ : Mi) (ρ : Mr), w_X10_hearAsk_59 (MS Z d) G Rp L st S q μ ρ → G 59 L st S q μ ρ) → (∀ (L st : List Value) (S : Sh) (q : Nat × Nat) (μ : Mi) (ρ : Mr), w_X10_hearAsk_60 (MS Z d) G Rp L st S q μ ρ → G 60 L st S q μ ρ) → (∀ (L st : List Value) (S : Sh) (q : Nat × Nat) (μ : Mi) (ρ : Mr), w_X10_hearAsk_75 (MS Z d) G Rp L st S q μ ρ → G 75 L st S q μ ρ) → (∀ (L st : List Value) (S : Sh) (q : Nat × Nat) (μ : Mi) (ρ : Mr), w_X10_hearAsk_104 (MS Z d) G Rp L st S q μ ρ → G 104 L st S q μ ρ) → (∀ (L st : List Value) (S : Sh) (q : Nat × Nat) (μ : Mi) (ρ : Mr), w_X10_hearAsk_105 (MS Z d) G Rp L st S q μ ρ → G 105 L st S q μ ρ) → w_X10_hearAsk_0 (MS Z d) G Rp [.ref a0, .ref a1, .ref a2, .null, .null] [] S (0, 0) μ ρ) : MS Z (d + 1) jX10_hearAsk [.ref a0, .ref a1, .ref a2] S μ ρ Rp :=
  MS_of [.ref a0, .ref a1, .ref a2, .null, .null] (by decide +kernel) rfl rfl (Nat.le_of_ble_eq_true rfl) rfl (fun p e R s m args below meth c C => b_X10_hearAsk_0 C _ _ _ _ _ _ (h _ (b_X10_hearAsk_19 C) (b_X10_hearAsk_23 C) (b_X10_hearAsk_24 C) (b_X10_hearAsk_59 C) (b_X10_hearAsk_60 C) (b_X10_hearAsk_75 C) (b_X10_hearAsk_104 C) (b_X10_hearAsk_105 C)))
def w_X10_hearVote_0 (M : CT) (G : Nat → PT) (Rp : RT) : PT := tAload 2 <| tGetI 2 10 4 <| tConst 1 <| tIf2 (fun x y => x ≠ y) (G 27) <| tAload 2 <| tGetI 2 10 3 <| tAload 1 <| tGetI 7 18 2 <| tIf2 (fun x y => x ≠ y) (G 27) <| tAload 1 <| tGetI 7 18 4 <| tConst 1 <| tIf2 (fun x y => x = y) (G 29) <| G 27
def w_X10_hearVote_27 (M : CT) (G : Nat → PT) (Rp : RT) : PT := tConst 0 <| tIret Rp
def w_X10_hearVote_29 (M : CT) (G : Nat → PT) (Rp : RT) : PT := tAload 1 <| tDup <| tGetI 7 18 5 <| tConst 1 <| tAload 2 <| tGetI 2 10 0 <| tBin (fun x y => x <<< (y &&& 31)) <| tBin (fun x y => x ||| y) <| tPutI 7 18 5 <| tAload 1 <| tAload 1 <| tGetI 7 18 5 <| tCallV M jX7_isMajority 7 18 1 <| tIf (fun x => x = 0) (G 59) <| tConst 2 <| tGoto (G 60)
def w_X10_hearVote_59 (M : CT) (G : Nat → PT) (Rp : RT) : PT := tConst 0 <| G 60
def w_X10_hearVote_60 (M : CT) (G : Nat → PT) (Rp : RT) : PT := tIret Rp
set_option maxRecDepth 20000 in
theorem b_X10_hearVote_0 {Z : Zt} {d : Nat} {p : Program} {e : Env} {R : Room} {s : State} {m : MethodId} {args : Array Value} {below : List Frame} {meth : Method} {c : Code} {Rp : RT} (C : Cx Z d jX10_hearVote RX10 p R s m args meth c) : Sd Z jX10_hearVote p e R s m args below meth c (MQ below (QcS Z Rp) args s 0 0 (fun a => Z.2.2.1 < a)) 0 (w_X10_hearVote_0 (MS Z d) (Gw Z 3 p e R s m args below meth c (MQ below (QcS Z Rp) args s 0 0 (fun a => Z.2.2.1 < a))) Rp) := by
  unfold w_X10_hearVote_0
  refine s_aload_n (k := 2) C (by decide +kernel) ?_
  refine s_getI C w_1_74 (by decide +kernel) rfl ?_
  refine s_iconst (n := 1) C (by decide +kernel) (by decide) ?_
  refine s_icmp_ne (off := 22) (tgt := 27) C (by decide +kernel) (by decide) (fun _ _ _ _ _ _ h => h) ?_
  refine s_aload_n (k := 2) C (by decide +kernel) ?_
  refine s_getI C w_1_69 (by decide +kernel) rfl ?_
  refine s_aload_n (k := 1) C (by decide +kernel) ?_
  refine s_getI C w_1_227 (by decide +kernel) rfl ?_
  refine s_icmp_ne (off := 11) (tgt := 27) C (by decide +kernel) (by decide) (fun _ _ _ _ _ _ h => h) ?_
  refine s_aload_n (k := 1) C (by decide +kernel) ?_
  refine s_getI C w_1_234 (by decide +kernel) rfl ?_
  refine s_iconst (n := 1) C (by decide +kernel) (by decide) ?_
  refine s_icmp_eq (off := 5) (tgt := 29) C (by decide +kernel) (by decide) (fun _ _ _ _ _ _ h => h) ?_
  exact (fun _ _ _ _ _ _ h => h)
set_option maxRecDepth 20000 in
theorem b_X10_hearVote_27 {Z : Zt} {d : Nat} {p : Program} {e : Env} {R : Room} {s : State} {m : MethodId} {args : Array Value} {below : List Frame} {meth : Method} {c : Code} {Rp : RT} (C : Cx Z d jX10_hearVote RX10 p R s m args meth c) : Sd Z jX10_hearVote p e R s m args below meth c (MQ below (QcS Z Rp) args s 0 0 (fun a => Z.2.2.1 < a)) 27 (w_X10_hearVote_27 (MS Z d) (Gw Z 3 p e R s m args below meth c (MQ below (QcS Z Rp) args s 0 0 (fun a => Z.2.2.1 < a))) Rp) := by
  unfold w_X10_hearVote_27
  refine s_iconst (n := 0) C (by decide +kernel) (by decide) ?_
  exact s_iret C rfl (by decide +kernel)
set_option maxRecDepth 20000 in
theorem b_X10_hearVote_29 {Z : Zt} {d : Nat} {p : Program} {e : Env} {R : Room} {s : State} {m : MethodId} {args : Array Value} {below : List Frame} {meth : Method} {c : Code} {Rp : RT} (C : Cx Z d jX10_hearVote RX10 p R s m args meth c) : Sd Z jX10_hearVote p e R s m args below meth c (MQ below (QcS Z Rp) args s 0 0 (fun a => Z.2.2.1 < a)) 29 (w_X10_hearVote_29 (MS Z d) (Gw Z 3 p e R s m args below meth c (MQ below (QcS Z Rp) args s 0 0 (fun a => Z.2.2.1 < a))) Rp) := by
  unfold w_X10_hearVote_29
  refine s_aload_n (k := 1) C (by decide +kernel) ?_
  refine s_dup C (by decide +kernel) ?_
  refine s_getI C w_1_238 (by decide +kernel) rfl ?_
  refine s_iconst (n := 1) C (by decide +kernel) (by decide) ?_
  refine s_aload_n (k := 2) C (by decide +kernel) ?_
  refine s_getI C w_1_55 (by decide +kernel) rfl ?_
  refine s_ishl C (by decide +kernel) ?_
  refine s_ior C (by decide +kernel) ?_
  refine s_putI C w_1_238 (by decide +kernel) rfl (Or.inl rfl) ?_
  refine s_aload_n (k := 1) C (by decide +kernel) ?_
  refine s_aload_n (k := 1) C (by decide +kernel) ?_
  refine s_getI C w_1_238 (by decide +kernel) rfl ?_
  refine s_callV C rfl rfl (by decide +kernel) rfl w_3_133 w_3_134 w_3_135 w_1_5 w_3_136 (by decide +kernel) ?_
  refine s_if_eq (off := 7) (tgt := 59) C (by decide +kernel) (by decide) (fun _ _ _ _ _ _ h => h) ?_
  refine s_iconst (n := 2) C (by decide +kernel) (by decide) ?_
  exact s_goto (off := 4) (tgt := 60) C (by decide +kernel) (by decide) (fun _ _ _ _ _ _ h => h)
set_option maxRecDepth 20000 in
theorem b_X10_hearVote_59 {Z : Zt} {d : Nat} {p : Program} {e : Env} {R : Room} {s : State} {m : MethodId} {args : Array Value} {below : List Frame} {meth : Method} {c : Code} {Rp : RT} (C : Cx Z d jX10_hearVote RX10 p R s m args meth c) : Sd Z jX10_hearVote p e R s m args below meth c (MQ below (QcS Z Rp) args s 0 0 (fun a => Z.2.2.1 < a)) 59 (w_X10_hearVote_59 (MS Z d) (Gw Z 3 p e R s m args below meth c (MQ below (QcS Z Rp) args s 0 0 (fun a => Z.2.2.1 < a))) Rp) := by
  unfold w_X10_hearVote_59
  refine s_iconst (n := 0) C (by decide +kernel) (by decide) ?_
  exact (fun _ _ _ _ _ _ h => h)
set_option maxRecDepth 20000 in
theorem b_X10_hearVote_60 {Z : Zt} {d : Nat} {p : Program} {e : Env} {R : Room} {s : State} {m : MethodId} {args : Array Value} {below : List Frame} {meth : Method} {c : Code} {Rp : RT} (C : Cx Z d jX10_hearVote RX10 p R s m args meth c) : Sd Z jX10_hearVote p e R s m args below meth c (MQ below (QcS Z Rp) args s 0 0 (fun a => Z.2.2.1 < a)) 60 (w_X10_hearVote_60 (MS Z d) (Gw Z 3 p e R s m args below meth c (MQ below (QcS Z Rp) args s 0 0 (fun a => Z.2.2.1 < a))) Rp) := by
  unfold w_X10_hearVote_60
  exact s_iret C rfl (by decide +kernel)
theorem ms_X10_hearVote {Z : Zt} {d : Nat} {S : Sh} {μ : Mi} {ρ : Mr} {Rp : RT} (a0 : Nat) (a1 : Nat) (a2 : Nat) (h : ∀ G : Nat → PT, (∀ (L st : List Value) (S : Sh) (q : Nat × Nat) (μ : Mi) (ρ : Mr), w_X10_hearVote_27 (MS Z d) G Rp L st S q μ ρ → G 27 L st S q μ ρ) → (∀ (L st : List Value) (S : Sh) (q : Nat × Nat) (μ : Mi) (ρ : Mr), w_X10_hearVote_29 (MS Z d) G Rp L st S q μ ρ → G 29 L st S q μ ρ) → (∀ (L st : List Value) (S : Sh) (q : Nat × Nat) (μ : Mi) (ρ : Mr), w_X10_hearVote_59 (MS Z d) G Rp L st S q μ ρ → G 59 L st S q μ ρ) → (∀ (L st : List Value) (S : Sh) (q : Nat × Nat) (μ : Mi) (ρ : Mr), w_X10_hearVote_60 (MS Z d) G Rp L st S q μ ρ → G 60 L st S q μ ρ) → w_X10_hearVote_0 (MS Z d) G Rp [.ref a0, .ref a1, .ref a2] [] S (0, 0) μ ρ) : MS Z (d + 1) jX10_hearVote [.ref a0, .ref a1, .ref a2] S μ ρ Rp :=
  MS_of [.ref a0, .ref a1, .ref a2] (by decide +kernel) rfl rfl (Nat.le_of_ble_eq_true rfl) rfl (fun p e R s m args below meth c C => b_X10_hearVote_0 C _ _ _ _ _ _ (h _ (b_X10_hearVote_27 C) (b_X10_hearVote_29 C) (b_X10_hearVote_59 C) (b_X10_hearVote_60 C)))
def w_X10_hearTake_0 (M : CT) (G : Nat → PT) (Rp : RT) : PT := tConst 0 <| tIstore 3 <| tAload 1 <| tGetI 7 18 7 <| tIstore 4 <| tAload 2 <| tGetI 2 10 3 <| tAload 1 <| tGetI 7 18 2 <| tIf2 (fun x y => x < y) (G 94) <| tAload 1 <| tConst 0 <| tCallV M jX7_becomes 7 18 1 <| tAload 2 <| tGetI 2 10 4 <| tAload 1 <| tGetI 7 18 7 <| tIf2 (fun x y => y < x) (G 94) <| tAload 2 <| tGetI 2 10 4 <| tAload 1 <| tGetR 7 18 16 <| tGetI 6 5 0 <| tIf2 (fun x y => x < y) (G 64) <| tAload 1 <| tAload 2 <| tGetI 2 10 4 <| tCallV M jX7_termAt 7 18 1 <| tAload 2 <| tGetI 2 10 5 <| tIf2 (fun x y => x ≠ y) (G 68) <| G 64
def w_X10_hearTake_64 (M : CT) (G : Nat → PT) (Rp : RT) : PT := tConst 1 <| tGoto (G 69)
def w_X10_hearTake_68 (M : CT) (G : Nat → PT) (Rp : RT) : PT := tConst 0 <| G 69
def w_X10_hearTake_69 (M : CT) (G : Nat → PT) (Rp : RT) : PT := tIstore 3 <| tIload 3 <| tIf (fun x => x = 0) (G 86) <| tAload 2 <| tGetI 2 10 4 <| tAload 2 <| tGetI 2 10 6 <| tBin (fun x y => x + y) <| tGoto (G 92)
def w_X10_hearTake_86 (M : CT) (G : Nat → PT) (Rp : RT) : PT := tAload 2 <| tGetI 2 10 4 <| tConst 1 <| tBin (fun x y => x - y) <| G 92
def w_X10_hearTake_92 (M : CT) (G : Nat → PT) (Rp : RT) : PT := tIstore 4 <| G 94
def w_X10_hearTake_94 (M : CT) (G : Nat → PT) (Rp : RT) : PT := tIload 3 <| tIf (fun x => x = 0) (G 117) <| tAload 1 <| tAload 2 <| tCallV M jX7_takeEntries 7 18 1 <| tAload 0 <| tAload 1 <| tAload 2 <| tGetI 2 10 7 <| tIload 4 <| tMin <| tCallV M jX10_agreeUpTo 10 6 2 <| G 117
def w_X10_hearTake_117 (M : CT) (G : Nat → PT) (Rp : RT) : PT := tAload 0 <| tGetR 10 6 1 <| tAload 1 <| tGetI 7 18 0 <| tAload 2 <| tGetI 2 10 0 <| tConst 3 <| tAload 1 <| tGetI 7 18 2 <| tCallV M jX1_post 1 6 4 <| tAstore 5 <| tAload 5 <| tIload 3 <| tIf (fun x => x = 0) (G 149) <| tConst 1 <| tGoto (G 150)
def w_X10_hearTake_149 (M : CT) (G : Nat → PT) (Rp : RT) : PT := tConst 0 <| G 150
def w_X10_hearTake_150 (M : CT) (G : Nat → PT) (Rp : RT) : PT := tPutI 2 10 4 <| tAload 5 <| tIload 4 <| tPutI 2 10 5 <| tAload 5 <| tAload 2 <| tGetI 2 10 8 <| tPutI 2 10 8 <| tVret Rp
set_option maxRecDepth 20000 in
theorem b_X10_hearTake_0 {Z : Zt} {d : Nat} {p : Program} {e : Env} {R : Room} {s : State} {m : MethodId} {args : Array Value} {below : List Frame} {meth : Method} {c : Code} {Rp : RT} (C : Cx Z d jX10_hearTake RX10 p R s m args meth c) : Sd Z jX10_hearTake p e R s m args below meth c (MQ below (QcS Z Rp) args s 0 0 (fun a => Z.2.2.1 < a)) 0 (w_X10_hearTake_0 (MS Z d) (Gw Z 6 p e R s m args below meth c (MQ below (QcS Z Rp) args s 0 0 (fun a => Z.2.2.1 < a))) Rp) := by
  unfold w_X10_hearTake_0
  refine s_iconst (n := 0) C (by decide +kernel) (by decide) ?_
  refine s_istore_n (k := 3) C (by decide +kernel) ?_
  refine s_aload_n (k := 1) C (by decide +kernel) ?_
  refine s_getI C w_2_5 (by decide +kernel) rfl ?_
  refine s_istore (k := 4) C (by decide +kernel) ?_
  refine s_aload_n (k := 2) C (by decide +kernel) ?_
  refine s_getI C w_1_69 (by decide +kernel) rfl ?_
  refine s_aload_n (k := 1) C (by decide +kernel) ?_
  refine s_getI C w_1_227 (by decide +kernel) rfl ?_
  refine s_icmp_lt (off := 78) (tgt := 94) C (by decide +kernel) (by decide) (fun _ _ _ _ _ _ h => h) ?_
  refine s_aload_n (k := 1) C (by decide +kernel) ?_
  refine s_iconst (n := 0) C (by decide +kernel) (by decide) ?_
  refine s_callV C rfl rfl (by decide +kernel) rfl w_3_117 w_3_118 w_3_119 w_1_5 w_3_120 (by decide +kernel) ?_
  refine s_aload_n (k := 2) C (by decide +kernel) ?_
  refine s_getI C w_1_74 (by decide +kernel) rfl ?_
  refine s_aload_n (k := 1) C (by decide +kernel) ?_
  refine s_getI C w_2_5 (by decide +kernel) rfl ?_
  refine s_icmp_gt (off := 62) (tgt := 94) C (by decide +kernel) (by decide) (fun _ _ _ _ _ _ h => h) ?_
  refine s_aload_n (k := 2) C (by decide +kernel) ?_
  refine s_getI C w_1_74 (by decide +kernel) rfl ?_
  refine s_aload_n (k := 1) C (by decide +kernel) ?_
  refine s_getR C w_2_34 (by decide +kernel) rfl ?_
  refine s_getI C w_1_163 (by decide +kernel) rfl ?_
  refine s_icmp_lt (off := 18) (tgt := 64) C (by decide +kernel) (by decide) (fun _ _ _ _ _ _ h => h) ?_
  refine s_aload_n (k := 1) C (by decide +kernel) ?_
  refine s_aload_n (k := 2) C (by decide +kernel) ?_
  refine s_getI C w_1_74 (by decide +kernel) rfl ?_
  refine s_callV C rfl rfl (by decide +kernel) rfl w_3_129 w_3_130 w_3_131 w_1_5 w_3_132 (by decide +kernel) ?_
  refine s_aload_n (k := 2) C (by decide +kernel) ?_
  refine s_getI C w_1_79 (by decide +kernel) rfl ?_
  refine s_icmp_ne (off := 7) (tgt := 68) C (by decide +kernel) (by decide) (fun _ _ _ _ _ _ h => h) ?_
  exact (fun _ _ _ _ _ _ h => h)
set_option maxRecDepth 20000 in
theorem b_X10_hearTake_64 {Z : Zt} {d : Nat} {p : Program} {e : Env} {R : Room} {s : State} {m : MethodId} {args : Array Value} {below : List Frame} {meth : Method} {c : Code} {Rp : RT} (C : Cx Z d jX10_hearTake RX10 p R s m args meth c) : Sd Z jX10_hearTake p e R s m args below meth c (MQ below (QcS Z Rp) args s 0 0 (fun a => Z.2.2.1 < a)) 64 (w_X10_hearTake_64 (MS Z d) (Gw Z 6 p e R s m args below meth c (MQ below (QcS Z Rp) args s 0 0 (fun a => Z.2.2.1 < a))) Rp) := by
  unfold w_X10_hearTake_64
  refine s_iconst (n := 1) C (by decide +kernel) (by decide) ?_
  exact s_goto (off := 4) (tgt := 69) C (by decide +kernel) (by decide) (fun _ _ _ _ _ _ h => h)
set_option maxRecDepth 20000 in
theorem b_X10_hearTake_68 {Z : Zt} {d : Nat} {p : Program} {e : Env} {R : Room} {s : State} {m : MethodId} {args : Array Value} {below : List Frame} {meth : Method} {c : Code} {Rp : RT} (C : Cx Z d jX10_hearTake RX10 p R s m args meth c) : Sd Z jX10_hearTake p e R s m args below meth c (MQ below (QcS Z Rp) args s 0 0 (fun a => Z.2.2.1 < a)) 68 (w_X10_hearTake_68 (MS Z d) (Gw Z 6 p e R s m args below meth c (MQ below (QcS Z Rp) args s 0 0 (fun a => Z.2.2.1 < a))) Rp) := by
  unfold w_X10_hearTake_68
  refine s_iconst (n := 0) C (by decide +kernel) (by decide) ?_
  exact (fun _ _ _ _ _ _ h => h)
set_option maxRecDepth 20000 in
theorem b_X10_hearTake_69 {Z : Zt} {d : Nat} {p : Program} {e : Env} {R : Room} {s : State} {m : MethodId} {args : Array Value} {below : List Frame} {meth : Method} {c : Code} {Rp : RT} (C : Cx Z d jX10_hearTake RX10 p R s m args meth c) : Sd Z jX10_hearTake p e R s m args below meth c (MQ below (QcS Z Rp) args s 0 0 (fun a => Z.2.2.1 < a)) 69 (w_X10_hearTake_69 (MS Z d) (Gw Z 6 p e R s m args below meth c (MQ below (QcS Z Rp) args s 0 0 (fun a => Z.2.2.1 < a))) Rp) := by
  unfold w_X10_hearTake_69
  refine s_istore_n (k := 3) C (by decide +kernel) ?_
  refine s_iload_n (k := 3) C (by decide +kernel) ?_
  refine s_if_eq (off := 15) (tgt := 86) C (by decide +kernel) (by decide) (fun _ _ _ _ _ _ h => h) ?_
  refine s_aload_n (k := 2) C (by decide +kernel) ?_
  refine s_getI C w_1_74 (by decide +kernel) rfl ?_
  refine s_aload_n (k := 2) C (by decide +kernel) ?_
  refine s_getI C w_1_84 (by decide +kernel) rfl ?_
  refine s_iadd C (by decide +kernel) ?_
  exact s_goto (off := 9) (tgt := 92) C (by decide +kernel) (by decide) (fun _ _ _ _ _ _ h => h)
set_option maxRecDepth 20000 in
theorem b_X10_hearTake_86 {Z : Zt} {d : Nat} {p : Program} {e : Env} {R : Room} {s : State} {m : MethodId} {args : Array Value} {below : List Frame} {meth : Method} {c : Code} {Rp : RT} (C : Cx Z d jX10_hearTake RX10 p R s m args meth c) : Sd Z jX10_hearTake p e R s m args below meth c (MQ below (QcS Z Rp) args s 0 0 (fun a => Z.2.2.1 < a)) 86 (w_X10_hearTake_86 (MS Z d) (Gw Z 6 p e R s m args below meth c (MQ below (QcS Z Rp) args s 0 0 (fun a => Z.2.2.1 < a))) Rp) := by
  unfold w_X10_hearTake_86
  refine s_aload_n (k := 2) C (by decide +kernel) ?_
  refine s_getI C w_1_74 (by decide +kernel) rfl ?_
  refine s_iconst (n := 1) C (by decide +kernel) (by decide) ?_
  refine s_isub C (by decide +kernel) ?_
  exact (fun _ _ _ _ _ _ h => h)
set_option maxRecDepth 20000 in
theorem b_X10_hearTake_92 {Z : Zt} {d : Nat} {p : Program} {e : Env} {R : Room} {s : State} {m : MethodId} {args : Array Value} {below : List Frame} {meth : Method} {c : Code} {Rp : RT} (C : Cx Z d jX10_hearTake RX10 p R s m args meth c) : Sd Z jX10_hearTake p e R s m args below meth c (MQ below (QcS Z Rp) args s 0 0 (fun a => Z.2.2.1 < a)) 92 (w_X10_hearTake_92 (MS Z d) (Gw Z 6 p e R s m args below meth c (MQ below (QcS Z Rp) args s 0 0 (fun a => Z.2.2.1 < a))) Rp) := by
  unfold w_X10_hearTake_92
  refine s_istore (k := 4) C (by decide +kernel) ?_
  exact (fun _ _ _ _ _ _ h => h)
set_option maxRecDepth 20000 in
theorem b_X10_hearTake_94 {Z : Zt} {d : Nat} {p : Program} {e : Env} {R : Room} {s : State} {m : MethodId} {args : Array Value} {below : List Frame} {meth : Method} {c : Code} {Rp : RT} (C : Cx Z d jX10_hearTake RX10 p R s m args meth c) : Sd Z jX10_hearTake p e R s m args below meth c (MQ below (QcS Z Rp) args s 0 0 (fun a => Z.2.2.1 < a)) 94 (w_X10_hearTake_94 (MS Z d) (Gw Z 6 p e R s m args below meth c (MQ below (QcS Z Rp) args s 0 0 (fun a => Z.2.2.1 < a))) Rp) := by
  unfold w_X10_hearTake_94
  refine s_iload_n (k := 3) C (by decide +kernel) ?_
  refine s_if_eq (off := 22) (tgt := 117) C (by decide +kernel) (by decide) (fun _ _ _ _ _ _ h => h) ?_
  refine s_aload_n (k := 1) C (by decide +kernel) ?_
  refine s_aload_n (k := 2) C (by decide +kernel) ?_
  refine s_callV C rfl rfl (by decide +kernel) rfl w_4_99 w_4_100 w_4_101 w_1_5 w_4_102 (by decide +kernel) ?_
  refine s_aload_n (k := 0) C (by decide +kernel) ?_
  refine s_aload_n (k := 1) C (by decide +kernel) ?_
  refine s_aload_n (k := 2) C (by decide +kernel) ?_
  refine s_getI C w_1_88 (by decide +kernel) rfl ?_
  refine s_iload (k := 4) C (by decide +kernel) ?_
  refine s_min C w_3_166 w_3_84 w_1_16 w_min (by decide +kernel) ?_
  refine s_callV C rfl rfl (by decide +kernel) rfl w_3_177 w_3_179 w_p1_9 w_1_2 w_3_180 (by decide +kernel) ?_
  exact (fun _ _ _ _ _ _ h => h)
set_option maxRecDepth 20000 in
theorem b_X10_hearTake_117 {Z : Zt} {d : Nat} {p : Program} {e : Env} {R : Room} {s : State} {m : MethodId} {args : Array Value} {below : List Frame} {meth : Method} {c : Code} {Rp : RT} (C : Cx Z d jX10_hearTake RX10 p R s m args meth c) : Sd Z jX10_hearTake p e R s m args below meth c (MQ below (QcS Z Rp) args s 0 0 (fun a => Z.2.2.1 < a)) 117 (w_X10_hearTake_117 (MS Z d) (Gw Z 6 p e R s m args below meth c (MQ below (QcS Z Rp) args s 0 0 (fun a => Z.2.2.1 < a))) Rp) := by
  unfold w_X10_hearTake_117
  refine s_aload_n (k := 0) C (by decide +kernel) ?_
  refine s_getR C w_2_117 (by decide +kernel) rfl ?_
  refine s_aload_n (k := 1) C (by decide +kernel) ?_
  refine s_getI C w_1_221 (by decide +kernel) rfl ?_
  refine s_aload_n (k := 2) C (by decide +kernel) ?_
  refine s_getI C w_1_55 (by decide +kernel) rfl ?_
  refine s_iconst (n := 3) C (by decide +kernel) (by decide) ?_
  refine s_aload_n (k := 1) C (by decide +kernel) ?_
  refine s_getI C w_1_227 (by decide +kernel) rfl ?_
  refine s_callV C rfl rfl (by decide +kernel) rfl w_3_125 w_3_126 w_3_127 w_1_3 w_3_128 (by decide +kernel) ?_
  refine s_astore (k := 5) C (by decide +kernel) ?_
  refine s_aload (k := 5) C (by decide +kernel) ?_
  refine s_iload_n (k := 3) C (by decide +kernel) ?_
  refine s_if_eq (off := 7) (tgt := 149) C (by decide +kernel) (by decide) (fun _ _ _ _ _ _ h => h) ?_
  refine s_iconst (n := 1) C (by decide +kernel) (by decide) ?_
  exact s_goto (off := 4) (tgt := 150) C (by decide +kernel) (by decide) (fun _ _ _ _ _ _ h => h)
set_option maxRecDepth 20000 in
theorem b_X10_hearTake_149 {Z : Zt} {d : Nat} {p : Program} {e : Env} {R : Room} {s : State} {m : MethodId} {args : Array Value} {below : List Frame} {meth : Method} {c : Code} {Rp : RT} (C : Cx Z d jX10_hearTake RX10 p R s m args meth c) : Sd Z jX10_hearTake p e R s m args below meth c (MQ below (QcS Z Rp) args s 0 0 (fun a => Z.2.2.1 < a)) 149 (w_X10_hearTake_149 (MS Z d) (Gw Z 6 p e R s m args below meth c (MQ below (QcS Z Rp) args s 0 0 (fun a => Z.2.2.1 < a))) Rp) := by
  unfold w_X10_hearTake_149
  refine s_iconst (n := 0) C (by decide +kernel) (by decide) ?_
  exact (fun _ _ _ _ _ _ h => h)
set_option maxRecDepth 20000 in
theorem b_X10_hearTake_150 {Z : Zt} {d : Nat} {p : Program} {e : Env} {R : Room} {s : State} {m : MethodId} {args : Array Value} {below : List Frame} {meth : Method} {c : Code} {Rp : RT} (C : Cx Z d jX10_hearTake RX10 p R s m args meth c) : Sd Z jX10_hearTake p e R s m args below meth c (MQ below (QcS Z Rp) args s 0 0 (fun a => Z.2.2.1 < a)) 150 (w_X10_hearTake_150 (MS Z d) (Gw Z 6 p e R s m args below meth c (MQ below (QcS Z Rp) args s 0 0 (fun a => Z.2.2.1 < a))) Rp) := by
  unfold w_X10_hearTake_150
  refine s_putI C w_1_74 (by decide +kernel) rfl (Or.inl rfl) ?_
  refine s_aload (k := 5) C (by decide +kernel) ?_
  refine s_iload (k := 4) C (by decide +kernel) ?_
  refine s_putI C w_1_79 (by decide +kernel) rfl (Or.inl rfl) ?_
  refine s_aload (k := 5) C (by decide +kernel) ?_
  refine s_aload_n (k := 2) C (by decide +kernel) ?_
  refine s_getI C w_1_92 (by decide +kernel) rfl ?_
  refine s_putI C w_1_92 (by decide +kernel) rfl (Or.inl rfl) ?_
  exact s_vret C rfl (by decide +kernel)
theorem ms_X10_hearTake {Z : Zt} {d : Nat} {S : Sh} {μ : Mi} {ρ : Mr} {Rp : RT} (a0 : Nat) (a1 : Nat) (a2 : Nat) (h : ∀ G : Nat → PT, (∀ (L st : List Value) (S : Sh) (q : Nat × Nat) (μ : Mi) (ρ : Mr), w_X10_hearTake_64 (MS Z d) G Rp L st S q μ ρ → G 64 L st S q μ ρ) → (∀ (L st : List Value) (S : Sh) (q : Nat × Nat) (μ : Mi) (ρ : Mr), w_X10_hearTake_68 (MS Z d) G Rp L st S q μ ρ → G 68 L st S q μ ρ) → (∀ (L st : List Value) (S : Sh) (q : Nat × Nat) (μ : Mi) (ρ : Mr), w_X10_hearTake_69 (MS Z d) G Rp L st S q μ ρ → G 69 L st S q μ ρ) → (∀ (L st : List Value) (S : Sh) (q : Nat × Nat) (μ : Mi) (ρ : Mr), w_X10_hearTake_86 (MS Z d) G Rp L st S q μ ρ → G 86 L st S q μ ρ) → (∀ (L st : List Value) (S : Sh) (q : Nat × Nat) (μ : Mi) (ρ : Mr), w_X10_hearTake_92 (MS Z d) G Rp L st S q μ ρ → G 92 L st S q μ ρ) → (∀ (L st : List Value) (S : Sh) (q : Nat × Nat) (μ : Mi) (ρ : Mr), w_X10_hearTake_94 (MS Z d) G Rp L st S q μ ρ → G 94 L st S q μ ρ) → (∀ (L st : List Value) (S : Sh) (q : Nat × Nat) (μ : Mi) (ρ : Mr), w_X10_hearTake_117 (MS Z d) G Rp L st S q μ ρ → G 117 L st S q μ ρ) → (∀ (L st : List Value) (S : Sh) (q : Nat × Nat) (μ : Mi) (ρ : Mr), w_X10_hearTake_149 (MS Z d) G Rp L st S q μ ρ → G 149 L st S q μ ρ) → (∀ (L st : List Value) (S : Sh) (q : Nat × Nat) (μ : Mi) (ρ : Mr), w_X10_hearTake_150 (MS Z d) G Rp L st S q μ ρ → G 150 L st S q μ ρ) → w_X10_hearTake_0 (MS Z d) G Rp [.ref a0, .ref a1, .ref a2, .null, .null, .null] [] S (0, 0) μ ρ) : MS Z (d + 1) jX10_hearTake [.ref a0, .ref a1, .ref a2] S μ ρ Rp :=
  MS_of [.ref a0, .ref a1, .ref a2, .null, .null, .null] (by decide +kernel) rfl rfl (Nat.le_of_ble_eq_true rfl) rfl (fun p e R s m args below meth c C => b_X10_hearTake_0 C _ _ _ _ _ _ (h _ (b_X10_hearTake_64 C) (b_X10_hearTake_68 C) (b_X10_hearTake_69 C) (b_X10_hearTake_86 C) (b_X10_hearTake_92 C) (b_X10_hearTake_94 C) (b_X10_hearTake_117 C) (b_X10_hearTake_149 C) (b_X10_hearTake_150 C)))
def w_X10_hearTook_0 (M : CT) (G : Nat → PT) (Rp : RT) : PT := tAload 2 <| tGetI 2 10 3 <| tAload 1 <| tGetI 7 18 2 <| tIf2 (fun x y => x ≠ y) (G 19) <| tAload 1 <| tGetI 7 18 4 <| tConst 2 <| tIf2 (fun x y => x = y) (G 21) <| G 19
def w_X10_hearTook_19 (M : CT) (G : Nat → PT) (Rp : RT) : PT := tConst 0 <| tIret Rp
def w_X10_hearTook_21 (M : CT) (G : Nat → PT) (Rp : RT) : PT := tAload 1 <| tAload 2 <| tGetI 2 10 0 <| tAload 2 <| tGetI 2 10 8 <| tCallV M jX7_answersRead 7 18 2 <| tIf (fun x => x = 0) (G 40) <| tAload 1 <| tCallV M jX7_answerRead 7 18 0 <| G 40
def w_X10_hearTook_40 (M : CT) (G : Nat → PT) (Rp : RT) : PT := tAload 2 <| tGetI 2 10 0 <| tIstore 3 <| tAload 2 <| tGetI 2 10 4 <| tConst 1 <| tIf2 (fun x y => x ≠ y) (G 89) <| tAload 1 <| tGetR 7 18 15 <| tIload 3 <| tAload 1 <| tGetR 7 18 15 <| tIload 3 <| tAld 20 <| tAload 2 <| tGetI 2 10 5 <| tMax <| tIast <| tAload 1 <| tGetR 7 18 14 <| tIload 3 <| tAload 1 <| tGetR 7 18 15 <| tIload 3 <| tAld 20 <| tConst 1 <| tBin (fun x y => x + y) <| tIast <| tConst 24 <| tIret Rp
def w_X10_hearTook_89 (M : CT) (G : Nat → PT) (Rp : RT) : PT := tAload 1 <| tGetR 7 18 14 <| tIload 3 <| tAload 1 <| tGetR 7 18 14 <| tIload 3 <| tAld 20 <| tAload 2 <| tGetI 2 10 5 <| tConst 1 <| tBin (fun x y => x + y) <| tMin <| tAload 1 <| tGetR 7 18 15 <| tIload 3 <| tAld 20 <| tConst 1 <| tBin (fun x y => x + y) <| tMax <| tIast <| tAload 0 <| tAload 1 <| tIload 3 <| tCallV M jX10_send 10 6 2 <| tConst 0 <| tIret Rp
set_option maxRecDepth 20000 in
theorem b_X10_hearTook_0 {Z : Zt} {d : Nat} {p : Program} {e : Env} {R : Room} {s : State} {m : MethodId} {args : Array Value} {below : List Frame} {meth : Method} {c : Code} {Rp : RT} (C : Cx Z d jX10_hearTook RX10 p R s m args meth c) : Sd Z jX10_hearTook p e R s m args below meth c (MQ below (QcS Z Rp) args s 0 0 (fun a => Z.2.2.1 < a)) 0 (w_X10_hearTook_0 (MS Z d) (Gw Z 4 p e R s m args below meth c (MQ below (QcS Z Rp) args s 0 0 (fun a => Z.2.2.1 < a))) Rp) := by
  unfold w_X10_hearTook_0
  refine s_aload_n (k := 2) C (by decide +kernel) ?_
  refine s_getI C w_1_69 (by decide +kernel) rfl ?_
  refine s_aload_n (k := 1) C (by decide +kernel) ?_
  refine s_getI C w_1_227 (by decide +kernel) rfl ?_
  refine s_icmp_ne (off := 11) (tgt := 19) C (by decide +kernel) (by decide) (fun _ _ _ _ _ _ h => h) ?_
  refine s_aload_n (k := 1) C (by decide +kernel) ?_
  refine s_getI C w_1_234 (by decide +kernel) rfl ?_
  refine s_iconst (n := 2) C (by decide +kernel) (by decide) ?_
  refine s_icmp_eq (off := 5) (tgt := 21) C (by decide +kernel) (by decide) (fun _ _ _ _ _ _ h => h) ?_
  exact (fun _ _ _ _ _ _ h => h)
set_option maxRecDepth 20000 in
theorem b_X10_hearTook_19 {Z : Zt} {d : Nat} {p : Program} {e : Env} {R : Room} {s : State} {m : MethodId} {args : Array Value} {below : List Frame} {meth : Method} {c : Code} {Rp : RT} (C : Cx Z d jX10_hearTook RX10 p R s m args meth c) : Sd Z jX10_hearTook p e R s m args below meth c (MQ below (QcS Z Rp) args s 0 0 (fun a => Z.2.2.1 < a)) 19 (w_X10_hearTook_19 (MS Z d) (Gw Z 4 p e R s m args below meth c (MQ below (QcS Z Rp) args s 0 0 (fun a => Z.2.2.1 < a))) Rp) := by
  unfold w_X10_hearTook_19
  refine s_iconst (n := 0) C (by decide +kernel) (by decide) ?_
  exact s_iret C rfl (by decide +kernel)
set_option maxRecDepth 20000 in
theorem b_X10_hearTook_21 {Z : Zt} {d : Nat} {p : Program} {e : Env} {R : Room} {s : State} {m : MethodId} {args : Array Value} {below : List Frame} {meth : Method} {c : Code} {Rp : RT} (C : Cx Z d jX10_hearTook RX10 p R s m args meth c) : Sd Z jX10_hearTook p e R s m args below meth c (MQ below (QcS Z Rp) args s 0 0 (fun a => Z.2.2.1 < a)) 21 (w_X10_hearTook_21 (MS Z d) (Gw Z 4 p e R s m args below meth c (MQ below (QcS Z Rp) args s 0 0 (fun a => Z.2.2.1 < a))) Rp) := by
  unfold w_X10_hearTook_21
  refine s_aload_n (k := 1) C (by decide +kernel) ?_
  refine s_aload_n (k := 2) C (by decide +kernel) ?_
  refine s_getI C w_1_55 (by decide +kernel) rfl ?_
  refine s_aload_n (k := 2) C (by decide +kernel) ?_
  refine s_getI C w_1_92 (by decide +kernel) rfl ?_
  refine s_callV C rfl rfl (by decide +kernel) rfl w_4_109 w_4_110 w_4_111 w_1_5 w_4_112 (by decide +kernel) ?_
  refine s_if_eq (off := 7) (tgt := 40) C (by decide +kernel) (by decide) (fun _ _ _ _ _ _ h => h) ?_
  refine s_aload_n (k := 1) C (by decide +kernel) ?_
  refine s_callV C rfl rfl (by decide +kernel) rfl w_3_225 w_3_226 w_3_227 w_1_5 w_3_228 (by decide +kernel) ?_
  exact (fun _ _ _ _ _ _ h => h)
set_option maxRecDepth 20000 in
theorem b_X10_hearTook_40 {Z : Zt} {d : Nat} {p : Program} {e : Env} {R : Room} {s : State} {m : MethodId} {args : Array Value} {below : List Frame} {meth : Method} {c : Code} {Rp : RT} (C : Cx Z d jX10_hearTook RX10 p R s m args meth c) : Sd Z jX10_hearTook p e R s m args below meth c (MQ below (QcS Z Rp) args s 0 0 (fun a => Z.2.2.1 < a)) 40 (w_X10_hearTook_40 (MS Z d) (Gw Z 4 p e R s m args below meth c (MQ below (QcS Z Rp) args s 0 0 (fun a => Z.2.2.1 < a))) Rp) := by
  unfold w_X10_hearTook_40
  refine s_aload_n (k := 2) C (by decide +kernel) ?_
  refine s_getI C w_1_55 (by decide +kernel) rfl ?_
  refine s_istore_n (k := 3) C (by decide +kernel) ?_
  refine s_aload_n (k := 2) C (by decide +kernel) ?_
  refine s_getI C w_1_74 (by decide +kernel) rfl ?_
  refine s_iconst (n := 1) C (by decide +kernel) (by decide) ?_
  refine s_icmp_ne (off := 39) (tgt := 89) C (by decide +kernel) (by decide) (fun _ _ _ _ _ _ h => h) ?_
  refine s_aload_n (k := 1) C (by decide +kernel) ?_
  refine s_getR C w_2_30 (by decide +kernel) rfl ?_
  refine s_iload_n (k := 3) C (by decide +kernel) ?_
  refine s_aload_n (k := 1) C (by decide +kernel) ?_
  refine s_getR C w_2_30 (by decide +kernel) rfl ?_
  refine s_iload_n (k := 3) C (by decide +kernel) ?_
  refine s_iald C (by decide +kernel) ?_
  refine s_aload_n (k := 2) C (by decide +kernel) ?_
  refine s_getI C w_1_79 (by decide +kernel) rfl ?_
  refine s_max C w_3_167 w_3_168 w_1_16 w_max (by decide +kernel) ?_
  refine s_iast C (by decide +kernel) ?_
  refine s_aload_n (k := 1) C (by decide +kernel) ?_
  refine s_getR C w_2_28 (by decide +kernel) rfl ?_
  refine s_iload_n (k := 3) C (by decide +kernel) ?_
  refine s_aload_n (k := 1) C (by decide +kernel) ?_
  refine s_getR C w_2_30 (by decide +kernel) rfl ?_
  refine s_iload_n (k := 3) C (by decide +kernel) ?_
  refine s_iald C (by decide +kernel) ?_
  refine s_iconst (n := 1) C (by decide +kernel) (by decide) ?_
  refine s_iadd C (by decide +kernel) ?_
  refine s_iast C (by decide +kernel) ?_
  refine s_bipush (n := 24) C (by decide +kernel) (by decide) ?_
  exact s_iret C rfl (by decide +kernel)
set_option maxRecDepth 20000 in
theorem b_X10_hearTook_89 {Z : Zt} {d : Nat} {p : Program} {e : Env} {R : Room} {s : State} {m : MethodId} {args : Array Value} {below : List Frame} {meth : Method} {c : Code} {Rp : RT} (C : Cx Z d jX10_hearTook RX10 p R s m args meth c) : Sd Z jX10_hearTook p e R s m args below meth c (MQ below (QcS Z Rp) args s 0 0 (fun a => Z.2.2.1 < a)) 89 (w_X10_hearTook_89 (MS Z d) (Gw Z 4 p e R s m args below meth c (MQ below (QcS Z Rp) args s 0 0 (fun a => Z.2.2.1 < a))) Rp) := by
  unfold w_X10_hearTook_89
  refine s_aload_n (k := 1) C (by decide +kernel) ?_
  refine s_getR C w_2_28 (by decide +kernel) rfl ?_
  refine s_iload_n (k := 3) C (by decide +kernel) ?_
  refine s_aload_n (k := 1) C (by decide +kernel) ?_
  refine s_getR C w_2_28 (by decide +kernel) rfl ?_
  refine s_iload_n (k := 3) C (by decide +kernel) ?_
  refine s_iald C (by decide +kernel) ?_
  refine s_aload_n (k := 2) C (by decide +kernel) ?_
  refine s_getI C w_1_79 (by decide +kernel) rfl ?_
  refine s_iconst (n := 1) C (by decide +kernel) (by decide) ?_
  refine s_iadd C (by decide +kernel) ?_
  refine s_min C w_3_166 w_3_84 w_1_16 w_min (by decide +kernel) ?_
  refine s_aload_n (k := 1) C (by decide +kernel) ?_
  refine s_getR C w_2_30 (by decide +kernel) rfl ?_
  refine s_iload_n (k := 3) C (by decide +kernel) ?_
  refine s_iald C (by decide +kernel) ?_
  refine s_iconst (n := 1) C (by decide +kernel) (by decide) ?_
  refine s_iadd C (by decide +kernel) ?_
  refine s_max C w_3_167 w_3_168 w_1_16 w_max (by decide +kernel) ?_
  refine s_iast C (by decide +kernel) ?_
  refine s_aload_n (k := 0) C (by decide +kernel) ?_
  refine s_aload_n (k := 1) C (by decide +kernel) ?_
  refine s_iload_n (k := 3) C (by decide +kernel) ?_
  refine s_callV C rfl rfl (by decide +kernel) rfl w_3_162 w_3_163 w_3_164 w_1_2 w_3_165 (by decide +kernel) ?_
  refine s_iconst (n := 0) C (by decide +kernel) (by decide) ?_
  exact s_iret C rfl (by decide +kernel)
theorem ms_X10_hearTook {Z : Zt} {d : Nat} {S : Sh} {μ : Mi} {ρ : Mr} {Rp : RT} (a0 : Nat) (a1 : Nat) (a2 : Nat) (h : ∀ G : Nat → PT, (∀ (L st : List Value) (S : Sh) (q : Nat × Nat) (μ : Mi) (ρ : Mr), w_X10_hearTook_19 (MS Z d) G Rp L st S q μ ρ → G 19 L st S q μ ρ) → (∀ (L st : List Value) (S : Sh) (q : Nat × Nat) (μ : Mi) (ρ : Mr), w_X10_hearTook_21 (MS Z d) G Rp L st S q μ ρ → G 21 L st S q μ ρ) → (∀ (L st : List Value) (S : Sh) (q : Nat × Nat) (μ : Mi) (ρ : Mr), w_X10_hearTook_40 (MS Z d) G Rp L st S q μ ρ → G 40 L st S q μ ρ) → (∀ (L st : List Value) (S : Sh) (q : Nat × Nat) (μ : Mi) (ρ : Mr), w_X10_hearTook_89 (MS Z d) G Rp L st S q μ ρ → G 89 L st S q μ ρ) → w_X10_hearTook_0 (MS Z d) G Rp [.ref a0, .ref a1, .ref a2, .null] [] S (0, 0) μ ρ) : MS Z (d + 1) jX10_hearTook [.ref a0, .ref a1, .ref a2] S μ ρ Rp :=
  MS_of [.ref a0, .ref a1, .ref a2, .null] (by decide +kernel) rfl rfl (Nat.le_of_ble_eq_true rfl) rfl (fun p e R s m args below meth c C => b_X10_hearTook_0 C _ _ _ _ _ _ (h _ (b_X10_hearTook_19 C) (b_X10_hearTook_21 C) (b_X10_hearTook_40 C) (b_X10_hearTook_89 C)))
def w_X10_hearInstall_0 (M : CT) (G : Nat → PT) (Rp : RT) : PT := tConst 0 <| tIstore 3 <| tAload 2 <| tGetI 2 10 3 <| tAload 1 <| tGetI 7 18 2 <| tIf2 (fun x y => x < y) (G 36) <| tAload 1 <| tConst 0 <| tCallV M jX7_becomes 7 18 1 <| tAload 2 <| tGetI 2 10 4 <| tIstore 3 <| tIload 3 <| tAload 1 <| tGetI 7 18 8 <| tIf2 (fun x y => x ≤ y) (G 36) <| tAload 1 <| tAload 2 <| tCallV M jX7_install 7 18 1 <| G 36
def w_X10_hearInstall_36 (M : CT) (G : Nat → PT) (Rp : RT) : PT := tAload 0 <| tGetR 10 6 1 <| tAload 1 <| tGetI 7 18 0 <| tAload 2 <| tGetI 2 10 0 <| tConst 5 <| tAload 1 <| tGetI 7 18 2 <| tCallV M jX1_post 1 6 4 <| tAstore 4 <| tAload 4 <| tIload 3 <| tPutI 2 10 4 <| tAload 4 <| tAload 2 <| tGetI 2 10 8 <| tPutI 2 10 8 <| tVret Rp
set_option maxRecDepth 20000 in
theorem b_X10_hearInstall_0 {Z : Zt} {d : Nat} {p : Program} {e : Env} {R : Room} {s : State} {m : MethodId} {args : Array Value} {below : List Frame} {meth : Method} {c : Code} {Rp : RT} (C : Cx Z d jX10_hearInstall RX10 p R s m args meth c) : Sd Z jX10_hearInstall p e R s m args below meth c (MQ below (QcS Z Rp) args s 0 0 (fun a => Z.2.2.1 < a)) 0 (w_X10_hearInstall_0 (MS Z d) (Gw Z 5 p e R s m args below meth c (MQ below (QcS Z Rp) args s 0 0 (fun a => Z.2.2.1 < a))) Rp) := by
  unfold w_X10_hearInstall_0
  refine s_iconst (n := 0) C (by decide +kernel) (by decide) ?_
  refine s_istore_n (k := 3) C (by decide +kernel) ?_
  refine s_aload_n (k := 2) C (by decide +kernel) ?_
  refine s_getI C w_1_69 (by decide +kernel) rfl ?_
  refine s_aload_n (k := 1) C (by decide +kernel) ?_
  refine s_getI C w_1_227 (by decide +kernel) rfl ?_
  refine s_icmp_lt (off := 26) (tgt := 36) C (by decide +kernel) (by decide) (fun _ _ _ _ _ _ h => h) ?_
  refine s_aload_n (k := 1) C (by decide +kernel) ?_
  refine s_iconst (n := 0) C (by decide +kernel) (by decide) ?_
  refine s_callV C rfl rfl (by decide +kernel) rfl w_3_117 w_3_118 w_3_119 w_1_5 w_3_120 (by decide +kernel) ?_
  refine s_aload_n (k := 2) C (by decide +kernel) ?_
  refine s_getI C w_1_74 (by decide +kernel) rfl ?_
  refine s_istore_n (k := 3) C (by decide +kernel) ?_
  refine s_iload_n (k := 3) C (by decide +kernel) ?_
  refine s_aload_n (k := 1) C (by decide +kernel) ?_
  refine s_getI C w_2_9 (by decide +kernel) rfl ?_
  refine s_icmp_le (off := 8) (tgt := 36) C (by decide +kernel) (by decide) (fun _ _ _ _ _ _ h => h) ?_
  refine s_aload_n (k := 1) C (by decide +kernel) ?_
  refine s_aload_n (k := 2) C (by decide +kernel) ?_
  refine s_callV C rfl rfl (by decide +kernel) rfl w_4_118 w_4_119 w_4_120 w_1_5 w_4_121 (by decide +kernel) ?_
  exact (fun _ _ _ _ _ _ h => h)
set_option maxRecDepth 20000 in
theorem b_X10_hearInstall_36 {Z : Zt} {d : Nat} {p : Program} {e : Env} {R : Room} {s : State} {m : MethodId} {args : Array Value} {below : List Frame} {meth : Method} {c : Code} {Rp : RT} (C : Cx Z d jX10_hearInstall RX10 p R s m args meth c) : Sd Z jX10_hearInstall p e R s m args below meth c (MQ below (QcS Z Rp) args s 0 0 (fun a => Z.2.2.1 < a)) 36 (w_X10_hearInstall_36 (MS Z d) (Gw Z 5 p e R s m args below meth c (MQ below (QcS Z Rp) args s 0 0 (fun a => Z.2.2.1 < a))) Rp) := by
  unfold w_X10_hearInstall_36
  refine s_aload_n (k := 0) C (by decide +kernel) ?_
  refine s_getR C w_2_117 (by decide +kernel) rfl ?_
  refine s_aload_n (k := 1) C (by decide +kernel) ?_
  refine s_getI C w_1_221 (by decide +kernel) rfl ?_
  refine s_aload_n (k := 2) C (by decide +kernel) ?_
  refine s_getI C w_1_55 (by decide +kernel) rfl ?_
  refine s_iconst (n := 5) C (by decide +kernel) (by decide) ?_
  refine s_aload_n (k := 1) C (by decide +kernel) ?_
  refine s_getI C w_1_227 (by decide +kernel) rfl ?_
  refine s_callV C rfl rfl (by decide +kernel) rfl w_3_125 w_3_126 w_3_127 w_1_3 w_3_128 (by decide +kernel) ?_
  refine s_astore (k := 4) C (by decide +kernel) ?_
  refine s_aload (k := 4) C (by decide +kernel) ?_
  refine s_iload_n (k := 3) C (by decide +kernel) ?_
  refine s_putI C w_1_74 (by decide +kernel) rfl (Or.inl rfl) ?_
  refine s_aload (k := 4) C (by decide +kernel) ?_
  refine s_aload_n (k := 2) C (by decide +kernel) ?_
  refine s_getI C w_1_92 (by decide +kernel) rfl ?_
  refine s_putI C w_1_92 (by decide +kernel) rfl (Or.inl rfl) ?_
  exact s_vret C rfl (by decide +kernel)
theorem ms_X10_hearInstall {Z : Zt} {d : Nat} {S : Sh} {μ : Mi} {ρ : Mr} {Rp : RT} (a0 : Nat) (a1 : Nat) (a2 : Nat) (h : ∀ G : Nat → PT, (∀ (L st : List Value) (S : Sh) (q : Nat × Nat) (μ : Mi) (ρ : Mr), w_X10_hearInstall_36 (MS Z d) G Rp L st S q μ ρ → G 36 L st S q μ ρ) → w_X10_hearInstall_0 (MS Z d) G Rp [.ref a0, .ref a1, .ref a2, .null, .null] [] S (0, 0) μ ρ) : MS Z (d + 1) jX10_hearInstall [.ref a0, .ref a1, .ref a2] S μ ρ Rp :=
  MS_of [.ref a0, .ref a1, .ref a2, .null, .null] (by decide +kernel) rfl rfl (Nat.le_of_ble_eq_true rfl) rfl (fun p e R s m args below meth c C => b_X10_hearInstall_0 C _ _ _ _ _ _ (h _ (b_X10_hearInstall_36 C)))
def w_X10_hearInstalled_0 (M : CT) (G : Nat → PT) (Rp : RT) : PT := tAload 2 <| tGetI 2 10 3 <| tAload 1 <| tGetI 7 18 2 <| tIf2 (fun x y => x ≠ y) (G 19) <| tAload 1 <| tGetI 7 18 4 <| tConst 2 <| tIf2 (fun x y => x = y) (G 21) <| G 19
def w_X10_hearInstalled_19 (M : CT) (G : Nat → PT) (Rp : RT) : PT := tConst 0 <| tIret Rp
def w_X10_hearInstalled_21 (M : CT) (G : Nat → PT) (Rp : RT) : PT := tAload 1 <| tAload 2 <| tGetI 2 10 0 <| tAload 2 <| tGetI 2 10 8 <| tCallV M jX7_answersRead 7 18 2 <| tIf (fun x => x = 0) (G 40) <| tAload 1 <| tCallV M jX7_answerRead 7 18 0 <| G 40
def w_X10_hearInstalled_40 (M : CT) (G : Nat → PT) (Rp : RT) : PT := tAload 2 <| tGetI 2 10 4 <| tIf (fun x => 0 < x) (G 49) <| tConst 0 <| tIret Rp
def w_X10_hearInstalled_49 (M : CT) (G : Nat → PT) (Rp : RT) : PT := tAload 2 <| tGetI 2 10 0 <| tIstore 3 <| tAload 1 <| tGetR 7 18 15 <| tIload 3 <| tAload 1 <| tGetR 7 18 15 <| tIload 3 <| tAld 20 <| tAload 2 <| tGetI 2 10 4 <| tMax <| tIast <| tAload 1 <| tGetR 7 18 14 <| tIload 3 <| tAload 1 <| tGetR 7 18 14 <| tIload 3 <| tAld 20 <| tAload 1 <| tGetR 7 18 15 <| tIload 3 <| tAld 20 <| tConst 1 <| tBin (fun x y => x + y) <| tMax <| tIast <| tConst 24 <| tIret Rp
set_option maxRecDepth 20000 in
theorem b_X10_hearInstalled_0 {Z : Zt} {d : Nat} {p : Program} {e : Env} {R : Room} {s : State} {m : MethodId} {args : Array Value} {below : List Frame} {meth : Method} {c : Code} {Rp : RT} (C : Cx Z d jX10_hearInstalled RX10 p R s m args meth c) : Sd Z jX10_hearInstalled p e R s m args below meth c (MQ below (QcS Z Rp) args s 0 0 (fun a => Z.2.2.1 < a)) 0 (w_X10_hearInstalled_0 (MS Z d) (Gw Z 4 p e R s m args below meth c (MQ below (QcS Z Rp) args s 0 0 (fun a => Z.2.2.1 < a))) Rp) := by
  unfold w_X10_hearInstalled_0
  refine s_aload_n (k := 2) C (by decide +kernel) ?_
  refine s_getI C w_1_69 (by decide +kernel) rfl ?_
  refine s_aload_n (k := 1) C (by decide +kernel) ?_
  refine s_getI C w_1_227 (by decide +kernel) rfl ?_
  refine s_icmp_ne (off := 11) (tgt := 19) C (by decide +kernel) (by decide) (fun _ _ _ _ _ _ h => h) ?_
  refine s_aload_n (k := 1) C (by decide +kernel) ?_
  refine s_getI C w_1_234 (by decide +kernel) rfl ?_
  refine s_iconst (n := 2) C (by decide +kernel) (by decide) ?_
  refine s_icmp_eq (off := 5) (tgt := 21) C (by decide +kernel) (by decide) (fun _ _ _ _ _ _ h => h) ?_
  exact (fun _ _ _ _ _ _ h => h)
set_option maxRecDepth 20000 in
theorem b_X10_hearInstalled_19 {Z : Zt} {d : Nat} {p : Program} {e : Env} {R : Room} {s : State} {m : MethodId} {args : Array Value} {below : List Frame} {meth : Method} {c : Code} {Rp : RT} (C : Cx Z d jX10_hearInstalled RX10 p R s m args meth c) : Sd Z jX10_hearInstalled p e R s m args below meth c (MQ below (QcS Z Rp) args s 0 0 (fun a => Z.2.2.1 < a)) 19 (w_X10_hearInstalled_19 (MS Z d) (Gw Z 4 p e R s m args below meth c (MQ below (QcS Z Rp) args s 0 0 (fun a => Z.2.2.1 < a))) Rp) := by
  unfold w_X10_hearInstalled_19
  refine s_iconst (n := 0) C (by decide +kernel) (by decide) ?_
  exact s_iret C rfl (by decide +kernel)
set_option maxRecDepth 20000 in
theorem b_X10_hearInstalled_21 {Z : Zt} {d : Nat} {p : Program} {e : Env} {R : Room} {s : State} {m : MethodId} {args : Array Value} {below : List Frame} {meth : Method} {c : Code} {Rp : RT} (C : Cx Z d jX10_hearInstalled RX10 p R s m args meth c) : Sd Z jX10_hearInstalled p e R s m args below meth c (MQ below (QcS Z Rp) args s 0 0 (fun a => Z.2.2.1 < a)) 21 (w_X10_hearInstalled_21 (MS Z d) (Gw Z 4 p e R s m args below meth c (MQ below (QcS Z Rp) args s 0 0 (fun a => Z.2.2.1 < a))) Rp) := by
  unfold w_X10_hearInstalled_21
  refine s_aload_n (k := 1) C (by decide +kernel) ?_
  refine s_aload_n (k := 2) C (by decide +kernel) ?_
  refine s_getI C w_1_55 (by decide +kernel) rfl ?_
  refine s_aload_n (k := 2) C (by decide +kernel) ?_
  refine s_getI C w_1_92 (by decide +kernel) rfl ?_
  refine s_callV C rfl rfl (by decide +kernel) rfl w_4_109 w_4_110 w_4_111 w_1_5 w_4_112 (by decide +kernel) ?_
  refine s_if_eq (off := 7) (tgt := 40) C (by decide +kernel) (by decide) (fun _ _ _ _ _ _ h => h) ?_
  refine s_aload_n (k := 1) C (by decide +kernel) ?_
  refine s_callV C rfl rfl (by decide +kernel) rfl w_3_225 w_3_226 w_3_227 w_1_5 w_3_228 (by decide +kernel) ?_
  exact (fun _ _ _ _ _ _ h => h)
set_option maxRecDepth 20000 in
theorem b_X10_hearInstalled_40 {Z : Zt} {d : Nat} {p : Program} {e : Env} {R : Room} {s : State} {m : MethodId} {args : Array Value} {below : List Frame} {meth : Method} {c : Code} {Rp : RT} (C : Cx Z d jX10_hearInstalled RX10 p R s m args meth c) : Sd Z jX10_hearInstalled p e R s m args below meth c (MQ below (QcS Z Rp) args s 0 0 (fun a => Z.2.2.1 < a)) 40 (w_X10_hearInstalled_40 (MS Z d) (Gw Z 4 p e R s m args below meth c (MQ below (QcS Z Rp) args s 0 0 (fun a => Z.2.2.1 < a))) Rp) := by
  unfold w_X10_hearInstalled_40
  refine s_aload_n (k := 2) C (by decide +kernel) ?_
  refine s_getI C w_1_74 (by decide +kernel) rfl ?_
  refine s_if_gt (off := 5) (tgt := 49) C (by decide +kernel) (by decide) (fun _ _ _ _ _ _ h => h) ?_
  refine s_iconst (n := 0) C (by decide +kernel) (by decide) ?_
  exact s_iret C rfl (by decide +kernel)
set_option maxRecDepth 20000 in
theorem b_X10_hearInstalled_49 {Z : Zt} {d : Nat} {p : Program} {e : Env} {R : Room} {s : State} {m : MethodId} {args : Array Value} {below : List Frame} {meth : Method} {c : Code} {Rp : RT} (C : Cx Z d jX10_hearInstalled RX10 p R s m args meth c) : Sd Z jX10_hearInstalled p e R s m args below meth c (MQ below (QcS Z Rp) args s 0 0 (fun a => Z.2.2.1 < a)) 49 (w_X10_hearInstalled_49 (MS Z d) (Gw Z 4 p e R s m args below meth c (MQ below (QcS Z Rp) args s 0 0 (fun a => Z.2.2.1 < a))) Rp) := by
  unfold w_X10_hearInstalled_49
  refine s_aload_n (k := 2) C (by decide +kernel) ?_
  refine s_getI C w_1_55 (by decide +kernel) rfl ?_
  refine s_istore_n (k := 3) C (by decide +kernel) ?_
  refine s_aload_n (k := 1) C (by decide +kernel) ?_
  refine s_getR C w_2_30 (by decide +kernel) rfl ?_
  refine s_iload_n (k := 3) C (by decide +kernel) ?_
  refine s_aload_n (k := 1) C (by decide +kernel) ?_
  refine s_getR C w_2_30 (by decide +kernel) rfl ?_
  refine s_iload_n (k := 3) C (by decide +kernel) ?_
  refine s_iald C (by decide +kernel) ?_
  refine s_aload_n (k := 2) C (by decide +kernel) ?_
  refine s_getI C w_1_74 (by decide +kernel) rfl ?_
  refine s_max C w_3_167 w_3_168 w_1_16 w_max (by decide +kernel) ?_
  refine s_iast C (by decide +kernel) ?_
  refine s_aload_n (k := 1) C (by decide +kernel) ?_
  refine s_getR C w_2_28 (by decide +kernel) rfl ?_
  refine s_iload_n (k := 3) C (by decide +kernel) ?_
  refine s_aload_n (k := 1) C (by decide +kernel) ?_
  refine s_getR C w_2_28 (by decide +kernel) rfl ?_
  refine s_iload_n (k := 3) C (by decide +kernel) ?_
  refine s_iald C (by decide +kernel) ?_
  refine s_aload_n (k := 1) C (by decide +kernel) ?_
  refine s_getR C w_2_30 (by decide +kernel) rfl ?_
  refine s_iload_n (k := 3) C (by decide +kernel) ?_
  refine s_iald C (by decide +kernel) ?_
  refine s_iconst (n := 1) C (by decide +kernel) (by decide) ?_
  refine s_iadd C (by decide +kernel) ?_
  refine s_max C w_3_167 w_3_168 w_1_16 w_max (by decide +kernel) ?_
  refine s_iast C (by decide +kernel) ?_
  refine s_bipush (n := 24) C (by decide +kernel) (by decide) ?_
  exact s_iret C rfl (by decide +kernel)
theorem ms_X10_hearInstalled {Z : Zt} {d : Nat} {S : Sh} {μ : Mi} {ρ : Mr} {Rp : RT} (a0 : Nat) (a1 : Nat) (a2 : Nat) (h : ∀ G : Nat → PT, (∀ (L st : List Value) (S : Sh) (q : Nat × Nat) (μ : Mi) (ρ : Mr), w_X10_hearInstalled_19 (MS Z d) G Rp L st S q μ ρ → G 19 L st S q μ ρ) → (∀ (L st : List Value) (S : Sh) (q : Nat × Nat) (μ : Mi) (ρ : Mr), w_X10_hearInstalled_21 (MS Z d) G Rp L st S q μ ρ → G 21 L st S q μ ρ) → (∀ (L st : List Value) (S : Sh) (q : Nat × Nat) (μ : Mi) (ρ : Mr), w_X10_hearInstalled_40 (MS Z d) G Rp L st S q μ ρ → G 40 L st S q μ ρ) → (∀ (L st : List Value) (S : Sh) (q : Nat × Nat) (μ : Mi) (ρ : Mr), w_X10_hearInstalled_49 (MS Z d) G Rp L st S q μ ρ → G 49 L st S q μ ρ) → w_X10_hearInstalled_0 (MS Z d) G Rp [.ref a0, .ref a1, .ref a2, .null] [] S (0, 0) μ ρ) : MS Z (d + 1) jX10_hearInstalled [.ref a0, .ref a1, .ref a2] S μ ρ Rp :=
  MS_of [.ref a0, .ref a1, .ref a2, .null] (by decide +kernel) rfl rfl (Nat.le_of_ble_eq_true rfl) rfl (fun p e R s m args below meth c C => b_X10_hearInstalled_0 C _ _ _ _ _ _ (h _ (b_X10_hearInstalled_19 C) (b_X10_hearInstalled_21 C) (b_X10_hearInstalled_40 C) (b_X10_hearInstalled_49 C)))
def w_X10_hearNow_0 (M : CT) (G : Nat → PT) (Rp : RT) : PT := tAload 2 <| tGetI 2 10 3 <| tAload 1 <| tGetI 7 18 2 <| tIf2 (fun x y => x ≠ y) (G 34) <| tAload 1 <| tAload 1 <| tGetI 7 18 0 <| tCallV M jX7_isMember 7 18 1 <| tIf (fun x => x = 0) (G 34) <| tAload 1 <| tGetI 7 18 4 <| tConst 2 <| tIf2 (fun x y => x = y) (G 34) <| tConst 1 <| tGoto (G 35)
def w_X10_hearNow_34 (M : CT) (G : Nat → PT) (Rp : RT) : PT := tConst 0 <| G 35
def w_X10_hearNow_35 (M : CT) (G : Nat → PT) (Rp : RT) : PT := tIstore 3 <| tIload 3 <| tIf (fun x => x = 0) (G 54) <| tAload 1 <| tGetI 7 18 2 <| tConst 200 <| tIf2 (fun x y => y ≤ x) (G 54) <| tConst 1 <| tGoto (G 55)
def w_X10_hearNow_54 (M : CT) (G : Nat → PT) (Rp : RT) : PT := tConst 0 <| G 55
def w_X10_hearNow_55 (M : CT) (G : Nat → PT) (Rp : RT) : PT := tIret Rp
set_option maxRecDepth 20000 in
theorem b_X10_hearNow_0 {Z : Zt} {d : Nat} {p : Program} {e : Env} {R : Room} {s : State} {m : MethodId} {args : Array Value} {below : List Frame} {meth : Method} {c : Code} {Rp : RT} (C : Cx Z d jX10_hearNow RX10 p R s m args meth c) : Sd Z jX10_hearNow p e R s m args below meth c (MQ below (QcS Z Rp) args s 0 0 (fun a => Z.2.2.1 < a)) 0 (w_X10_hearNow_0 (MS Z d) (Gw Z 4 p e R s m args below meth c (MQ below (QcS Z Rp) args s 0 0 (fun a => Z.2.2.1 < a))) Rp) := by
  unfold w_X10_hearNow_0
  refine s_aload_n (k := 2) C (by decide +kernel) ?_
  refine s_getI C w_1_69 (by decide +kernel) rfl ?_
  refine s_aload_n (k := 1) C (by decide +kernel) ?_
  refine s_getI C w_1_227 (by decide +kernel) rfl ?_
  refine s_icmp_ne (off := 26) (tgt := 34) C (by decide +kernel) (by decide) (fun _ _ _ _ _ _ h => h) ?_
  refine s_aload_n (k := 1) C (by decide +kernel) ?_
  refine s_aload_n (k := 1) C (by decide +kernel) ?_
  refine s_getI C w_1_221 (by decide +kernel) rfl ?_
  refine s_callV C rfl rfl (by decide +kernel) rfl w_3_109 w_3_110 w_3_111 w_1_5 w_3_112 (by decide +kernel) ?_
  refine s_if_eq (off := 15) (tgt := 34) C (by decide +kernel) (by decide) (fun _ _ _ _ _ _ h => h) ?_
  refine s_aload_n (k := 1) C (by decide +kernel) ?_
  refine s_getI C w_1_234 (by decide +kernel) rfl ?_
  refine s_iconst (n := 2) C (by decide +kernel) (by decide) ?_
  refine s_icmp_eq (off := 7) (tgt := 34) C (by decide +kernel) (by decide) (fun _ _ _ _ _ _ h => h) ?_
  refine s_iconst (n := 1) C (by decide +kernel) (by decide) ?_
  exact s_goto (off := 4) (tgt := 35) C (by decide +kernel) (by decide) (fun _ _ _ _ _ _ h => h)
set_option maxRecDepth 20000 in
theorem b_X10_hearNow_34 {Z : Zt} {d : Nat} {p : Program} {e : Env} {R : Room} {s : State} {m : MethodId} {args : Array Value} {below : List Frame} {meth : Method} {c : Code} {Rp : RT} (C : Cx Z d jX10_hearNow RX10 p R s m args meth c) : Sd Z jX10_hearNow p e R s m args below meth c (MQ below (QcS Z Rp) args s 0 0 (fun a => Z.2.2.1 < a)) 34 (w_X10_hearNow_34 (MS Z d) (Gw Z 4 p e R s m args below meth c (MQ below (QcS Z Rp) args s 0 0 (fun a => Z.2.2.1 < a))) Rp) := by
  unfold w_X10_hearNow_34
  refine s_iconst (n := 0) C (by decide +kernel) (by decide) ?_
  exact (fun _ _ _ _ _ _ h => h)
set_option maxRecDepth 20000 in
theorem b_X10_hearNow_35 {Z : Zt} {d : Nat} {p : Program} {e : Env} {R : Room} {s : State} {m : MethodId} {args : Array Value} {below : List Frame} {meth : Method} {c : Code} {Rp : RT} (C : Cx Z d jX10_hearNow RX10 p R s m args meth c) : Sd Z jX10_hearNow p e R s m args below meth c (MQ below (QcS Z Rp) args s 0 0 (fun a => Z.2.2.1 < a)) 35 (w_X10_hearNow_35 (MS Z d) (Gw Z 4 p e R s m args below meth c (MQ below (QcS Z Rp) args s 0 0 (fun a => Z.2.2.1 < a))) Rp) := by
  unfold w_X10_hearNow_35
  refine s_istore_n (k := 3) C (by decide +kernel) ?_
  refine s_iload_n (k := 3) C (by decide +kernel) ?_
  refine s_if_eq (off := 17) (tgt := 54) C (by decide +kernel) (by decide) (fun _ _ _ _ _ _ h => h) ?_
  refine s_aload_n (k := 1) C (by decide +kernel) ?_
  refine s_getI C w_1_227 (by decide +kernel) rfl ?_
  refine s_sipush (n := 200) C (by decide +kernel) (by decide) ?_
  refine s_icmp_ge (off := 7) (tgt := 54) C (by decide +kernel) (by decide) (fun _ _ _ _ _ _ h => h) ?_
  refine s_iconst (n := 1) C (by decide +kernel) (by decide) ?_
  exact s_goto (off := 4) (tgt := 55) C (by decide +kernel) (by decide) (fun _ _ _ _ _ _ h => h)
set_option maxRecDepth 20000 in
theorem b_X10_hearNow_54 {Z : Zt} {d : Nat} {p : Program} {e : Env} {R : Room} {s : State} {m : MethodId} {args : Array Value} {below : List Frame} {meth : Method} {c : Code} {Rp : RT} (C : Cx Z d jX10_hearNow RX10 p R s m args meth c) : Sd Z jX10_hearNow p e R s m args below meth c (MQ below (QcS Z Rp) args s 0 0 (fun a => Z.2.2.1 < a)) 54 (w_X10_hearNow_54 (MS Z d) (Gw Z 4 p e R s m args below meth c (MQ below (QcS Z Rp) args s 0 0 (fun a => Z.2.2.1 < a))) Rp) := by
  unfold w_X10_hearNow_54
  refine s_iconst (n := 0) C (by decide +kernel) (by decide) ?_
  exact (fun _ _ _ _ _ _ h => h)
set_option maxRecDepth 20000 in
theorem b_X10_hearNow_55 {Z : Zt} {d : Nat} {p : Program} {e : Env} {R : Room} {s : State} {m : MethodId} {args : Array Value} {below : List Frame} {meth : Method} {c : Code} {Rp : RT} (C : Cx Z d jX10_hearNow RX10 p R s m args meth c) : Sd Z jX10_hearNow p e R s m args below meth c (MQ below (QcS Z Rp) args s 0 0 (fun a => Z.2.2.1 < a)) 55 (w_X10_hearNow_55 (MS Z d) (Gw Z 4 p e R s m args below meth c (MQ below (QcS Z Rp) args s 0 0 (fun a => Z.2.2.1 < a))) Rp) := by
  unfold w_X10_hearNow_55
  exact s_iret C rfl (by decide +kernel)
theorem ms_X10_hearNow {Z : Zt} {d : Nat} {S : Sh} {μ : Mi} {ρ : Mr} {Rp : RT} (a0 : Nat) (a1 : Nat) (a2 : Nat) (h : ∀ G : Nat → PT, (∀ (L st : List Value) (S : Sh) (q : Nat × Nat) (μ : Mi) (ρ : Mr), w_X10_hearNow_34 (MS Z d) G Rp L st S q μ ρ → G 34 L st S q μ ρ) → (∀ (L st : List Value) (S : Sh) (q : Nat × Nat) (μ : Mi) (ρ : Mr), w_X10_hearNow_35 (MS Z d) G Rp L st S q μ ρ → G 35 L st S q μ ρ) → (∀ (L st : List Value) (S : Sh) (q : Nat × Nat) (μ : Mi) (ρ : Mr), w_X10_hearNow_54 (MS Z d) G Rp L st S q μ ρ → G 54 L st S q μ ρ) → (∀ (L st : List Value) (S : Sh) (q : Nat × Nat) (μ : Mi) (ρ : Mr), w_X10_hearNow_55 (MS Z d) G Rp L st S q μ ρ → G 55 L st S q μ ρ) → w_X10_hearNow_0 (MS Z d) G Rp [.ref a0, .ref a1, .ref a2, .null] [] S (0, 0) μ ρ) : MS Z (d + 1) jX10_hearNow [.ref a0, .ref a1, .ref a2] S μ ρ Rp :=
  MS_of [.ref a0, .ref a1, .ref a2, .null] (by decide +kernel) rfl rfl (Nat.le_of_ble_eq_true rfl) rfl (fun p e R s m args below meth c C => b_X10_hearNow_0 C _ _ _ _ _ _ (h _ (b_X10_hearNow_34 C) (b_X10_hearNow_35 C) (b_X10_hearNow_54 C) (b_X10_hearNow_55 C)))
def w_X10_hearMay_0 (M : CT) (G : Nat → PT) (Rp : RT) : PT := tAload 2 <| tGetI 2 10 3 <| tAload 1 <| tGetI 7 18 2 <| tIf2 (fun x y => x ≤ y) (G 38) <| tAload 1 <| tGetI 7 18 4 <| tConst 2 <| tIf2 (fun x y => x = y) (G 38) <| tAload 1 <| tAload 2 <| tGetI 2 10 5 <| tAload 2 <| tGetI 2 10 4 <| tCallV M jX7_findsFresh 7 18 2 <| tIf (fun x => x = 0) (G 38) <| tConst 1 <| tGoto (G 39)
def w_X10_hearMay_38 (M : CT) (G : Nat → PT) (Rp : RT) : PT := tConst 0 <| G 39
def w_X10_hearMay_39 (M : CT) (G : Nat → PT) (Rp : RT) : PT := tIstore 3 <| tAload 0 <| tGetR 10 6 1 <| tAload 1 <| tGetI 7 18 0 <| tAload 2 <| tGetI 2 10 0 <| tConst 8 <| tIload 3 <| tIf (fun x => x = 0) (G 65) <| tAload 2 <| tGetI 2 10 3 <| tGoto (G 69)
def w_X10_hearMay_65 (M : CT) (G : Nat → PT) (Rp : RT) : PT := tAload 1 <| tGetI 7 18 2 <| G 69
def w_X10_hearMay_69 (M : CT) (G : Nat → PT) (Rp : RT) : PT := tCallV M jX1_post 1 6 4 <| tIload 3 <| tIf (fun x => x = 0) (G 80) <| tConst 1 <| tGoto (G 81)
def w_X10_hearMay_80 (M : CT) (G : Nat → PT) (Rp : RT) : PT := tConst 0 <| G 81
def w_X10_hearMay_81 (M : CT) (G : Nat → PT) (Rp : RT) : PT := tPutI 2 10 4 <| tVret Rp
set_option maxRecDepth 20000 in
theorem b_X10_hearMay_0 {Z : Zt} {d : Nat} {p : Program} {e : Env} {R : Room} {s : State} {m : MethodId} {args : Array Value} {below : List Frame} {meth : Method} {c : Code} {Rp : RT} (C : Cx Z d jX10_hearMay RX10 p R s m args meth c) : Sd Z jX10_hearMay p e R s m args below meth c (MQ below (QcS Z Rp) args s 0 0 (fun a => Z.2.2.1 < a)) 0 (w_X10_hearMay_0 (MS Z d) (Gw Z 4 p e R s m args below meth c (MQ below (QcS Z Rp) args s 0 0 (fun a => Z.2.2.1 < a))) Rp) := by
  unfold w_X10_hearMay_0
  refine s_aload_n (k := 2) C (by decide +kernel) ?_
  refine s_getI C w_1_69 (by decide +kernel) rfl ?_
  refine s_aload_n (k := 1) C (by decide +kernel) ?_
  refine s_getI C w_1_227 (by decide +kernel) rfl ?_
  refine s_icmp_le (off := 30) (tgt := 38) C (by decide +kernel) (by decide) (fun _ _ _ _ _ _ h => h) ?_
  refine s_aload_n (k := 1) C (by decide +kernel) ?_
  refine s_getI C w_1_234 (by decide +kernel) rfl ?_
  refine s_iconst (n := 2) C (by decide +kernel) (by decide) ?_
  refine s_icmp_eq (off := 22) (tgt := 38) C (by decide +kernel) (by decide) (fun _ _ _ _ _ _ h => h) ?_
  refine s_aload_n (k := 1) C (by decide +kernel) ?_
  refine s_aload_n (k := 2) C (by decide +kernel) ?_
  refine s_getI C w_1_79 (by decide +kernel) rfl ?_
  refine s_aload_n (k := 2) C (by decide +kernel) ?_
  refine s_getI C w_1_74 (by decide +kernel) rfl ?_
  refine s_callV C rfl rfl (by decide +kernel) rfl w_4_87 w_4_88 w_4_89 w_1_5 w_4_90 (by decide +kernel) ?_
  refine s_if_eq (off := 7) (tgt := 38) C (by decide +kernel) (by decide) (fun _ _ _ _ _ _ h => h) ?_
  refine s_iconst (n := 1) C (by decide +kernel) (by decide) ?_
  exact s_goto (off := 4) (tgt := 39) C (by decide +kernel) (by decide) (fun _ _ _ _ _ _ h => h)
set_option maxRecDepth 20000 in
theorem b_X10_hearMay_38 {Z : Zt} {d : Nat} {p : Program} {e : Env} {R : Room} {s : State} {m : MethodId} {args : Array Value} {below : List Frame} {meth : Method} {c : Code} {Rp : RT} (C : Cx Z d jX10_hearMay RX10 p R s m args meth c) : Sd Z jX10_hearMay p e R s m args below meth c (MQ below (QcS Z Rp) args s 0 0 (fun a => Z.2.2.1 < a)) 38 (w_X10_hearMay_38 (MS Z d) (Gw Z 4 p e R s m args below meth c (MQ below (QcS Z Rp) args s 0 0 (fun a => Z.2.2.1 < a))) Rp) := by
  unfold w_X10_hearMay_38
  refine s_iconst (n := 0) C (by decide +kernel) (by decide) ?_
  exact (fun _ _ _ _ _ _ h => h)
set_option maxRecDepth 20000 in
theorem b_X10_hearMay_39 {Z : Zt} {d : Nat} {p : Program} {e : Env} {R : Room} {s : State} {m : MethodId} {args : Array Value} {below : List Frame} {meth : Method} {c : Code} {Rp : RT} (C : Cx Z d jX10_hearMay RX10 p R s m args meth c) : Sd Z jX10_hearMay p e R s m args below meth c (MQ below (QcS Z Rp) args s 0 0 (fun a => Z.2.2.1 < a)) 39 (w_X10_hearMay_39 (MS Z d) (Gw Z 4 p e R s m args below meth c (MQ below (QcS Z Rp) args s 0 0 (fun a => Z.2.2.1 < a))) Rp) := by
  unfold w_X10_hearMay_39
  refine s_istore_n (k := 3) C (by decide +kernel) ?_
  refine s_aload_n (k := 0) C (by decide +kernel) ?_
  refine s_getR C w_2_117 (by decide +kernel) rfl ?_
  refine s_aload_n (k := 1) C (by decide +kernel) ?_
  refine s_getI C w_1_221 (by decide +kernel) rfl ?_
  refine s_aload_n (k := 2) C (by decide +kernel) ?_
  refine s_getI C w_1_55 (by decide +kernel) rfl ?_
  refine s_bipush (n := 8) C (by decide +kernel) (by decide) ?_
  refine s_iload_n (k := 3) C (by decide +kernel) ?_
  refine s_if_eq (off := 10) (tgt := 65) C (by decide +kernel) (by decide) (fun _ _ _ _ _ _ h => h) ?_
  refine s_aload_n (k := 2) C (by decide +kernel) ?_
  refine s_getI C w_1_69 (by decide +kernel) rfl ?_
  exact s_goto (off := 7) (tgt := 69) C (by decide +kernel) (by decide) (fun _ _ _ _ _ _ h => h)
set_option maxRecDepth 20000 in
theorem b_X10_hearMay_65 {Z : Zt} {d : Nat} {p : Program} {e : Env} {R : Room} {s : State} {m : MethodId} {args : Array Value} {below : List Frame} {meth : Method} {c : Code} {Rp : RT} (C : Cx Z d jX10_hearMay RX10 p R s m args meth c) : Sd Z jX10_hearMay p e R s m args below meth c (MQ below (QcS Z Rp) args s 0 0 (fun a => Z.2.2.1 < a)) 65 (w_X10_hearMay_65 (MS Z d) (Gw Z 4 p e R s m args below meth c (MQ below (QcS Z Rp) args s 0 0 (fun a => Z.2.2.1 < a))) Rp) := by
  unfold w_X10_hearMay_65
  refine s_aload_n (k := 1) C (by decide +kernel) ?_
  refine s_getI C w_1_227 (by decide +kernel) rfl ?_
  exact (fun _ _ _ _ _ _ h => h)
set_option maxRecDepth 20000 in
theorem b_X10_hearMay_69 {Z : Zt} {d : Nat} {p : Program} {e : Env} {R : Room} {s : State} {m : MethodId} {args : Array Value} {below : List Frame} {meth : Method} {c : Code} {Rp : RT} (C : Cx Z d jX10_hearMay RX10 p R s m args meth c) : Sd Z jX10_hearMay p e R s m args below meth c (MQ below (QcS Z Rp) args s 0 0 (fun a => Z.2.2.1 < a)) 69 (w_X10_hearMay_69 (MS Z d) (Gw Z 4 p e R s m args below meth c (MQ below (QcS Z Rp) args s 0 0 (fun a => Z.2.2.1 < a))) Rp) := by
  unfold w_X10_hearMay_69
  refine s_callV C rfl rfl (by decide +kernel) rfl w_3_125 w_3_126 w_3_127 w_1_3 w_3_128 (by decide +kernel) ?_
  refine s_iload_n (k := 3) C (by decide +kernel) ?_
  refine s_if_eq (off := 7) (tgt := 80) C (by decide +kernel) (by decide) (fun _ _ _ _ _ _ h => h) ?_
  refine s_iconst (n := 1) C (by decide +kernel) (by decide) ?_
  exact s_goto (off := 4) (tgt := 81) C (by decide +kernel) (by decide) (fun _ _ _ _ _ _ h => h)
set_option maxRecDepth 20000 in
theorem b_X10_hearMay_80 {Z : Zt} {d : Nat} {p : Program} {e : Env} {R : Room} {s : State} {m : MethodId} {args : Array Value} {below : List Frame} {meth : Method} {c : Code} {Rp : RT} (C : Cx Z d jX10_hearMay RX10 p R s m args meth c) : Sd Z jX10_hearMay p e R s m args below meth c (MQ below (QcS Z Rp) args s 0 0 (fun a => Z.2.2.1 < a)) 80 (w_X10_hearMay_80 (MS Z d) (Gw Z 4 p e R s m args below meth c (MQ below (QcS Z Rp) args s 0 0 (fun a => Z.2.2.1 < a))) Rp) := by
  unfold w_X10_hearMay_80
  refine s_iconst (n := 0) C (by decide +kernel) (by decide) ?_
  exact (fun _ _ _ _ _ _ h => h)
set_option maxRecDepth 20000 in
theorem b_X10_hearMay_81 {Z : Zt} {d : Nat} {p : Program} {e : Env} {R : Room} {s : State} {m : MethodId} {args : Array Value} {below : List Frame} {meth : Method} {c : Code} {Rp : RT} (C : Cx Z d jX10_hearMay RX10 p R s m args meth c) : Sd Z jX10_hearMay p e R s m args below meth c (MQ below (QcS Z Rp) args s 0 0 (fun a => Z.2.2.1 < a)) 81 (w_X10_hearMay_81 (MS Z d) (Gw Z 4 p e R s m args below meth c (MQ below (QcS Z Rp) args s 0 0 (fun a => Z.2.2.1 < a))) Rp) := by
  unfold w_X10_hearMay_81
  refine s_putI C w_1_74 (by decide +kernel) rfl (Or.inl rfl) ?_
  exact s_vret C rfl (by decide +kernel)
theorem ms_X10_hearMay {Z : Zt} {d : Nat} {S : Sh} {μ : Mi} {ρ : Mr} {Rp : RT} (a0 : Nat) (a1 : Nat) (a2 : Nat) (h : ∀ G : Nat → PT, (∀ (L st : List Value) (S : Sh) (q : Nat × Nat) (μ : Mi) (ρ : Mr), w_X10_hearMay_38 (MS Z d) G Rp L st S q μ ρ → G 38 L st S q μ ρ) → (∀ (L st : List Value) (S : Sh) (q : Nat × Nat) (μ : Mi) (ρ : Mr), w_X10_hearMay_39 (MS Z d) G Rp L st S q μ ρ → G 39 L st S q μ ρ) → (∀ (L st : List Value) (S : Sh) (q : Nat × Nat) (μ : Mi) (ρ : Mr), w_X10_hearMay_65 (MS Z d) G Rp L st S q μ ρ → G 65 L st S q μ ρ) → (∀ (L st : List Value) (S : Sh) (q : Nat × Nat) (μ : Mi) (ρ : Mr), w_X10_hearMay_69 (MS Z d) G Rp L st S q μ ρ → G 69 L st S q μ ρ) → (∀ (L st : List Value) (S : Sh) (q : Nat × Nat) (μ : Mi) (ρ : Mr), w_X10_hearMay_80 (MS Z d) G Rp L st S q μ ρ → G 80 L st S q μ ρ) → (∀ (L st : List Value) (S : Sh) (q : Nat × Nat) (μ : Mi) (ρ : Mr), w_X10_hearMay_81 (MS Z d) G Rp L st S q μ ρ → G 81 L st S q μ ρ) → w_X10_hearMay_0 (MS Z d) G Rp [.ref a0, .ref a1, .ref a2, .null] [] S (0, 0) μ ρ) : MS Z (d + 1) jX10_hearMay [.ref a0, .ref a1, .ref a2] S μ ρ Rp :=
  MS_of [.ref a0, .ref a1, .ref a2, .null] (by decide +kernel) rfl rfl (Nat.le_of_ble_eq_true rfl) rfl (fun p e R s m args below meth c C => b_X10_hearMay_0 C _ _ _ _ _ _ (h _ (b_X10_hearMay_38 C) (b_X10_hearMay_39 C) (b_X10_hearMay_65 C) (b_X10_hearMay_69 C) (b_X10_hearMay_80 C) (b_X10_hearMay_81 C)))
def w_X10_hearWould_0 (M : CT) (G : Nat → PT) (Rp : RT) : PT := tAload 1 <| tGetI 7 18 4 <| tConst 3 <| tIf2 (fun x y => x = y) (G 10) <| tConst 0 <| tIret Rp
def w_X10_hearWould_10 (M : CT) (G : Nat → PT) (Rp : RT) : PT := tAload 2 <| tGetI 2 10 4 <| tConst 1 <| tIf2 (fun x y => x ≠ y) (G 63) <| tAload 2 <| tGetI 2 10 3 <| tAload 1 <| tGetI 7 18 2 <| tConst 1 <| tBin (fun x y => x + y) <| tIf2 (fun x y => x ≠ y) (G 63) <| tAload 1 <| tDup <| tGetI 7 18 5 <| tConst 1 <| tAload 2 <| tGetI 2 10 0 <| tBin (fun x y => x <<< (y &&& 31)) <| tBin (fun x y => x ||| y) <| tPutI 7 18 5 <| tAload 1 <| tAload 1 <| tGetI 7 18 5 <| tCallV M jX7_isMajority 7 18 1 <| tIf (fun x => x = 0) (G 61) <| tConst 1 <| tGoto (G 62)
def w_X10_hearWould_61 (M : CT) (G : Nat → PT) (Rp : RT) : PT := tConst 0 <| G 62
def w_X10_hearWould_62 (M : CT) (G : Nat → PT) (Rp : RT) : PT := tIret Rp
def w_X10_hearWould_63 (M : CT) (G : Nat → PT) (Rp : RT) : PT := tAload 2 <| tGetI 2 10 4 <| tIf (fun x => x ≠ 0) (G 89) <| tAload 2 <| tGetI 2 10 3 <| tAload 1 <| tGetI 7 18 2 <| tIf2 (fun x y => x ≤ y) (G 89) <| tAload 1 <| tAload 2 <| tGetI 2 10 3 <| tCallV M jX7_fallBack 7 18 1 <| G 89
def w_X10_hearWould_89 (M : CT) (G : Nat → PT) (Rp : RT) : PT := tConst 0 <| tIret Rp
set_option maxRecDepth 20000 in
theorem b_X10_hearWould_0 {Z : Zt} {d : Nat} {p : Program} {e : Env} {R : Room} {s : State} {m : MethodId} {args : Array Value} {below : List Frame} {meth : Method} {c : Code} {Rp : RT} (C : Cx Z d jX10_hearWould RX10 p R s m args meth c) : Sd Z jX10_hearWould p e R s m args below meth c (MQ below (QcS Z Rp) args s 0 0 (fun a => Z.2.2.1 < a)) 0 (w_X10_hearWould_0 (MS Z d) (Gw Z 3 p e R s m args below meth c (MQ below (QcS Z Rp) args s 0 0 (fun a => Z.2.2.1 < a))) Rp) := by
  unfold w_X10_hearWould_0
  refine s_aload_n (k := 1) C (by decide +kernel) ?_
  refine s_getI C w_1_234 (by decide +kernel) rfl ?_
  refine s_iconst (n := 3) C (by decide +kernel) (by decide) ?_
  refine s_icmp_eq (off := 5) (tgt := 10) C (by decide +kernel) (by decide) (fun _ _ _ _ _ _ h => h) ?_
  refine s_iconst (n := 0) C (by decide +kernel) (by decide) ?_
  exact s_iret C rfl (by decide +kernel)
set_option maxRecDepth 20000 in
theorem b_X10_hearWould_10 {Z : Zt} {d : Nat} {p : Program} {e : Env} {R : Room} {s : State} {m : MethodId} {args : Array Value} {below : List Frame} {meth : Method} {c : Code} {Rp : RT} (C : Cx Z d jX10_hearWould RX10 p R s m args meth c) : Sd Z jX10_hearWould p e R s m args below meth c (MQ below (QcS Z Rp) args s 0 0 (fun a => Z.2.2.1 < a)) 10 (w_X10_hearWould_10 (MS Z d) (Gw Z 3 p e R s m args below meth c (MQ below (QcS Z Rp) args s 0 0 (fun a => Z.2.2.1 < a))) Rp) := by
  unfold w_X10_hearWould_10
  refine s_aload_n (k := 2) C (by decide +kernel) ?_
  refine s_getI C w_1_74 (by decide +kernel) rfl ?_
  refine s_iconst (n := 1) C (by decide +kernel) (by decide) ?_
  refine s_icmp_ne (off := 48) (tgt := 63) C (by decide +kernel) (by decide) (fun _ _ _ _ _ _ h => h) ?_
  refine s_aload_n (k := 2) C (by decide +kernel) ?_
  refine s_getI C w_1_69 (by decide +kernel) rfl ?_
  refine s_aload_n (k := 1) C (by decide +kernel) ?_
  refine s_getI C w_1_227 (by decide +kernel) rfl ?_
  refine s_iconst (n := 1) C (by decide +kernel) (by decide) ?_
  refine s_iadd C (by decide +kernel) ?_
  refine s_icmp_ne (off := 35) (tgt := 63) C (by decide +kernel) (by decide) (fun _ _ _ _ _ _ h => h) ?_
  refine s_aload_n (k := 1) C (by decide +kernel) ?_
  refine s_dup C (by decide +kernel) ?_
  refine s_getI C w_1_238 (by decide +kernel) rfl ?_
  refine s_iconst (n := 1) C (by decide +kernel) (by decide) ?_
  refine s_aload_n (k := 2) C (by decide +kernel) ?_
  refine s_getI C w_1_55 (by decide +kernel) rfl ?_
  refine s_ishl C (by decide +kernel) ?_
  refine s_ior C (by decide +kernel) ?_
  refine s_putI C w_1_238 (by decide +kernel) rfl (Or.inl rfl) ?_
  refine s_aload_n (k := 1) C (by decide +kernel) ?_
  refine s_aload_n (k := 1) C (by decide +kernel) ?_
  refine s_getI C w_1_238 (by decide +kernel) rfl ?_
  refine s_callV C rfl rfl (by decide +kernel) rfl w_3_133 w_3_134 w_3_135 w_1_5 w_3_136 (by decide +kernel) ?_
  refine s_if_eq (off := 7) (tgt := 61) C (by decide +kernel) (by decide) (fun _ _ _ _ _ _ h => h) ?_
  refine s_iconst (n := 1) C (by decide +kernel) (by decide) ?_
  exact s_goto (off := 4) (tgt := 62) C (by decide +kernel) (by decide) (fun _ _ _ _ _ _ h => h)
set_option maxRecDepth 20000 in
theorem b_X10_hearWould_61 {Z : Zt} {d : Nat} {p : Program} {e : Env} {R : Room} {s : State} {m : MethodId} {args : Array Value} {below : List Frame} {meth : Method} {c : Code} {Rp : RT} (C : Cx Z d jX10_hearWould RX10 p R s m args meth c) : Sd Z jX10_hearWould p e R s m args below meth c (MQ below (QcS Z Rp) args s 0 0 (fun a => Z.2.2.1 < a)) 61 (w_X10_hearWould_61 (MS Z d) (Gw Z 3 p e R s m args below meth c (MQ below (QcS Z Rp) args s 0 0 (fun a => Z.2.2.1 < a))) Rp) := by
  unfold w_X10_hearWould_61
  refine s_iconst (n := 0) C (by decide +kernel) (by decide) ?_
  exact (fun _ _ _ _ _ _ h => h)
set_option maxRecDepth 20000 in
theorem b_X10_hearWould_62 {Z : Zt} {d : Nat} {p : Program} {e : Env} {R : Room} {s : State} {m : MethodId} {args : Array Value} {below : List Frame} {meth : Method} {c : Code} {Rp : RT} (C : Cx Z d jX10_hearWould RX10 p R s m args meth c) : Sd Z jX10_hearWould p e R s m args below meth c (MQ below (QcS Z Rp) args s 0 0 (fun a => Z.2.2.1 < a)) 62 (w_X10_hearWould_62 (MS Z d) (Gw Z 3 p e R s m args below meth c (MQ below (QcS Z Rp) args s 0 0 (fun a => Z.2.2.1 < a))) Rp) := by
  unfold w_X10_hearWould_62
  exact s_iret C rfl (by decide +kernel)
set_option maxRecDepth 20000 in
theorem b_X10_hearWould_63 {Z : Zt} {d : Nat} {p : Program} {e : Env} {R : Room} {s : State} {m : MethodId} {args : Array Value} {below : List Frame} {meth : Method} {c : Code} {Rp : RT} (C : Cx Z d jX10_hearWould RX10 p R s m args meth c) : Sd Z jX10_hearWould p e R s m args below meth c (MQ below (QcS Z Rp) args s 0 0 (fun a => Z.2.2.1 < a)) 63 (w_X10_hearWould_63 (MS Z d) (Gw Z 3 p e R s m args below meth c (MQ below (QcS Z Rp) args s 0 0 (fun a => Z.2.2.1 < a))) Rp) := by
  unfold w_X10_hearWould_63
  refine s_aload_n (k := 2) C (by decide +kernel) ?_
  refine s_getI C w_1_74 (by decide +kernel) rfl ?_
  refine s_if_ne (off := 22) (tgt := 89) C (by decide +kernel) (by decide) (fun _ _ _ _ _ _ h => h) ?_
  refine s_aload_n (k := 2) C (by decide +kernel) ?_
  refine s_getI C w_1_69 (by decide +kernel) rfl ?_
  refine s_aload_n (k := 1) C (by decide +kernel) ?_
  refine s_getI C w_1_227 (by decide +kernel) rfl ?_
  refine s_icmp_le (off := 11) (tgt := 89) C (by decide +kernel) (by decide) (fun _ _ _ _ _ _ h => h) ?_
  refine s_aload_n (k := 1) C (by decide +kernel) ?_
  refine s_aload_n (k := 2) C (by decide +kernel) ?_
  refine s_getI C w_1_69 (by decide +kernel) rfl ?_
  refine s_callV C rfl rfl (by decide +kernel) rfl w_4_79 w_4_80 w_4_81 w_1_5 w_4_82 (by decide +kernel) ?_
  exact (fun _ _ _ _ _ _ h => h)
set_option maxRecDepth 20000 in
theorem b_X10_hearWould_89 {Z : Zt} {d : Nat} {p : Program} {e : Env} {R : Room} {s : State} {m : MethodId} {args : Array Value} {below : List Frame} {meth : Method} {c : Code} {Rp : RT} (C : Cx Z d jX10_hearWould RX10 p R s m args meth c) : Sd Z jX10_hearWould p e R s m args below meth c (MQ below (QcS Z Rp) args s 0 0 (fun a => Z.2.2.1 < a)) 89 (w_X10_hearWould_89 (MS Z d) (Gw Z 3 p e R s m args below meth c (MQ below (QcS Z Rp) args s 0 0 (fun a => Z.2.2.1 < a))) Rp) := by
  unfold w_X10_hearWould_89
  refine s_iconst (n := 0) C (by decide +kernel) (by decide) ?_
  exact s_iret C rfl (by decide +kernel)
theorem ms_X10_hearWould {Z : Zt} {d : Nat} {S : Sh} {μ : Mi} {ρ : Mr} {Rp : RT} (a0 : Nat) (a1 : Nat) (a2 : Nat) (h : ∀ G : Nat → PT, (∀ (L st : List Value) (S : Sh) (q : Nat × Nat) (μ : Mi) (ρ : Mr), w_X10_hearWould_10 (MS Z d) G Rp L st S q μ ρ → G 10 L st S q μ ρ) → (∀ (L st : List Value) (S : Sh) (q : Nat × Nat) (μ : Mi) (ρ : Mr), w_X10_hearWould_61 (MS Z d) G Rp L st S q μ ρ → G 61 L st S q μ ρ) → (∀ (L st : List Value) (S : Sh) (q : Nat × Nat) (μ : Mi) (ρ : Mr), w_X10_hearWould_62 (MS Z d) G Rp L st S q μ ρ → G 62 L st S q μ ρ) → (∀ (L st : List Value) (S : Sh) (q : Nat × Nat) (μ : Mi) (ρ : Mr), w_X10_hearWould_63 (MS Z d) G Rp L st S q μ ρ → G 63 L st S q μ ρ) → (∀ (L st : List Value) (S : Sh) (q : Nat × Nat) (μ : Mi) (ρ : Mr), w_X10_hearWould_89 (MS Z d) G Rp L st S q μ ρ → G 89 L st S q μ ρ) → w_X10_hearWould_0 (MS Z d) G Rp [.ref a0, .ref a1, .ref a2] [] S (0, 0) μ ρ) : MS Z (d + 1) jX10_hearWould [.ref a0, .ref a1, .ref a2] S μ ρ Rp :=
  MS_of [.ref a0, .ref a1, .ref a2] (by decide +kernel) rfl rfl (Nat.le_of_ble_eq_true rfl) rfl (fun p e R s m args below meth c C => b_X10_hearWould_0 C _ _ _ _ _ _ (h _ (b_X10_hearWould_10 C) (b_X10_hearWould_61 C) (b_X10_hearWould_62 C) (b_X10_hearWould_63 C) (b_X10_hearWould_89 C)))
def w_X10_finish_0 (M : CT) (G : Nat → PT) (Rp : RT) : PT := tIload 2 <| tIstore 4 <| tIload 4 <| tConst 1 <| tBin (fun x y => x &&& y) <| tIf (fun x => x = 0) (G 20) <| tIload 4 <| tAload 0 <| tAload 1 <| tCallV M jX10_stand 10 6 1 <| tBin (fun x y => x ||| y) <| tIstore 4 <| G 20
def w_X10_finish_20 (M : CT) (G : Nat → PT) (Rp : RT) : PT := tIload 4 <| tConst 2 <| tBin (fun x y => x &&& y) <| tIf (fun x => x = 0) (G 39) <| tAload 0 <| tAload 1 <| tCallV M jX10_lead 10 6 1 <| tIload 4 <| tConst 12 <| tBin (fun x y => x ||| y) <| tIstore 4 <| G 39
def w_X10_finish_39 (M : CT) (G : Nat → PT) (Rp : RT) : PT := tIload 4 <| tConst 4 <| tBin (fun x y => x &&& y) <| tIf (fun x => x = 0) (G 50) <| tConst 1 <| tGoto (G 51)
def w_X10_finish_50 (M : CT) (G : Nat → PT) (Rp : RT) : PT := tConst 0 <| G 51
def w_X10_finish_51 (M : CT) (G : Nat → PT) (Rp : RT) : PT := tIstore 5 <| tIload 4 <| tConst 8 <| tBin (fun x y => x &&& y) <| tIf (fun x => x = 0) (G 65) <| tConst 1 <| tGoto (G 66)
def w_X10_finish_65 (M : CT) (G : Nat → PT) (Rp : RT) : PT := tConst 0 <| G 66
def w_X10_finish_66 (M : CT) (G : Nat → PT) (Rp : RT) : PT := tIstore 6 <| tConst 0 <| tIstore 7 <| G 71
def w_X10_finish_71 (M : CT) (G : Nat → PT) (Rp : RT) : PT := tIload 7 <| tConst 8 <| tIf2 (fun x y => y ≤ x) (G 143) <| tIload 5 <| tIf (fun x => x ≠ 0) (G 88) <| tIload 6 <| tIf (fun x => x = 0) (G 143) <| G 88
def w_X10_finish_88 (M : CT) (G : Nat → PT) (Rp : RT) : PT := tIload 5 <| tIf (fun x => x = 0) (G 98) <| tAload 0 <| tAload 1 <| tCallV M jX10_sendToAll 10 6 1 <| G 98
def w_X10_finish_98 (M : CT) (G : Nat → PT) (Rp : RT) : PT := tIload 6 <| tIf (fun x => x = 0) (G 113) <| tAload 0 <| tAload 1 <| tAload 0 <| tAload 1 <| tCallV M jX10_greatestShared 10 6 1 <| tCallV M jX10_agreeUpTo 10 6 2 <| G 113
def w_X10_finish_113 (M : CT) (G : Nat → PT) (Rp : RT) : PT := tIload 6 <| tIf (fun x => x = 0) (G 130) <| tAload 0 <| tAload 1 <| tCallV M jX10_leavesJoint 10 6 1 <| tIf (fun x => x = 0) (G 130) <| tConst 1 <| tGoto (G 131)
def w_X10_finish_130 (M : CT) (G : Nat → PT) (Rp : RT) : PT := tConst 0 <| G 131
def w_X10_finish_131 (M : CT) (G : Nat → PT) (Rp : RT) : PT := tIstore 5 <| tIload 5 <| tIstore 6 <| tIinc 7 1 <| tGoto (G 71)
def w_X10_finish_143 (M : CT) (G : Nat → PT) (Rp : RT) : PT := tIload 4 <| tConst 16 <| tBin (fun x y => x &&& y) <| tIf (fun x => x = 0) (G 178) <| tAload 1 <| tGetI 7 18 4 <| tConst 2 <| tIf2 (fun x y => x ≠ y) (G 178) <| tAload 1 <| tGetR 7 18 14 <| tIload 3 <| tAld 20 <| tAload 1 <| tGetI 7 18 7 <| tIf2 (fun x y => y < x) (G 178) <| tAload 0 <| tAload 1 <| tIload 3 <| tCallV M jX10_send 10 6 2 <| G 178
def w_X10_finish_178 (M : CT) (G : Nat → PT) (Rp : RT) : PT := tVret Rp
set_option maxRecDepth 20000 in
theorem b_X10_finish_0 {Z : Zt} {d : Nat} {p : Program} {e : Env} {R : Room} {s : State} {m : MethodId} {args : Array Value} {below : List Frame} {meth : Method} {c : Code} {Rp : RT} (C : Cx Z d jX10_finish RX10 p R s m args meth c) : Sd Z jX10_finish p e R s m args below meth c (MQ below (QcS Z Rp) args s 0 0 (fun a => Z.2.2.1 < a)) 0 (w_X10_finish_0 (MS Z d) (Gw Z 8 p e R s m args below meth c (MQ below (QcS Z Rp) args s 0 0 (fun a => Z.2.2.1 < a))) Rp) := by
  unfold w_X10_finish_0
  refine s_iload_n (k := 2) C (by decide +kernel) ?_
  refine s_istore (k := 4) C (by decide +kernel) ?_
  refine s_iload (k := 4) C (by decide +kernel) ?_
  refine s_iconst (n := 1) C (by decide +kernel) (by decide) ?_
  refine s_iand C (by decide +kernel) ?_
  refine s_if_eq (off := 13) (tgt := 20) C (by decide +kernel) (by decide) (fun _ _ _ _ _ _ h => h) ?_
  refine s_iload (k := 4) C (by decide +kernel) ?_
  refine s_aload_n (k := 0) C (by decide +kernel) ?_
  refine s_aload_n (k := 1) C (by decide +kernel) ?_
  refine s_callV C rfl rfl (by decide +kernel) rfl w_3_142 w_3_144 w_p1_6 w_1_2 w_3_145 (by decide +kernel) ?_
  refine s_ior C (by decide +kernel) ?_
  refine s_istore (k := 4) C (by decide +kernel) ?_
  exact (fun _ _ _ _ _ _ h => h)
set_option maxRecDepth 20000 in
theorem b_X10_finish_20 {Z : Zt} {d : Nat} {p : Program} {e : Env} {R : Room} {s : State} {m : MethodId} {args : Array Value} {below : List Frame} {meth : Method} {c : Code} {Rp : RT} (C : Cx Z d jX10_finish RX10 p R s m args meth c) : Sd Z jX10_finish p e R s m args below meth c (MQ below (QcS Z Rp) args s 0 0 (fun a => Z.2.2.1 < a)) 20 (w_X10_finish_20 (MS Z d) (Gw Z 8 p e R s m args below meth c (MQ below (QcS Z Rp) args s 0 0 (fun a => Z.2.2.1 < a))) Rp) := by
  unfold w_X10_finish_20
  refine s_iload (k := 4) C (by decide +kernel) ?_
  refine s_iconst (n := 2) C (by decide +kernel) (by decide) ?_
  refine s_iand C (by decide +kernel) ?_
  refine s_if_eq (off := 15) (tgt := 39) C (by decide +kernel) (by decide) (fun _ _ _ _ _ _ h => h) ?_
  refine s_aload_n (k := 0) C (by decide +kernel) ?_
  refine s_aload_n (k := 1) C (by decide +kernel) ?_
  refine s_callV C rfl rfl (by decide +kernel) rfl w_3_146 w_3_148 w_p1_7 w_1_2 w_3_149 (by decide +kernel) ?_
  refine s_iload (k := 4) C (by decide +kernel) ?_
  refine s_bipush (n := 12) C (by decide +kernel) (by decide) ?_
  refine s_ior C (by decide +kernel) ?_
  refine s_istore (k := 4) C (by decide +kernel) ?_
  exact (fun _ _ _ _ _ _ h => h)
set_option maxRecDepth 20000 in
theorem b_X10_finish_39 {Z : Zt} {d : Nat} {p : Program} {e : Env} {R : Room} {s : State} {m : MethodId} {args : Array Value} {below : List Frame} {meth : Method} {c : Code} {Rp : RT} (C : Cx Z d jX10_finish RX10 p R s m args meth c) : Sd Z jX10_finish p e R s m args below meth c (MQ below (QcS Z Rp) args s 0 0 (fun a => Z.2.2.1 < a)) 39 (w_X10_finish_39 (MS Z d) (Gw Z 8 p e R s m args below meth c (MQ below (QcS Z Rp) args s 0 0 (fun a => Z.2.2.1 < a))) Rp) := by
  unfold w_X10_finish_39
  refine s_iload (k := 4) C (by decide +kernel) ?_
  refine s_iconst (n := 4) C (by decide +kernel) (by decide) ?_
  refine s_iand C (by decide +kernel) ?_
  refine s_if_eq (off := 7) (tgt := 50) C (by decide +kernel) (by decide) (fun _ _ _ _ _ _ h => h) ?_
  refine s_iconst (n := 1) C (by decide +kernel) (by decide) ?_
  exact s_goto (off := 4) (tgt := 51) C (by decide +kernel) (by decide) (fun _ _ _ _ _ _ h => h)
set_option maxRecDepth 20000 in
theorem b_X10_finish_50 {Z : Zt} {d : Nat} {p : Program} {e : Env} {R : Room} {s : State} {m : MethodId} {args : Array Value} {below : List Frame} {meth : Method} {c : Code} {Rp : RT} (C : Cx Z d jX10_finish RX10 p R s m args meth c) : Sd Z jX10_finish p e R s m args below meth c (MQ below (QcS Z Rp) args s 0 0 (fun a => Z.2.2.1 < a)) 50 (w_X10_finish_50 (MS Z d) (Gw Z 8 p e R s m args below meth c (MQ below (QcS Z Rp) args s 0 0 (fun a => Z.2.2.1 < a))) Rp) := by
  unfold w_X10_finish_50
  refine s_iconst (n := 0) C (by decide +kernel) (by decide) ?_
  exact (fun _ _ _ _ _ _ h => h)
set_option maxRecDepth 20000 in
theorem b_X10_finish_51 {Z : Zt} {d : Nat} {p : Program} {e : Env} {R : Room} {s : State} {m : MethodId} {args : Array Value} {below : List Frame} {meth : Method} {c : Code} {Rp : RT} (C : Cx Z d jX10_finish RX10 p R s m args meth c) : Sd Z jX10_finish p e R s m args below meth c (MQ below (QcS Z Rp) args s 0 0 (fun a => Z.2.2.1 < a)) 51 (w_X10_finish_51 (MS Z d) (Gw Z 8 p e R s m args below meth c (MQ below (QcS Z Rp) args s 0 0 (fun a => Z.2.2.1 < a))) Rp) := by
  unfold w_X10_finish_51
  refine s_istore (k := 5) C (by decide +kernel) ?_
  refine s_iload (k := 4) C (by decide +kernel) ?_
  refine s_bipush (n := 8) C (by decide +kernel) (by decide) ?_
  refine s_iand C (by decide +kernel) ?_
  refine s_if_eq (off := 7) (tgt := 65) C (by decide +kernel) (by decide) (fun _ _ _ _ _ _ h => h) ?_
  refine s_iconst (n := 1) C (by decide +kernel) (by decide) ?_
  exact s_goto (off := 4) (tgt := 66) C (by decide +kernel) (by decide) (fun _ _ _ _ _ _ h => h)
set_option maxRecDepth 20000 in
theorem b_X10_finish_65 {Z : Zt} {d : Nat} {p : Program} {e : Env} {R : Room} {s : State} {m : MethodId} {args : Array Value} {below : List Frame} {meth : Method} {c : Code} {Rp : RT} (C : Cx Z d jX10_finish RX10 p R s m args meth c) : Sd Z jX10_finish p e R s m args below meth c (MQ below (QcS Z Rp) args s 0 0 (fun a => Z.2.2.1 < a)) 65 (w_X10_finish_65 (MS Z d) (Gw Z 8 p e R s m args below meth c (MQ below (QcS Z Rp) args s 0 0 (fun a => Z.2.2.1 < a))) Rp) := by
  unfold w_X10_finish_65
  refine s_iconst (n := 0) C (by decide +kernel) (by decide) ?_
  exact (fun _ _ _ _ _ _ h => h)
set_option maxRecDepth 20000 in
theorem b_X10_finish_66 {Z : Zt} {d : Nat} {p : Program} {e : Env} {R : Room} {s : State} {m : MethodId} {args : Array Value} {below : List Frame} {meth : Method} {c : Code} {Rp : RT} (C : Cx Z d jX10_finish RX10 p R s m args meth c) : Sd Z jX10_finish p e R s m args below meth c (MQ below (QcS Z Rp) args s 0 0 (fun a => Z.2.2.1 < a)) 66 (w_X10_finish_66 (MS Z d) (Gw Z 8 p e R s m args below meth c (MQ below (QcS Z Rp) args s 0 0 (fun a => Z.2.2.1 < a))) Rp) := by
  unfold w_X10_finish_66
  refine s_istore (k := 6) C (by decide +kernel) ?_
  refine s_iconst (n := 0) C (by decide +kernel) (by decide) ?_
  refine s_istore (k := 7) C (by decide +kernel) ?_
  exact (fun _ _ _ _ _ _ h => h)
set_option maxRecDepth 20000 in
theorem b_X10_finish_71 {Z : Zt} {d : Nat} {p : Program} {e : Env} {R : Room} {s : State} {m : MethodId} {args : Array Value} {below : List Frame} {meth : Method} {c : Code} {Rp : RT} (C : Cx Z d jX10_finish RX10 p R s m args meth c) : Sd Z jX10_finish p e R s m args below meth c (MQ below (QcS Z Rp) args s 0 0 (fun a => Z.2.2.1 < a)) 71 (w_X10_finish_71 (MS Z d) (Gw Z 8 p e R s m args below meth c (MQ below (QcS Z Rp) args s 0 0 (fun a => Z.2.2.1 < a))) Rp) := by
  unfold w_X10_finish_71
  refine s_iload (k := 7) C (by decide +kernel) ?_
  refine s_bipush (n := 8) C (by decide +kernel) (by decide) ?_
  refine s_icmp_ge (off := 68) (tgt := 143) C (by decide +kernel) (by decide) (fun _ _ _ _ _ _ h => h) ?_
  refine s_iload (k := 5) C (by decide +kernel) ?_
  refine s_if_ne (off := 8) (tgt := 88) C (by decide +kernel) (by decide) (fun _ _ _ _ _ _ h => h) ?_
  refine s_iload (k := 6) C (by decide +kernel) ?_
  refine s_if_eq (off := 58) (tgt := 143) C (by decide +kernel) (by decide) (fun _ _ _ _ _ _ h => h) ?_
  exact (fun _ _ _ _ _ _ h => h)
set_option maxRecDepth 20000 in
theorem b_X10_finish_88 {Z : Zt} {d : Nat} {p : Program} {e : Env} {R : Room} {s : State} {m : MethodId} {args : Array Value} {below : List Frame} {meth : Method} {c : Code} {Rp : RT} (C : Cx Z d jX10_finish RX10 p R s m args meth c) : Sd Z jX10_finish p e R s m args below meth c (MQ below (QcS Z Rp) args s 0 0 (fun a => Z.2.2.1 < a)) 88 (w_X10_finish_88 (MS Z d) (Gw Z 8 p e R s m args below meth c (MQ below (QcS Z Rp) args s 0 0 (fun a => Z.2.2.1 < a))) Rp) := by
  unfold w_X10_finish_88
  refine s_iload (k := 5) C (by decide +kernel) ?_
  refine s_if_eq (off := 8) (tgt := 98) C (by decide +kernel) (by decide) (fun _ _ _ _ _ _ h => h) ?_
  refine s_aload_n (k := 0) C (by decide +kernel) ?_
  refine s_aload_n (k := 1) C (by decide +kernel) ?_
  refine s_callV C rfl rfl (by decide +kernel) rfl w_3_158 w_3_159 w_3_160 w_1_2 w_3_161 (by decide +kernel) ?_
  exact (fun _ _ _ _ _ _ h => h)
set_option maxRecDepth 20000 in
theorem b_X10_finish_98 {Z : Zt} {d : Nat} {p : Program} {e : Env} {R : Room} {s : State} {m : MethodId} {args : Array Value} {below : List Frame} {meth : Method} {c : Code} {Rp : RT} (C : Cx Z d jX10_finish RX10 p R s m args meth c) : Sd Z jX10_finish p e R s m args below meth c (MQ below (QcS Z Rp) args s 0 0 (fun a => Z.2.2.1 < a)) 98 (w_X10_finish_98 (MS Z d) (Gw Z 8 p e R s m args below meth c (MQ below (QcS Z Rp) args s 0 0 (fun a => Z.2.2.1 < a))) Rp) := by
  unfold w_X10_finish_98
  refine s_iload (k := 6) C (by decide +kernel) ?_
  refine s_if_eq (off := 13) (tgt := 113) C (by decide +kernel) (by decide) (fun _ _ _ _ _ _ h => h) ?_
  refine s_aload_n (k := 0) C (by decide +kernel) ?_
  refine s_aload_n (k := 1) C (by decide +kernel) ?_
  refine s_aload_n (k := 0) C (by decide +kernel) ?_
  refine s_aload_n (k := 1) C (by decide +kernel) ?_
  refine s_callV C rfl rfl (by decide +kernel) rfl w_3_170 w_3_172 w_p1_8 w_1_2 w_3_173 (by decide +kernel) ?_
  refine s_callV C rfl rfl (by decide +kernel) rfl w_3_177 w_3_179 w_p1_9 w_1_2 w_3_180 (by decide +kernel) ?_
  exact (fun _ _ _ _ _ _ h => h)
set_option maxRecDepth 20000 in
theorem b_X10_finish_113 {Z : Zt} {d : Nat} {p : Program} {e : Env} {R : Room} {s : State} {m : MethodId} {args : Array Value} {below : List Frame} {meth : Method} {c : Code} {Rp : RT} (C : Cx Z d jX10_finish RX10 p R s m args meth c) : Sd Z jX10_finish p e R s m args below meth c (MQ below (QcS Z Rp) args s 0 0 (fun a => Z.2.2.1 < a)) 113 (w_X10_finish_113 (MS Z d) (Gw Z 8 p e R s m args below meth c (MQ below (QcS Z Rp) args s 0 0 (fun a => Z.2.2.1 < a))) Rp) := by
  unfold w_X10_finish_113
  refine s_iload (k := 6) C (by decide +kernel) ?_
  refine s_if_eq (off := 15) (tgt := 130) C (by decide +kernel) (by decide) (fun _ _ _ _ _ _ h => h) ?_
  refine s_aload_n (k := 0) C (by decide +kernel) ?_
  refine s_aload_n (k := 1) C (by decide +kernel) ?_
  refine s_callV C rfl rfl (by decide +kernel) rfl w_3_186 w_3_188 w_p1_10 w_1_2 w_3_189 (by decide +kernel) ?_
  refine s_if_eq (off := 7) (tgt := 130) C (by decide +kernel) (by decide) (fun _ _ _ _ _ _ h => h) ?_
  refine s_iconst (n := 1) C (by decide +kernel) (by decide) ?_
  exact s_goto (off := 4) (tgt := 131) C (by decide +kernel) (by decide) (fun _ _ _ _ _ _ h => h)
set_option maxRecDepth 20000 in
theorem b_X10_finish_130 {Z : Zt} {d : Nat} {p : Program} {e : Env} {R : Room} {s : State} {m : MethodId} {args : Array Value} {below : List Frame} {meth : Method} {c : Code} {Rp : RT} (C : Cx Z d jX10_finish RX10 p R s m args meth c) : Sd Z jX10_finish p e R s m args below meth c (MQ below (QcS Z Rp) args s 0 0 (fun a => Z.2.2.1 < a)) 130 (w_X10_finish_130 (MS Z d) (Gw Z 8 p e R s m args below meth c (MQ below (QcS Z Rp) args s 0 0 (fun a => Z.2.2.1 < a))) Rp) := by
  unfold w_X10_finish_130
  refine s_iconst (n := 0) C (by decide +kernel) (by decide) ?_
  exact (fun _ _ _ _ _ _ h => h)
set_option maxRecDepth 20000 in
theorem b_X10_finish_131 {Z : Zt} {d : Nat} {p : Program} {e : Env} {R : Room} {s : State} {m : MethodId} {args : Array Value} {below : List Frame} {meth : Method} {c : Code} {Rp : RT} (C : Cx Z d jX10_finish RX10 p R s m args meth c) : Sd Z jX10_finish p e R s m args below meth c (MQ below (QcS Z Rp) args s 0 0 (fun a => Z.2.2.1 < a)) 131 (w_X10_finish_131 (MS Z d) (Gw Z 8 p e R s m args below meth c (MQ below (QcS Z Rp) args s 0 0 (fun a => Z.2.2.1 < a))) Rp) := by
  unfold w_X10_finish_131
  refine s_istore (k := 5) C (by decide +kernel) ?_
  refine s_iload (k := 5) C (by decide +kernel) ?_
  refine s_istore (k := 6) C (by decide +kernel) ?_
  refine s_iinc (n := 1) C (by decide +kernel) (by decide) ?_
  exact s_goto (off := (-69)) (tgt := 71) C (by decide +kernel) (by decide) (fun _ _ _ _ _ _ h => h)
set_option maxRecDepth 20000 in
theorem b_X10_finish_143 {Z : Zt} {d : Nat} {p : Program} {e : Env} {R : Room} {s : State} {m : MethodId} {args : Array Value} {below : List Frame} {meth : Method} {c : Code} {Rp : RT} (C : Cx Z d jX10_finish RX10 p R s m args meth c) : Sd Z jX10_finish p e R s m args below meth c (MQ below (QcS Z Rp) args s 0 0 (fun a => Z.2.2.1 < a)) 143 (w_X10_finish_143 (MS Z d) (Gw Z 8 p e R s m args below meth c (MQ below (QcS Z Rp) args s 0 0 (fun a => Z.2.2.1 < a))) Rp) := by
  unfold w_X10_finish_143
  refine s_iload (k := 4) C (by decide +kernel) ?_
  refine s_bipush (n := 16) C (by decide +kernel) (by decide) ?_
  refine s_iand C (by decide +kernel) ?_
  refine s_if_eq (off := 30) (tgt := 178) C (by decide +kernel) (by decide) (fun _ _ _ _ _ _ h => h) ?_
  refine s_aload_n (k := 1) C (by decide +kernel) ?_
  refine s_getI C w_1_234 (by decide +kernel) rfl ?_
  refine s_iconst (n := 2) C (by decide +kernel) (by decide) ?_
  refine s_icmp_ne (off := 22) (tgt := 178) C (by decide +kernel) (by decide) (fun _ _ _ _ _ _ h => h) ?_
  refine s_aload_n (k := 1) C (by decide +kernel) ?_
  refine s_getR C w_2_28 (by decide +kernel) rfl ?_
  refine s_iload_n (k := 3) C (by decide +kernel) ?_
  refine s_iald C (by decide +kernel) ?_
  refine s_aload_n (k := 1) C (by decide +kernel) ?_
  refine s_getI C w_2_5 (by decide +kernel) rfl ?_
  refine s_icmp_gt (off := 9) (tgt := 178) C (by decide +kernel) (by decide) (fun _ _ _ _ _ _ h => h) ?_
  refine s_aload_n (k := 0) C (by decide +kernel) ?_
  refine s_aload_n (k := 1) C (by decide +kernel) ?_
  refine s_iload_n (k := 3) C (by decide +kernel) ?_
  refine s_callV C rfl rfl (by decide +kernel) rfl w_3_162 w_3_163 w_3_164 w_1_2 w_3_165 (by decide +kernel) ?_
  exact (fun _ _ _ _ _ _ h => h)
set_option maxRecDepth 20000 in
theorem b_X10_finish_178 {Z : Zt} {d : Nat} {p : Program} {e : Env} {R : Room} {s : State} {m : MethodId} {args : Array Value} {below : List Frame} {meth : Method} {c : Code} {Rp : RT} (C : Cx Z d jX10_finish RX10 p R s m args meth c) : Sd Z jX10_finish p e R s m args below meth c (MQ below (QcS Z Rp) args s 0 0 (fun a => Z.2.2.1 < a)) 178 (w_X10_finish_178 (MS Z d) (Gw Z 8 p e R s m args below meth c (MQ below (QcS Z Rp) args s 0 0 (fun a => Z.2.2.1 < a))) Rp) := by
  unfold w_X10_finish_178
  exact s_vret C rfl (by decide +kernel)
theorem ms_X10_finish {Z : Zt} {d : Nat} {S : Sh} {μ : Mi} {ρ : Mr} {Rp : RT} (a0 : Nat) (a1 : Nat) (x2 : Int32) (x3 : Int32) (h : ∀ G : Nat → PT, (∀ (L st : List Value) (S : Sh) (q : Nat × Nat) (μ : Mi) (ρ : Mr), w_X10_finish_20 (MS Z d) G Rp L st S q μ ρ → G 20 L st S q μ ρ) → (∀ (L st : List Value) (S : Sh) (q : Nat × Nat) (μ : Mi) (ρ : Mr), w_X10_finish_39 (MS Z d) G Rp L st S q μ ρ → G 39 L st S q μ ρ) → (∀ (L st : List Value) (S : Sh) (q : Nat × Nat) (μ : Mi) (ρ : Mr), w_X10_finish_50 (MS Z d) G Rp L st S q μ ρ → G 50 L st S q μ ρ) → (∀ (L st : List Value) (S : Sh) (q : Nat × Nat) (μ : Mi) (ρ : Mr), w_X10_finish_51 (MS Z d) G Rp L st S q μ ρ → G 51 L st S q μ ρ) → (∀ (L st : List Value) (S : Sh) (q : Nat × Nat) (μ : Mi) (ρ : Mr), w_X10_finish_65 (MS Z d) G Rp L st S q μ ρ → G 65 L st S q μ ρ) → (∀ (L st : List Value) (S : Sh) (q : Nat × Nat) (μ : Mi) (ρ : Mr), w_X10_finish_66 (MS Z d) G Rp L st S q μ ρ → G 66 L st S q μ ρ) → (∀ (L st : List Value) (S : Sh) (q : Nat × Nat) (μ : Mi) (ρ : Mr), w_X10_finish_71 (MS Z d) G Rp L st S q μ ρ → G 71 L st S q μ ρ) → (∀ (L st : List Value) (S : Sh) (q : Nat × Nat) (μ : Mi) (ρ : Mr), w_X10_finish_88 (MS Z d) G Rp L st S q μ ρ → G 88 L st S q μ ρ) → (∀ (L st : List Value) (S : Sh) (q : Nat × Nat) (μ : Mi) (ρ : Mr), w_X10_finish_98 (MS Z d) G Rp L st S q μ ρ → G 98 L st S q μ ρ) → (∀ (L st : List Value) (S : Sh) (q : Nat × Nat) (μ : Mi) (ρ : Mr), w_X10_finish_113 (MS Z d) G Rp L st S q μ ρ → G 113 L st S q μ ρ) → (∀ (L st : List Value) (S : Sh) (q : Nat × Nat) (μ : Mi) (ρ : Mr), w_X10_finish_130 (MS Z d) G Rp L st S q μ ρ → G 130 L st S q μ ρ) → (∀ (L st : List Value) (S : Sh) (q : Nat × Nat) (μ : Mi) (ρ : Mr), w_X10_finish_131 (MS Z d) G Rp L st S q μ ρ → G 131 L st S q μ ρ) → (∀ (L st : List Value) (S : Sh) (q : Nat × Nat) (μ : Mi) (ρ : Mr), w_X10_finish_143 (MS Z d) G Rp L st S q μ ρ → G 143 L st S q μ ρ) → (∀ (L st : List Value) (S : Sh) (q : Nat × Nat) (μ : Mi) (ρ : Mr), w_X10_finish_178 (MS Z d) G Rp L st S q μ ρ → G 178 L st S q μ ρ) → w_X10_finish_0 (MS Z d) G Rp [.ref a0, .ref a1, .int x2, .int x3, .null, .null, .null, .null] [] S (0, 0) μ ρ) : MS Z (d + 1) jX10_finish [.ref a0, .ref a1, .int x2, .int x3] S μ ρ Rp :=
  MS_of [.ref a0, .ref a1, .int x2, .int x3, .null, .null, .null, .null] (by decide +kernel) rfl rfl (Nat.le_of_ble_eq_true rfl) rfl (fun p e R s m args below meth c C => b_X10_finish_0 C _ _ _ _ _ _ (h _ (b_X10_finish_20 C) (b_X10_finish_39 C) (b_X10_finish_50 C) (b_X10_finish_51 C) (b_X10_finish_65 C) (b_X10_finish_66 C) (b_X10_finish_71 C) (b_X10_finish_88 C) (b_X10_finish_98 C) (b_X10_finish_113 C) (b_X10_finish_130 C) (b_X10_finish_131 C) (b_X10_finish_143 C) (b_X10_finish_178 C)))
def w_X10_askFirst_0 (M : CT) (G : Nat → PT) (Rp : RT) : PT := tAload 1 <| tConst 3 <| tCallV M jX7_becomes 7 18 1 <| tAload 1 <| tConst 1 <| tAload 1 <| tGetI 7 18 0 <| tBin (fun x y => x <<< (y &&& 31)) <| tPutI 7 18 5 <| tAload 0 <| tAload 1 <| tConst 7 <| tAload 1 <| tGetI 7 18 2 <| tConst 1 <| tBin (fun x y => x + y) <| tCallV M jX10_postToMembers 10 6 3 <| tAload 1 <| tAload 1 <| tGetI 7 18 5 <| tCallV M jX7_isMajority 7 18 1 <| tIf (fun x => x = 0) (G 43) <| tConst 1 <| tGoto (G 44)
def w_X10_askFirst_43 (M : CT) (G : Nat → PT) (Rp : RT) : PT := tConst 0 <| G 44
def w_X10_askFirst_44 (M : CT) (G : Nat → PT) (Rp : RT) : PT := tIret Rp
set_option maxRecDepth 20000 in
theorem b_X10_askFirst_0 {Z : Zt} {d : Nat} {p : Program} {e : Env} {R : Room} {s : State} {m : MethodId} {args : Array Value} {below : List Frame} {meth : Method} {c : Code} {Rp : RT} (C : Cx Z d jX10_askFirst RX10 p R s m args meth c) : Sd Z jX10_askFirst p e R s m args below meth c (MQ below (QcS Z Rp) args s 0 0 (fun a => Z.2.2.1 < a)) 0 (w_X10_askFirst_0 (MS Z d) (Gw Z 2 p e R s m args below meth c (MQ below (QcS Z Rp) args s 0 0 (fun a => Z.2.2.1 < a))) Rp) := by
  unfold w_X10_askFirst_0
  refine s_aload_n (k := 1) C (by decide +kernel) ?_
  refine s_iconst (n := 3) C (by decide +kernel) (by decide) ?_
  refine s_callV C rfl rfl (by decide +kernel) rfl w_3_117 w_3_118 w_3_119 w_1_5 w_3_120 (by decide +kernel) ?_
  refine s_aload_n (k := 1) C (by decide +kernel) ?_
  refine s_iconst (n := 1) C (by decide +kernel) (by decide) ?_
  refine s_aload_n (k := 1) C (by decide +kernel) ?_
  refine s_getI C w_1_221 (by decide +kernel) rfl ?_
  refine s_ishl C (by decide +kernel) ?_
  refine s_putI C w_1_238 (by decide +kernel) rfl (Or.inl rfl) ?_
  refine s_aload_n (k := 0) C (by decide +kernel) ?_
  refine s_aload_n (k := 1) C (by decide +kernel) ?_
  refine s_bipush (n := 7) C (by decide +kernel) (by decide) ?_
  refine s_aload_n (k := 1) C (by decide +kernel) ?_
  refine s_getI C w_1_227 (by decide +kernel) rfl ?_
  refine s_iconst (n := 1) C (by decide +kernel) (by decide) ?_
  refine s_iadd C (by decide +kernel) ?_
  refine s_callV C rfl rfl (by decide +kernel) rfl w_3_121 w_3_123 w_p1_4 w_1_2 w_3_124 (by decide +kernel) ?_
  refine s_aload_n (k := 1) C (by decide +kernel) ?_
  refine s_aload_n (k := 1) C (by decide +kernel) ?_
  refine s_getI C w_1_238 (by decide +kernel) rfl ?_
  refine s_callV C rfl rfl (by decide +kernel) rfl w_3_133 w_3_134 w_3_135 w_1_5 w_3_136 (by decide +kernel) ?_
  refine s_if_eq (off := 7) (tgt := 43) C (by decide +kernel) (by decide) (fun _ _ _ _ _ _ h => h) ?_
  refine s_iconst (n := 1) C (by decide +kernel) (by decide) ?_
  exact s_goto (off := 4) (tgt := 44) C (by decide +kernel) (by decide) (fun _ _ _ _ _ _ h => h)
set_option maxRecDepth 20000 in
theorem b_X10_askFirst_43 {Z : Zt} {d : Nat} {p : Program} {e : Env} {R : Room} {s : State} {m : MethodId} {args : Array Value} {below : List Frame} {meth : Method} {c : Code} {Rp : RT} (C : Cx Z d jX10_askFirst RX10 p R s m args meth c) : Sd Z jX10_askFirst p e R s m args below meth c (MQ below (QcS Z Rp) args s 0 0 (fun a => Z.2.2.1 < a)) 43 (w_X10_askFirst_43 (MS Z d) (Gw Z 2 p e R s m args below meth c (MQ below (QcS Z Rp) args s 0 0 (fun a => Z.2.2.1 < a))) Rp) := by
  unfold w_X10_askFirst_43
  refine s_iconst (n := 0) C (by decide +kernel) (by decide) ?_
  exact (fun _ _ _ _ _ _ h => h)
set_option maxRecDepth 20000 in
theorem b_X10_askFirst_44 {Z : Zt} {d : Nat} {p : Program} {e : Env} {R : Room} {s : State} {m : MethodId} {args : Array Value} {below : List Frame} {meth : Method} {c : Code} {Rp : RT} (C : Cx Z d jX10_askFirst RX10 p R s m args meth c) : Sd Z jX10_askFirst p e R s m args below meth c (MQ below (QcS Z Rp) args s 0 0 (fun a => Z.2.2.1 < a)) 44 (w_X10_askFirst_44 (MS Z d) (Gw Z 2 p e R s m args below meth c (MQ below (QcS Z Rp) args s 0 0 (fun a => Z.2.2.1 < a))) Rp) := by
  unfold w_X10_askFirst_44
  exact s_iret C rfl (by decide +kernel)
theorem ms_X10_askFirst {Z : Zt} {d : Nat} {S : Sh} {μ : Mi} {ρ : Mr} {Rp : RT} (a0 : Nat) (a1 : Nat) (h : ∀ G : Nat → PT, (∀ (L st : List Value) (S : Sh) (q : Nat × Nat) (μ : Mi) (ρ : Mr), w_X10_askFirst_43 (MS Z d) G Rp L st S q μ ρ → G 43 L st S q μ ρ) → (∀ (L st : List Value) (S : Sh) (q : Nat × Nat) (μ : Mi) (ρ : Mr), w_X10_askFirst_44 (MS Z d) G Rp L st S q μ ρ → G 44 L st S q μ ρ) → w_X10_askFirst_0 (MS Z d) G Rp [.ref a0, .ref a1] [] S (0, 0) μ ρ) : MS Z (d + 1) jX10_askFirst [.ref a0, .ref a1] S μ ρ Rp :=
  MS_of [.ref a0, .ref a1] (by decide +kernel) rfl rfl (Nat.le_of_ble_eq_true rfl) rfl (fun p e R s m args below meth c C => b_X10_askFirst_0 C _ _ _ _ _ _ (h _ (b_X10_askFirst_43 C) (b_X10_askFirst_44 C)))
def w_X10_stand_0 (M : CT) (G : Nat → PT) (Rp : RT) : PT := tAload 1 <| tDup <| tGetI 7 18 2 <| tConst 1 <| tBin (fun x y => x + y) <| tPutI 7 18 2 <| tAload 1 <| tConst 1 <| tCallV M jX7_becomes 7 18 1 <| tAload 1 <| tAload 1 <| tGetI 7 18 0 <| tPutI 7 18 3 <| tAload 1 <| tConst 1 <| tAload 1 <| tGetI 7 18 0 <| tBin (fun x y => x <<< (y &&& 31)) <| tPutI 7 18 5 <| tAload 0 <| tAload 1 <| tConst 0 <| tAload 1 <| tGetI 7 18 2 <| tCallV M jX10_postToMembers 10 6 3 <| tAload 1 <| tAload 1 <| tGetI 7 18 5 <| tCallV M jX7_isMajority 7 18 1 <| tIf (fun x => x = 0) (G 58) <| tConst 2 <| tGoto (G 59)
def w_X10_stand_58 (M : CT) (G : Nat → PT) (Rp : RT) : PT := tConst 0 <| G 59
def w_X10_stand_59 (M : CT) (G : Nat → PT) (Rp : RT) : PT := tIret Rp
set_option maxRecDepth 20000 in
theorem b_X10_stand_0 {Z : Zt} {d : Nat} {p : Program} {e : Env} {R : Room} {s : State} {m : MethodId} {args : Array Value} {below : List Frame} {meth : Method} {c : Code} {Rp : RT} (C : Cx Z d jX10_stand RX10 p R s m args meth c) : Sd Z jX10_stand p e R s m args below meth c (MQ below (QcS Z Rp) args s 0 0 (fun a => Z.2.2.1 < a)) 0 (w_X10_stand_0 (MS Z d) (Gw Z 2 p e R s m args below meth c (MQ below (QcS Z Rp) args s 0 0 (fun a => Z.2.2.1 < a))) Rp) := by
  unfold w_X10_stand_0
  refine s_aload_n (k := 1) C (by decide +kernel) ?_
  refine s_dup C (by decide +kernel) ?_
  refine s_getI C w_1_227 (by decide +kernel) rfl ?_
  refine s_iconst (n := 1) C (by decide +kernel) (by decide) ?_
  refine s_iadd C (by decide +kernel) ?_
  refine s_putI C w_1_227 (by decide +kernel) rfl (Or.inl rfl) ?_
  refine s_aload_n (k := 1) C (by decide +kernel) ?_
  refine s_iconst (n := 1) C (by decide +kernel) (by decide) ?_
  refine s_callV C rfl rfl (by decide +kernel) rfl w_3_117 w_3_118 w_3_119 w_1_5 w_3_120 (by decide +kernel) ?_
  refine s_aload_n (k := 1) C (by decide +kernel) ?_
  refine s_aload_n (k := 1) C (by decide +kernel) ?_
  refine s_getI C w_1_221 (by decide +kernel) rfl ?_
  refine s_putI C w_1_230 (by decide +kernel) rfl (Or.inl rfl) ?_
  refine s_aload_n (k := 1) C (by decide +kernel) ?_
  refine s_iconst (n := 1) C (by decide +kernel) (by decide) ?_
  refine s_aload_n (k := 1) C (by decide +kernel) ?_
  refine s_getI C w_1_221 (by decide +kernel) rfl ?_
  refine s_ishl C (by decide +kernel) ?_
  refine s_putI C w_1_238 (by decide +kernel) rfl (Or.inl rfl) ?_
  refine s_aload_n (k := 0) C (by decide +kernel) ?_
  refine s_aload_n (k := 1) C (by decide +kernel) ?_
  refine s_iconst (n := 0) C (by decide +kernel) (by decide) ?_
  refine s_aload_n (k := 1) C (by decide +kernel) ?_
  refine s_getI C w_1_227 (by decide +kernel) rfl ?_
  refine s_callV C rfl rfl (by decide +kernel) rfl w_3_121 w_3_123 w_p1_4 w_1_2 w_3_124 (by decide +kernel) ?_
  refine s_aload_n (k := 1) C (by decide +kernel) ?_
  refine s_aload_n (k := 1) C (by decide +kernel) ?_
  refine s_getI C w_1_238 (by decide +kernel) rfl ?_
  refine s_callV C rfl rfl (by decide +kernel) rfl w_3_133 w_3_134 w_3_135 w_1_5 w_3_136 (by decide +kernel) ?_
  refine s_if_eq (off := 7) (tgt := 58) C (by decide +kernel) (by decide) (fun _ _ _ _ _ _ h => h) ?_
  refine s_iconst (n := 2) C (by decide +kernel) (by decide) ?_
  exact s_goto (off := 4) (tgt := 59) C (by decide +kernel) (by decide) (fun _ _ _ _ _ _ h => h)
set_option maxRecDepth 20000 in
theorem b_X10_stand_58 {Z : Zt} {d : Nat} {p : Program} {e : Env} {R : Room} {s : State} {m : MethodId} {args : Array Value} {below : List Frame} {meth : Method} {c : Code} {Rp : RT} (C : Cx Z d jX10_stand RX10 p R s m args meth c) : Sd Z jX10_stand p e R s m args below meth c (MQ below (QcS Z Rp) args s 0 0 (fun a => Z.2.2.1 < a)) 58 (w_X10_stand_58 (MS Z d) (Gw Z 2 p e R s m args below meth c (MQ below (QcS Z Rp) args s 0 0 (fun a => Z.2.2.1 < a))) Rp) := by
  unfold w_X10_stand_58
  refine s_iconst (n := 0) C (by decide +kernel) (by decide) ?_
  exact (fun _ _ _ _ _ _ h => h)
set_option maxRecDepth 20000 in
theorem b_X10_stand_59 {Z : Zt} {d : Nat} {p : Program} {e : Env} {R : Room} {s : State} {m : MethodId} {args : Array Value} {below : List Frame} {meth : Method} {c : Code} {Rp : RT} (C : Cx Z d jX10_stand RX10 p R s m args meth c) : Sd Z jX10_stand p e R s m args below meth c (MQ below (QcS Z Rp) args s 0 0 (fun a => Z.2.2.1 < a)) 59 (w_X10_stand_59 (MS Z d) (Gw Z 2 p e R s m args below meth c (MQ below (QcS Z Rp) args s 0 0 (fun a => Z.2.2.1 < a))) Rp) := by
  unfold w_X10_stand_59
  exact s_iret C rfl (by decide +kernel)
theorem ms_X10_stand {Z : Zt} {d : Nat} {S : Sh} {μ : Mi} {ρ : Mr} {Rp : RT} (a0 : Nat) (a1 : Nat) (h : ∀ G : Nat → PT, (∀ (L st : List Value) (S : Sh) (q : Nat × Nat) (μ : Mi) (ρ : Mr), w_X10_stand_58 (MS Z d) G Rp L st S q μ ρ → G 58 L st S q μ ρ) → (∀ (L st : List Value) (S : Sh) (q : Nat × Nat) (μ : Mi) (ρ : Mr), w_X10_stand_59 (MS Z d) G Rp L st S q μ ρ → G 59 L st S q μ ρ) → w_X10_stand_0 (MS Z d) G Rp [.ref a0, .ref a1] [] S (0, 0) μ ρ) : MS Z (d + 1) jX10_stand [.ref a0, .ref a1] S μ ρ Rp :=
  MS_of [.ref a0, .ref a1] (by decide +kernel) rfl rfl (Nat.le_of_ble_eq_true rfl) rfl (fun p e R s m args below meth c C => b_X10_stand_0 C _ _ _ _ _ _ (h _ (b_X10_stand_58 C) (b_X10_stand_59 C)))
def w_X10_postToMembers_0 (M : CT) (G : Nat → PT) (Rp : RT) : PT := tConst 0 <| tIstore 4 <| G 3
def w_X10_postToMembers_3 (M : CT) (G : Nat → PT) (Rp : RT) : PT := tIload 4 <| tConst 5 <| tIf2 (fun x y => y ≤ x) (G 72) <| tIload 4 <| tAload 1 <| tGetI 7 18 0 <| tIf2 (fun x y => x = y) (G 66) <| tAload 1 <| tIload 4 <| tCallV M jX7_isMember 7 18 1 <| tIf (fun x => x = 0) (G 66) <| tAload 0 <| tGetR 10 6 1 <| tAload 1 <| tGetI 7 18 0 <| tIload 4 <| tIload 2 <| tIload 3 <| tCallV M jX1_post 1 6 4 <| tAstore 5 <| tAload 5 <| tAload 1 <| tGetI 7 18 7 <| tPutI 2 10 4 <| tAload 5 <| tAload 1 <| tAload 1 <| tGetI 7 18 7 <| tCallV M jX7_termAt 7 18 1 <| tPutI 2 10 5 <| G 66
def w_X10_postToMembers_66 (M : CT) (G : Nat → PT) (Rp : RT) : PT := tIinc 4 1 <| tGoto (G 3)
def w_X10_postToMembers_72 (M : CT) (G : Nat → PT) (Rp : RT) : PT := tVret Rp
set_option maxRecDepth 20000 in
theorem b_X10_postToMembers_0 {Z : Zt} {d : Nat} {p : Program} {e : Env} {R : Room} {s : State} {m : MethodId} {args : Array Value} {below : List Frame} {meth : Method} {c : Code} {Rp : RT} (C : Cx Z d jX10_postToMembers RX10 p R s m args meth c) : Sd Z jX10_postToMembers p e R s m args below meth c (MQ below (QcS Z Rp) args s 0 0 (fun a => Z.2.2.1 < a)) 0 (w_X10_postToMembers_0 (MS Z d) (Gw Z 6 p e R s m args below meth c (MQ below (QcS Z Rp) args s 0 0 (fun a => Z.2.2.1 < a))) Rp) := by
  unfold w_X10_postToMembers_0
  refine s_iconst (n := 0) C (by decide +kernel) (by decide) ?_
  refine s_istore (k := 4) C (by decide +kernel) ?_
  exact (fun _ _ _ _ _ _ h => h)
set_option maxRecDepth 20000 in
theorem b_X10_postToMembers_3 {Z : Zt} {d : Nat} {p : Program} {e : Env} {R : Room} {s : State} {m : MethodId} {args : Array Value} {below : List Frame} {meth : Method} {c : Code} {Rp : RT} (C : Cx Z d jX10_postToMembers RX10 p R s m args meth c) : Sd Z jX10_postToMembers p e R s m args below meth c (MQ below (QcS Z Rp) args s 0 0 (fun a => Z.2.2.1 < a)) 3 (w_X10_postToMembers_3 (MS Z d) (Gw Z 6 p e R s m args below meth c (MQ below (QcS Z Rp) args s 0 0 (fun a => Z.2.2.1 < a))) Rp) := by
  unfold w_X10_postToMembers_3
  refine s_iload (k := 4) C (by decide +kernel) ?_
  refine s_iconst (n := 5) C (by decide +kernel) (by decide) ?_
  refine s_icmp_ge (off := 66) (tgt := 72) C (by decide +kernel) (by decide) (fun _ _ _ _ _ _ h => h) ?_
  refine s_iload (k := 4) C (by decide +kernel) ?_
  refine s_aload_n (k := 1) C (by decide +kernel) ?_
  refine s_getI C w_1_221 (by decide +kernel) rfl ?_
  refine s_icmp_eq (off := 51) (tgt := 66) C (by decide +kernel) (by decide) (fun _ _ _ _ _ _ h => h) ?_
  refine s_aload_n (k := 1) C (by decide +kernel) ?_
  refine s_iload (k := 4) C (by decide +kernel) ?_
  refine s_callV C rfl rfl (by decide +kernel) rfl w_3_109 w_3_110 w_3_111 w_1_5 w_3_112 (by decide +kernel) ?_
  refine s_if_eq (off := 42) (tgt := 66) C (by decide +kernel) (by decide) (fun _ _ _ _ _ _ h => h) ?_
  refine s_aload_n (k := 0) C (by decide +kernel) ?_
  refine s_getR C w_2_117 (by decide +kernel) rfl ?_
  refine s_aload_n (k := 1) C (by decide +kernel) ?_
  refine s_getI C w_1_221 (by decide +kernel) rfl ?_
  refine s_iload (k := 4) C (by decide +kernel) ?_
  refine s_iload_n (k := 2) C (by decide +kernel) ?_
  refine s_iload_n (k := 3) C (by decide +kernel) ?_
  refine s_callV C rfl rfl (by decide +kernel) rfl w_3_125 w_3_126 w_3_127 w_1_3 w_3_128 (by decide +kernel) ?_
  refine s_astore (k := 5) C (by decide +kernel) ?_
  refine s_aload (k := 5) C (by decide +kernel) ?_
  refine s_aload_n (k := 1) C (by decide +kernel) ?_
  refine s_getI C w_2_5 (by decide +kernel) rfl ?_
  refine s_putI C w_1_74 (by decide +kernel) rfl (Or.inl rfl) ?_
  refine s_aload (k := 5) C (by decide +kernel) ?_
  refine s_aload_n (k := 1) C (by decide +kernel) ?_
  refine s_aload_n (k := 1) C (by decide +kernel) ?_
  refine s_getI C w_2_5 (by decide +kernel) rfl ?_
  refine s_callV C rfl rfl (by decide +kernel) rfl w_3_129 w_3_130 w_3_131 w_1_5 w_3_132 (by decide +kernel) ?_
  refine s_putI C w_1_79 (by decide +kernel) rfl (Or.inl rfl) ?_
  exact (fun _ _ _ _ _ _ h => h)
set_option maxRecDepth 20000 in
theorem b_X10_postToMembers_66 {Z : Zt} {d : Nat} {p : Program} {e : Env} {R : Room} {s : State} {m : MethodId} {args : Array Value} {below : List Frame} {meth : Method} {c : Code} {Rp : RT} (C : Cx Z d jX10_postToMembers RX10 p R s m args meth c) : Sd Z jX10_postToMembers p e R s m args below meth c (MQ below (QcS Z Rp) args s 0 0 (fun a => Z.2.2.1 < a)) 66 (w_X10_postToMembers_66 (MS Z d) (Gw Z 6 p e R s m args below meth c (MQ below (QcS Z Rp) args s 0 0 (fun a => Z.2.2.1 < a))) Rp) := by
  unfold w_X10_postToMembers_66
  refine s_iinc (n := 1) C (by decide +kernel) (by decide) ?_
  exact s_goto (off := (-66)) (tgt := 3) C (by decide +kernel) (by decide) (fun _ _ _ _ _ _ h => h)
set_option maxRecDepth 20000 in
theorem b_X10_postToMembers_72 {Z : Zt} {d : Nat} {p : Program} {e : Env} {R : Room} {s : State} {m : MethodId} {args : Array Value} {below : List Frame} {meth : Method} {c : Code} {Rp : RT} (C : Cx Z d jX10_postToMembers RX10 p R s m args meth c) : Sd Z jX10_postToMembers p e R s m args below meth c (MQ below (QcS Z Rp) args s 0 0 (fun a => Z.2.2.1 < a)) 72 (w_X10_postToMembers_72 (MS Z d) (Gw Z 6 p e R s m args below meth c (MQ below (QcS Z Rp) args s 0 0 (fun a => Z.2.2.1 < a))) Rp) := by
  unfold w_X10_postToMembers_72
  exact s_vret C rfl (by decide +kernel)
theorem ms_X10_postToMembers {Z : Zt} {d : Nat} {S : Sh} {μ : Mi} {ρ : Mr} {Rp : RT} (a0 : Nat) (a1 : Nat) (x2 : Int32) (x3 : Int32) (h : ∀ G : Nat → PT, (∀ (L st : List Value) (S : Sh) (q : Nat × Nat) (μ : Mi) (ρ : Mr), w_X10_postToMembers_3 (MS Z d) G Rp L st S q μ ρ → G 3 L st S q μ ρ) → (∀ (L st : List Value) (S : Sh) (q : Nat × Nat) (μ : Mi) (ρ : Mr), w_X10_postToMembers_66 (MS Z d) G Rp L st S q μ ρ → G 66 L st S q μ ρ) → (∀ (L st : List Value) (S : Sh) (q : Nat × Nat) (μ : Mi) (ρ : Mr), w_X10_postToMembers_72 (MS Z d) G Rp L st S q μ ρ → G 72 L st S q μ ρ) → w_X10_postToMembers_0 (MS Z d) G Rp [.ref a0, .ref a1, .int x2, .int x3, .null, .null] [] S (0, 0) μ ρ) : MS Z (d + 1) jX10_postToMembers [.ref a0, .ref a1, .int x2, .int x3] S μ ρ Rp :=
  MS_of [.ref a0, .ref a1, .int x2, .int x3, .null, .null] (by decide +kernel) rfl rfl (Nat.le_of_ble_eq_true rfl) rfl (fun p e R s m args below meth c C => b_X10_postToMembers_0 C _ _ _ _ _ _ (h _ (b_X10_postToMembers_3 C) (b_X10_postToMembers_66 C) (b_X10_postToMembers_72 C)))
def w_X10_lead_0 (M : CT) (G : Nat → PT) (Rp : RT) : PT := tAload 1 <| tConst 2 <| tCallV M jX7_becomes 7 18 1 <| tAload 1 <| tGetR 7 18 17 <| tCallV M jX5_clear 5 4 0 <| tConst 0 <| tIstore 2 <| G 14
def w_X10_lead_14 (M : CT) (G : Nat → PT) (Rp : RT) : PT := tIload 2 <| tConst 5 <| tIf2 (fun x y => y ≤ x) (G 44) <| tAload 1 <| tGetR 7 18 14 <| tIload 2 <| tAload 1 <| tGetI 7 18 7 <| tConst 1 <| tBin (fun x y => x + y) <| tIast <| tAload 1 <| tGetR 7 18 15 <| tIload 2 <| tConst 0 <| tIast <| tIinc 2 1 <| tGoto (G 14)
def w_X10_lead_44 (M : CT) (G : Nat → PT) (Rp : RT) : PT := tAload 0 <| tGetR 10 6 3 <| tAload 1 <| tGetI 7 18 2 <| tDup2 <| tAld 20 <| tConst 1 <| tAload 1 <| tGetI 7 18 0 <| tBin (fun x y => x <<< (y &&& 31)) <| tBin (fun x y => x ||| y) <| tIast <| tAload 1 <| tAload 1 <| tGetI 7 18 2 <| tConst 0 <| tConst 0 <| tConst 0 <| tCallS M jX0_of 4 <| tCallV M jX7_append 7 18 1 <| tVret Rp
set_option maxRecDepth 20000 in
theorem b_X10_lead_0 {Z : Zt} {d : Nat} {p : Program} {e : Env} {R : Room} {s : State} {m : MethodId} {args : Array Value} {below : List Frame} {meth : Method} {c : Code} {Rp : RT} (C : Cx Z d jX10_lead RX10 p R s m args meth c) : Sd Z jX10_lead p e R s m args below meth c (MQ below (QcS Z Rp) args s 0 0 (fun a => Z.2.2.1 < a)) 0 (w_X10_lead_0 (MS Z d) (Gw Z 3 p e R s m args below meth c (MQ below (QcS Z Rp) args s 0 0 (fun a => Z.2.2.1 < a))) Rp) := by
  unfold w_X10_lead_0
  refine s_aload_n (k := 1) C (by decide +kernel) ?_
  refine s_iconst (n := 2) C (by decide +kernel) (by decide) ?_
  refine s_callV C rfl rfl (by decide +kernel) rfl w_3_117 w_3_118 w_3_119 w_1_5 w_3_120 (by decide +kernel) ?_
  refine s_aload_n (k := 1) C (by decide +kernel) ?_
  refine s_getR C w_2_37 (by decide +kernel) rfl ?_
  refine s_callV C rfl rfl (by decide +kernel) rfl w_3_150 w_2_91 w_2_92 w_1_7 w_2_93 (by decide +kernel) ?_
  refine s_iconst (n := 0) C (by decide +kernel) (by decide) ?_
  refine s_istore_n (k := 2) C (by decide +kernel) ?_
  exact (fun _ _ _ _ _ _ h => h)
set_option maxRecDepth 20000 in
theorem b_X10_lead_14 {Z : Zt} {d : Nat} {p : Program} {e : Env} {R : Room} {s : State} {m : MethodId} {args : Array Value} {below : List Frame} {meth : Method} {c : Code} {Rp : RT} (C : Cx Z d jX10_lead RX10 p R s m args meth c) : Sd Z jX10_lead p e R s m args below meth c (MQ below (QcS Z Rp) args s 0 0 (fun a => Z.2.2.1 < a)) 14 (w_X10_lead_14 (MS Z d) (Gw Z 3 p e R s m args below meth c (MQ below (QcS Z Rp) args s 0 0 (fun a => Z.2.2.1 < a))) Rp) := by
  unfold w_X10_lead_14
  refine s_iload_n (k := 2) C (by decide +kernel) ?_
  refine s_iconst (n := 5) C (by decide +kernel) (by decide) ?_
  refine s_icmp_ge (off := 28) (tgt := 44) C (by decide +kernel) (by decide) (fun _ _ _ _ _ _ h => h) ?_
  refine s_aload_n (k := 1) C (by decide +kernel) ?_
  refine s_getR C w_2_28 (by decide +kernel) rfl ?_
  refine s_iload_n (k := 2) C (by decide +kernel) ?_
  refine s_aload_n (k := 1) C (by decide +kernel) ?_
  refine s_getI C w_2_5 (by decide +kernel) rfl ?_
  refine s_iconst (n := 1) C (by decide +kernel) (by decide) ?_
  refine s_iadd C (by decide +kernel) ?_
  refine s_iast C (by decide +kernel) ?_
  refine s_aload_n (k := 1) C (by decide +kernel) ?_
  refine s_getR C w_2_30 (by decide +kernel) rfl ?_
  refine s_iload_n (k := 2) C (by decide +kernel) ?_
  refine s_iconst (n := 0) C (by decide +kernel) (by decide) ?_
  refine s_iast C (by decide +kernel) ?_
  refine s_iinc (n := 1) C (by decide +kernel) (by decide) ?_
  exact s_goto (off := (-27)) (tgt := 14) C (by decide +kernel) (by decide) (fun _ _ _ _ _ _ h => h)
set_option maxRecDepth 20000 in
theorem b_X10_lead_44 {Z : Zt} {d : Nat} {p : Program} {e : Env} {R : Room} {s : State} {m : MethodId} {args : Array Value} {below : List Frame} {meth : Method} {c : Code} {Rp : RT} (C : Cx Z d jX10_lead RX10 p R s m args meth c) : Sd Z jX10_lead p e R s m args below meth c (MQ below (QcS Z Rp) args s 0 0 (fun a => Z.2.2.1 < a)) 44 (w_X10_lead_44 (MS Z d) (Gw Z 3 p e R s m args below meth c (MQ below (QcS Z Rp) args s 0 0 (fun a => Z.2.2.1 < a))) Rp) := by
  unfold w_X10_lead_44
  refine s_aload_n (k := 0) C (by decide +kernel) ?_
  refine s_getR C w_2_124 (by decide +kernel) rfl ?_
  refine s_aload_n (k := 1) C (by decide +kernel) ?_
  refine s_getI C w_1_227 (by decide +kernel) rfl ?_
  refine s_dup2 C (by decide +kernel) ?_
  refine s_iald C (by decide +kernel) ?_
  refine s_iconst (n := 1) C (by decide +kernel) (by decide) ?_
  refine s_aload_n (k := 1) C (by decide +kernel) ?_
  refine s_getI C w_1_221 (by decide +kernel) rfl ?_
  refine s_ishl C (by decide +kernel) ?_
  refine s_ior C (by decide +kernel) ?_
  refine s_iast C (by decide +kernel) ?_
  refine s_aload_n (k := 1) C (by decide +kernel) ?_
  refine s_aload_n (k := 1) C (by decide +kernel) ?_
  refine s_getI C w_1_227 (by decide +kernel) rfl ?_
  refine s_iconst (n := 0) C (by decide +kernel) (by decide) ?_
  refine s_iconst (n := 0) C (by decide +kernel) (by decide) ?_
  refine s_iconst (n := 0) C (by decide +kernel) (by decide) ?_
  refine s_callS C (by decide +kernel) rfl w_3_151 w_3_152 w_1_9 w_3_153 (by decide +kernel) ?_
  refine s_callV C rfl rfl (by decide +kernel) rfl w_3_154 w_3_155 w_3_156 w_1_5 w_3_157 (by decide +kernel) ?_
  exact s_vret C rfl (by decide +kernel)
theorem ms_X10_lead {Z : Zt} {d : Nat} {S : Sh} {μ : Mi} {ρ : Mr} {Rp : RT} (a0 : Nat) (a1 : Nat) (h : ∀ G : Nat → PT, (∀ (L st : List Value) (S : Sh) (q : Nat × Nat) (μ : Mi) (ρ : Mr), w_X10_lead_14 (MS Z d) G Rp L st S q μ ρ → G 14 L st S q μ ρ) → (∀ (L st : List Value) (S : Sh) (q : Nat × Nat) (μ : Mi) (ρ : Mr), w_X10_lead_44 (MS Z d) G Rp L st S q μ ρ → G 44 L st S q μ ρ) → w_X10_lead_0 (MS Z d) G Rp [.ref a0, .ref a1, .null] [] S (0, 0) μ ρ) : MS Z (d + 1) jX10_lead [.ref a0, .ref a1] S μ ρ Rp :=
  MS_of [.ref a0, .ref a1, .null] (by decide +kernel) rfl rfl (Nat.le_of_ble_eq_true rfl) rfl (fun p e R s m args below meth c C => b_X10_lead_0 C _ _ _ _ _ _ (h _ (b_X10_lead_14 C) (b_X10_lead_44 C)))
def w_X10_sendToAll_0 (M : CT) (G : Nat → PT) (Rp : RT) : PT := tConst 0 <| tIstore 2 <| G 2
def w_X10_sendToAll_2 (M : CT) (G : Nat → PT) (Rp : RT) : PT := tIload 2 <| tConst 5 <| tIf2 (fun x y => y ≤ x) (G 35) <| tIload 2 <| tAload 1 <| tGetI 7 18 0 <| tIf2 (fun x y => x = y) (G 29) <| tAload 1 <| tIload 2 <| tCallV M jX7_isMember 7 18 1 <| tIf (fun x => x = 0) (G 29) <| tAload 0 <| tAload 1 <| tIload 2 <| tCallV M jX10_send 10 6 2 <| G 29
def w_X10_sendToAll_29 (M : CT) (G : Nat → PT) (Rp : RT) : PT := tIinc 2 1 <| tGoto (G 2)
def w_X10_sendToAll_35 (M : CT) (G : Nat → PT) (Rp : RT) : PT := tVret Rp
set_option maxRecDepth 20000 in
theorem b_X10_sendToAll_0 {Z : Zt} {d : Nat} {p : Program} {e : Env} {R : Room} {s : State} {m : MethodId} {args : Array Value} {below : List Frame} {meth : Method} {c : Code} {Rp : RT} (C : Cx Z d jX10_sendToAll RX10 p R s m args meth c) : Sd Z jX10_sendToAll p e R s m args below meth c (MQ below (QcS Z Rp) args s 0 0 (fun a => Z.2.2.1 < a)) 0 (w_X10_sendToAll_0 (MS Z d) (Gw Z 3 p e R s m args below meth c (MQ below (QcS Z Rp) args s 0 0 (fun a => Z.2.2.1 < a))) Rp) := by
  unfold w_X10_sendToAll_0
  refine s_iconst (n := 0) C (by decide +kernel) (by decide) ?_
  refine s_istore_n (k := 2) C (by decide +kernel) ?_
  exact (fun _ _ _ _ _ _ h => h)
set_option maxRecDepth 20000 in
theorem b_X10_sendToAll_2 {Z : Zt} {d : Nat} {p : Program} {e : Env} {R : Room} {s : State} {m : MethodId} {args : Array Value} {below : List Frame} {meth : Method} {c : Code} {Rp : RT} (C : Cx Z d jX10_sendToAll RX10 p R s m args meth c) : Sd Z jX10_sendToAll p e R s m args below meth c (MQ below (QcS Z Rp) args s 0 0 (fun a => Z.2.2.1 < a)) 2 (w_X10_sendToAll_2 (MS Z d) (Gw Z 3 p e R s m args below meth c (MQ below (QcS Z Rp) args s 0 0 (fun a => Z.2.2.1 < a))) Rp) := by
  unfold w_X10_sendToAll_2
  refine s_iload_n (k := 2) C (by decide +kernel) ?_
  refine s_iconst (n := 5) C (by decide +kernel) (by decide) ?_
  refine s_icmp_ge (off := 31) (tgt := 35) C (by decide +kernel) (by decide) (fun _ _ _ _ _ _ h => h) ?_
  refine s_iload_n (k := 2) C (by decide +kernel) ?_
  refine s_aload_n (k := 1) C (by decide +kernel) ?_
  refine s_getI C w_1_221 (by decide +kernel) rfl ?_
  refine s_icmp_eq (off := 17) (tgt := 29) C (by decide +kernel) (by decide) (fun _ _ _ _ _ _ h => h) ?_
  refine s_aload_n (k := 1) C (by decide +kernel) ?_
  refine s_iload_n (k := 2) C (by decide +kernel) ?_
  refine s_callV C rfl rfl (by decide +kernel) rfl w_3_109 w_3_110 w_3_111 w_1_5 w_3_112 (by decide +kernel) ?_
  refine s_if_eq (off := 9) (tgt := 29) C (by decide +kernel) (by decide) (fun _ _ _ _ _ _ h => h) ?_
  refine s_aload_n (k := 0) C (by decide +kernel) ?_
  refine s_aload_n (k := 1) C (by decide +kernel) ?_
  refine s_iload_n (k := 2) C (by decide +kernel) ?_
  refine s_callV C rfl rfl (by decide +kernel) rfl w_3_162 w_3_163 w_3_164 w_1_2 w_3_165 (by decide +kernel) ?_
  exact (fun _ _ _ _ _ _ h => h)
set_option maxRecDepth 20000 in
theorem b_X10_sendToAll_29 {Z : Zt} {d : Nat} {p : Program} {e : Env} {R : Room} {s : State} {m : MethodId} {args : Array Value} {below : List Frame} {meth : Method} {c : Code} {Rp : RT} (C : Cx Z d jX10_sendToAll RX10 p R s m args meth c) : Sd Z jX10_sendToAll p e R s m args below meth c (MQ below (QcS Z Rp) args s 0 0 (fun a => Z.2.2.1 < a)) 29 (w_X10_sendToAll_29 (MS Z d) (Gw Z 3 p e R s m args below meth c (MQ below (QcS Z Rp) args s 0 0 (fun a => Z.2.2.1 < a))) Rp) := by
  unfold w_X10_sendToAll_29
  refine s_iinc (n := 1) C (by decide +kernel) (by decide) ?_
  exact s_goto (off := (-30)) (tgt := 2) C (by decide +kernel) (by decide) (fun _ _ _ _ _ _ h => h)
set_option maxRecDepth 20000 in
theorem b_X10_sendToAll_35 {Z : Zt} {d : Nat} {p : Program} {e : Env} {R : Room} {s : State} {m : MethodId} {args : Array Value} {below : List Frame} {meth : Method} {c : Code} {Rp : RT} (C : Cx Z d jX10_sendToAll RX10 p R s m args meth c) : Sd Z jX10_sendToAll p e R s m args below meth c (MQ below (QcS Z Rp) args s 0 0 (fun a => Z.2.2.1 < a)) 35 (w_X10_sendToAll_35 (MS Z d) (Gw Z 3 p e R s m args below meth c (MQ below (QcS Z Rp) args s 0 0 (fun a => Z.2.2.1 < a))) Rp) := by
  unfold w_X10_sendToAll_35
  exact s_vret C rfl (by decide +kernel)
theorem ms_X10_sendToAll {Z : Zt} {d : Nat} {S : Sh} {μ : Mi} {ρ : Mr} {Rp : RT} (a0 : Nat) (a1 : Nat) (h : ∀ G : Nat → PT, (∀ (L st : List Value) (S : Sh) (q : Nat × Nat) (μ : Mi) (ρ : Mr), w_X10_sendToAll_2 (MS Z d) G Rp L st S q μ ρ → G 2 L st S q μ ρ) → (∀ (L st : List Value) (S : Sh) (q : Nat × Nat) (μ : Mi) (ρ : Mr), w_X10_sendToAll_29 (MS Z d) G Rp L st S q μ ρ → G 29 L st S q μ ρ) → (∀ (L st : List Value) (S : Sh) (q : Nat × Nat) (μ : Mi) (ρ : Mr), w_X10_sendToAll_35 (MS Z d) G Rp L st S q μ ρ → G 35 L st S q μ ρ) → w_X10_sendToAll_0 (MS Z d) G Rp [.ref a0, .ref a1, .null] [] S (0, 0) μ ρ) : MS Z (d + 1) jX10_sendToAll [.ref a0, .ref a1] S μ ρ Rp :=
  MS_of [.ref a0, .ref a1, .null] (by decide +kernel) rfl rfl (Nat.le_of_ble_eq_true rfl) rfl (fun p e R s m args below meth c C => b_X10_sendToAll_0 C _ _ _ _ _ _ (h _ (b_X10_sendToAll_2 C) (b_X10_sendToAll_29 C) (b_X10_sendToAll_35 C)))
def w_X10_send_0 (M : CT) (G : Nat → PT) (Rp : RT) : PT := tAload 1 <| tGetR 7 18 14 <| tIload 2 <| tAld 20 <| tAload 1 <| tGetR 7 18 16 <| tGetI 6 5 0 <| tIf2 (fun x y => y < x) (G 20) <| tConst 1 <| tGoto (G 21)
def w_X10_send_20 (M : CT) (G : Nat → PT) (Rp : RT) : PT := tConst 0 <| G 21
def w_X10_send_21 (M : CT) (G : Nat → PT) (Rp : RT) : PT := tIstore 3 <| tAload 0 <| tGetR 10 6 1 <| tAload 1 <| tGetI 7 18 0 <| tIload 2 <| tIload 3 <| tIf (fun x => x = 0) (G 39) <| tConst 4 <| tGoto (G 40)
def w_X10_send_39 (M : CT) (G : Nat → PT) (Rp : RT) : PT := tConst 2 <| G 40
def w_X10_send_40 (M : CT) (G : Nat → PT) (Rp : RT) : PT := tAload 1 <| tGetI 7 18 2 <| tCallV M jX1_post 1 6 4 <| tAstore 4 <| tAload 4 <| tAload 1 <| tGetI 7 18 6 <| tPutI 2 10 8 <| tIload 3 <| tIf (fun x => x = 0) (G 133) <| tAload 4 <| tAload 1 <| tGetR 7 18 16 <| tGetI 6 5 0 <| tPutI 2 10 4 <| tAload 4 <| tAload 1 <| tGetR 7 18 16 <| tGetI 6 5 1 <| tPutI 2 10 5 <| tAload 1 <| tGetR 7 18 16 <| tGetR 6 5 4 <| tConst 0 <| tAload 4 <| tGetR 2 10 9 <| tConst 0 <| tConst 4 <| tCopy <| tAload 4 <| tGetR 2 10 9 <| tConst 4 <| tAload 1 <| tGetR 7 18 16 <| tGetI 6 5 2 <| tIast <| tAload 4 <| tGetR 2 10 9 <| tConst 5 <| tAload 1 <| tGetR 7 18 16 <| tGetI 6 5 3 <| tIast <| tVret Rp
def w_X10_send_133 (M : CT) (G : Nat → PT) (Rp : RT) : PT := tAload 4 <| tAload 1 <| tGetR 7 18 14 <| tIload 2 <| tAld 20 <| tConst 1 <| tBin (fun x y => x - y) <| tPutI 2 10 4 <| tAload 4 <| tAload 1 <| tAload 4 <| tGetI 2 10 4 <| tCallV M jX7_termAt 7 18 1 <| tPutI 2 10 5 <| tAload 4 <| tAload 1 <| tGetI 7 18 8 <| tPutI 2 10 7 <| tAload 4 <| tConst 0 <| tConst 3 <| tAload 1 <| tGetI 7 18 7 <| tAload 4 <| tGetI 2 10 4 <| tBin (fun x y => x - y) <| tMin <| tMax <| tPutI 2 10 6 <| tAload 1 <| tGetR 7 18 12 <| tAload 4 <| tGetI 2 10 4 <| tConst 1 <| tBin (fun x y => x + y) <| tAload 4 <| tGetR 2 10 9 <| tConst 0 <| tAload 4 <| tGetI 2 10 6 <| tCopy <| tVret Rp
set_option maxRecDepth 20000 in
theorem b_X10_send_0 {Z : Zt} {d : Nat} {p : Program} {e : Env} {R : Room} {s : State} {m : MethodId} {args : Array Value} {below : List Frame} {meth : Method} {c : Code} {Rp : RT} (C : Cx Z d jX10_send RX10 p R s m args meth c) : Sd Z jX10_send p e R s m args below meth c (MQ below (QcS Z Rp) args s 0 0 (fun a => Z.2.2.1 < a)) 0 (w_X10_send_0 (MS Z d) (Gw Z 5 p e R s m args below meth c (MQ below (QcS Z Rp) args s 0 0 (fun a => Z.2.2.1 < a))) Rp) := by
  unfold w_X10_send_0
  refine s_aload_n (k := 1) C (by decide +kernel) ?_
  refine s_getR C w_2_28 (by decide +kernel) rfl ?_
  refine s_iload_n (k := 2) C (by decide +kernel) ?_
  refine s_iald C (by decide +kernel) ?_
  refine s_aload_n (k := 1) C (by decide +kernel) ?_
  refine s_getR C w_2_34 (by decide +kernel) rfl ?_
  refine s_getI C w_1_163 (by decide +kernel) rfl ?_
  refine s_icmp_gt (off := 7) (tgt := 20) C (by decide +kernel) (by decide) (fun _ _ _ _ _ _ h => h) ?_
  refine s_iconst (n := 1) C (by decide +kernel) (by decide) ?_
  exact s_goto (off := 4) (tgt := 21) C (by decide +kernel) (by decide) (fun _ _ _ _ _ _ h => h)
set_option maxRecDepth 20000 in
theorem b_X10_send_20 {Z : Zt} {d : Nat} {p : Program} {e : Env} {R : Room} {s : State} {m : MethodId} {args : Array Value} {below : List Frame} {meth : Method} {c : Code} {Rp : RT} (C : Cx Z d jX10_send RX10 p R s m args meth c) : Sd Z jX10_send p e R s m args below meth c (MQ below (QcS Z Rp) args s 0 0 (fun a => Z.2.2.1 < a)) 20 (w_X10_send_20 (MS Z d) (Gw Z 5 p e R s m args below meth c (MQ below (QcS Z Rp) args s 0 0 (fun a => Z.2.2.1 < a))) Rp) := by
  unfold w_X10_send_20
  refine s_iconst (n := 0) C (by decide +kernel) (by decide) ?_
  exact (fun _ _ _ _ _ _ h => h)
set_option maxRecDepth 20000 in
theorem b_X10_send_21 {Z : Zt} {d : Nat} {p : Program} {e : Env} {R : Room} {s : State} {m : MethodId} {args : Array Value} {below : List Frame} {meth : Method} {c : Code} {Rp : RT} (C : Cx Z d jX10_send RX10 p R s m args meth c) : Sd Z jX10_send p e R s m args below meth c (MQ below (QcS Z Rp) args s 0 0 (fun a => Z.2.2.1 < a)) 21 (w_X10_send_21 (MS Z d) (Gw Z 5 p e R s m args below meth c (MQ below (QcS Z Rp) args s 0 0 (fun a => Z.2.2.1 < a))) Rp) := by
  unfold w_X10_send_21
  refine s_istore_n (k := 3) C (by decide +kernel) ?_
  refine s_aload_n (k := 0) C (by decide +kernel) ?_
  refine s_getR C w_2_117 (by decide +kernel) rfl ?_
  refine s_aload_n (k := 1) C (by decide +kernel) ?_
  refine s_getI C w_1_221 (by decide +kernel) rfl ?_
  refine s_iload_n (k := 2) C (by decide +kernel) ?_
  refine s_iload_n (k := 3) C (by decide +kernel) ?_
  refine s_if_eq (off := 7) (tgt := 39) C (by decide +kernel) (by decide) (fun _ _ _ _ _ _ h => h) ?_
  refine s_iconst (n := 4) C (by decide +kernel) (by decide) ?_
  exact s_goto (off := 4) (tgt := 40) C (by decide +kernel) (by decide) (fun _ _ _ _ _ _ h => h)
set_option maxRecDepth 20000 in
theorem b_X10_send_39 {Z : Zt} {d : Nat} {p : Program} {e : Env} {R : Room} {s : State} {m : MethodId} {args : Array Value} {below : List Frame} {meth : Method} {c : Code} {Rp : RT} (C : Cx Z d jX10_send RX10 p R s m args meth c) : Sd Z jX10_send p e R s m args below meth c (MQ below (QcS Z Rp) args s 0 0 (fun a => Z.2.2.1 < a)) 39 (w_X10_send_39 (MS Z d) (Gw Z 5 p e R s m args below meth c (MQ below (QcS Z Rp) args s 0 0 (fun a => Z.2.2.1 < a))) Rp) := by
  unfold w_X10_send_39
  refine s_iconst (n := 2) C (by decide +kernel) (by decide) ?_
  exact (fun _ _ _ _ _ _ h => h)
set_option maxRecDepth 20000 in
theorem b_X10_send_40 {Z : Zt} {d : Nat} {p : Program} {e : Env} {R : Room} {s : State} {m : MethodId} {args : Array Value} {below : List Frame} {meth : Method} {c : Code} {Rp : RT} (C : Cx Z d jX10_send RX10 p R s m args meth c) : Sd Z jX10_send p e R s m args below meth c (MQ below (QcS Z Rp) args s 0 0 (fun a => Z.2.2.1 < a)) 40 (w_X10_send_40 (MS Z d) (Gw Z 5 p e R s m args below meth c (MQ below (QcS Z Rp) args s 0 0 (fun a => Z.2.2.1 < a))) Rp) := by
  unfold w_X10_send_40
  refine s_aload_n (k := 1) C (by decide +kernel) ?_
  refine s_getI C w_1_227 (by decide +kernel) rfl ?_
  refine s_callV C rfl rfl (by decide +kernel) rfl w_3_125 w_3_126 w_3_127 w_1_3 w_3_128 (by decide +kernel) ?_
  refine s_astore (k := 4) C (by decide +kernel) ?_
  refine s_aload (k := 4) C (by decide +kernel) ?_
  refine s_aload_n (k := 1) C (by decide +kernel) ?_
  refine s_getI C w_2_1 (by decide +kernel) rfl ?_
  refine s_putI C w_1_92 (by decide +kernel) rfl (Or.inl rfl) ?_
  refine s_iload_n (k := 3) C (by decide +kernel) ?_
  refine s_if_eq (off := 74) (tgt := 133) C (by decide +kernel) (by decide) (fun _ _ _ _ _ _ h => h) ?_
  refine s_aload (k := 4) C (by decide +kernel) ?_
  refine s_aload_n (k := 1) C (by decide +kernel) ?_
  refine s_getR C w_2_34 (by decide +kernel) rfl ?_
  refine s_getI C w_1_163 (by decide +kernel) rfl ?_
  refine s_putI C w_1_74 (by decide +kernel) rfl (Or.inl rfl) ?_
  refine s_aload (k := 4) C (by decide +kernel) ?_
  refine s_aload_n (k := 1) C (by decide +kernel) ?_
  refine s_getR C w_2_34 (by decide +kernel) rfl ?_
  refine s_getI C w_1_167 (by decide +kernel) rfl ?_
  refine s_putI C w_1_79 (by decide +kernel) rfl (Or.inl rfl) ?_
  refine s_aload_n (k := 1) C (by decide +kernel) ?_
  refine s_getR C w_2_34 (by decide +kernel) rfl ?_
  refine s_getR C w_1_176 (by decide +kernel) rfl ?_
  refine s_iconst (n := 0) C (by decide +kernel) (by decide) ?_
  refine s_aload (k := 4) C (by decide +kernel) ?_
  refine s_getR C w_1_95 (by decide +kernel) rfl ?_
  refine s_iconst (n := 0) C (by decide +kernel) (by decide) ?_
  refine s_iconst (n := 4) C (by decide +kernel) (by decide) ?_
  refine s_copy C w_3_65 w_3_46 w_3_45 w_1_14 (by decide +kernel) ?_
  refine s_aload (k := 4) C (by decide +kernel) ?_
  refine s_getR C w_1_95 (by decide +kernel) rfl ?_
  refine s_iconst (n := 4) C (by decide +kernel) (by decide) ?_
  refine s_aload_n (k := 1) C (by decide +kernel) ?_
  refine s_getR C w_2_34 (by decide +kernel) rfl ?_
  refine s_getI C w_1_170 (by decide +kernel) rfl ?_
  refine s_iast C (by decide +kernel) ?_
  refine s_aload (k := 4) C (by decide +kernel) ?_
  refine s_getR C w_1_95 (by decide +kernel) rfl ?_
  refine s_iconst (n := 5) C (by decide +kernel) (by decide) ?_
  refine s_aload_n (k := 1) C (by decide +kernel) ?_
  refine s_getR C w_2_34 (by decide +kernel) rfl ?_
  refine s_getI C w_1_173 (by decide +kernel) rfl ?_
  refine s_iast C (by decide +kernel) ?_
  exact s_vret C rfl (by decide +kernel)
set_option maxRecDepth 20000 in
theorem b_X10_send_133 {Z : Zt} {d : Nat} {p : Program} {e : Env} {R : Room} {s : State} {m : MethodId} {args : Array Value} {below : List Frame} {meth : Method} {c : Code} {Rp : RT} (C : Cx Z d jX10_send RX10 p R s m args meth c) : Sd Z jX10_send p e R s m args below meth c (MQ below (QcS Z Rp) args s 0 0 (fun a => Z.2.2.1 < a)) 133 (w_X10_send_133 (MS Z d) (Gw Z 5 p e R s m args below meth c (MQ below (QcS Z Rp) args s 0 0 (fun a => Z.2.2.1 < a))) Rp) := by
  unfold w_X10_send_133
  refine s_aload (k := 4) C (by decide +kernel) ?_
  refine s_aload_n (k := 1) C (by decide +kernel) ?_
  refine s_getR C w_2_28 (by decide +kernel) rfl ?_
  refine s_iload_n (k := 2) C (by decide +kernel) ?_
  refine s_iald C (by decide +kernel) ?_
  refine s_iconst (n := 1) C (by decide +kernel) (by decide) ?_
  refine s_isub C (by decide +kernel) ?_
  refine s_putI C w_1_74 (by decide +kernel) rfl (Or.inl rfl) ?_
  refine s_aload (k := 4) C (by decide +kernel) ?_
  refine s_aload_n (k := 1) C (by decide +kernel) ?_
  refine s_aload (k := 4) C (by decide +kernel) ?_
  refine s_getI C w_1_74 (by decide +kernel) rfl ?_
  refine s_callV C rfl rfl (by decide +kernel) rfl w_3_129 w_3_130 w_3_131 w_1_5 w_3_132 (by decide +kernel) ?_
  refine s_putI C w_1_79 (by decide +kernel) rfl (Or.inl rfl) ?_
  refine s_aload (k := 4) C (by decide +kernel) ?_
  refine s_aload_n (k := 1) C (by decide +kernel) ?_
  refine s_getI C w_2_9 (by decide +kernel) rfl ?_
  refine s_putI C w_1_88 (by decide +kernel) rfl (Or.inl rfl) ?_
  refine s_aload (k := 4) C (by decide +kernel) ?_
  refine s_iconst (n := 0) C (by decide +kernel) (by decide) ?_
  refine s_iconst (n := 3) C (by decide +kernel) (by decide) ?_
  refine s_aload_n (k := 1) C (by decide +kernel) ?_
  refine s_getI C w_2_5 (by decide +kernel) rfl ?_
  refine s_aload (k := 4) C (by decide +kernel) ?_
  refine s_getI C w_1_74 (by decide +kernel) rfl ?_
  refine s_isub C (by decide +kernel) ?_
  refine s_min C w_3_166 w_3_84 w_1_16 w_min (by decide +kernel) ?_
  refine s_max C w_3_167 w_3_168 w_1_16 w_max (by decide +kernel) ?_
  refine s_putI C w_1_84 (by decide +kernel) rfl (Or.inl rfl) ?_
  refine s_aload_n (k := 1) C (by decide +kernel) ?_
  refine s_getR C w_2_22 (by decide +kernel) rfl ?_
  refine s_aload (k := 4) C (by decide +kernel) ?_
  refine s_getI C w_1_74 (by decide +kernel) rfl ?_
  refine s_iconst (n := 1) C (by decide +kernel) (by decide) ?_
  refine s_iadd C (by decide +kernel) ?_
  refine s_aload (k := 4) C (by decide +kernel) ?_
  refine s_getR C w_1_95 (by decide +kernel) rfl ?_
  refine s_iconst (n := 0) C (by decide +kernel) (by decide) ?_
  refine s_aload (k := 4) C (by decide +kernel) ?_
  refine s_getI C w_1_84 (by decide +kernel) rfl ?_
  refine s_copy C w_3_65 w_3_46 w_3_45 w_1_14 (by decide +kernel) ?_
  exact s_vret C rfl (by decide +kernel)
theorem ms_X10_send {Z : Zt} {d : Nat} {S : Sh} {μ : Mi} {ρ : Mr} {Rp : RT} (a0 : Nat) (a1 : Nat) (x2 : Int32) (h : ∀ G : Nat → PT, (∀ (L st : List Value) (S : Sh) (q : Nat × Nat) (μ : Mi) (ρ : Mr), w_X10_send_20 (MS Z d) G Rp L st S q μ ρ → G 20 L st S q μ ρ) → (∀ (L st : List Value) (S : Sh) (q : Nat × Nat) (μ : Mi) (ρ : Mr), w_X10_send_21 (MS Z d) G Rp L st S q μ ρ → G 21 L st S q μ ρ) → (∀ (L st : List Value) (S : Sh) (q : Nat × Nat) (μ : Mi) (ρ : Mr), w_X10_send_39 (MS Z d) G Rp L st S q μ ρ → G 39 L st S q μ ρ) → (∀ (L st : List Value) (S : Sh) (q : Nat × Nat) (μ : Mi) (ρ : Mr), w_X10_send_40 (MS Z d) G Rp L st S q μ ρ → G 40 L st S q μ ρ) → (∀ (L st : List Value) (S : Sh) (q : Nat × Nat) (μ : Mi) (ρ : Mr), w_X10_send_133 (MS Z d) G Rp L st S q μ ρ → G 133 L st S q μ ρ) → w_X10_send_0 (MS Z d) G Rp [.ref a0, .ref a1, .int x2, .null, .null] [] S (0, 0) μ ρ) : MS Z (d + 1) jX10_send [.ref a0, .ref a1, .int x2] S μ ρ Rp :=
  MS_of [.ref a0, .ref a1, .int x2, .null, .null] (by decide +kernel) rfl rfl (Nat.le_of_ble_eq_true rfl) rfl (fun p e R s m args below meth c C => b_X10_send_0 C _ _ _ _ _ _ (h _ (b_X10_send_20 C) (b_X10_send_21 C) (b_X10_send_39 C) (b_X10_send_40 C) (b_X10_send_133 C)))
def w_X10_leavesJoint_0 (M : CT) (G : Nat → PT) (Rp : RT) : PT := tAload 1 <| tGetI 7 18 9 <| tAload 1 <| tGetI 7 18 8 <| tIf2 (fun x y => x ≤ y) (G 13) <| tConst 0 <| tZret Rp
def w_X10_leavesJoint_13 (M : CT) (G : Nat → PT) (Rp : RT) : PT := tAload 1 <| tGetI 7 18 11 <| tIf (fun x => x ≠ 0) (G 38) <| tAload 1 <| tAload 1 <| tGetI 7 18 0 <| tCallV M jX7_isMember 7 18 1 <| tIf (fun x => x ≠ 0) (G 36) <| tAload 1 <| tConst 0 <| tCallV M jX7_becomes 7 18 1 <| G 36
def w_X10_leavesJoint_36 (M : CT) (G : Nat → PT) (Rp : RT) : PT := tConst 0 <| tZret Rp
def w_X10_leavesJoint_38 (M : CT) (G : Nat → PT) (Rp : RT) : PT := tAload 1 <| tGetI 7 18 7 <| tConst 120 <| tIf2 (fun x y => x < y) (G 49) <| tConst 0 <| tZret Rp
def w_X10_leavesJoint_49 (M : CT) (G : Nat → PT) (Rp : RT) : PT := tAload 1 <| tAload 1 <| tGetI 7 18 2 <| tConst 4 <| tAload 1 <| tGetI 7 18 11 <| tConst 0 <| tCallS M jX0_of 4 <| tCallV M jX7_append 7 18 1 <| tConst 1 <| tZret Rp
set_option maxRecDepth 20000 in
theorem b_X10_leavesJoint_0 {Z : Zt} {d : Nat} {p : Program} {e : Env} {R : Room} {s : State} {m : MethodId} {args : Array Value} {below : List Frame} {meth : Method} {c : Code} {Rp : RT} (C : Cx Z d jX10_leavesJoint RX10 p R s m args meth c) : Sd Z jX10_leavesJoint p e R s m args below meth c (MQ below (QcS Z Rp) args s 0 0 (fun a => Z.2.2.1 < a)) 0 (w_X10_leavesJoint_0 (MS Z d) (Gw Z 2 p e R s m args below meth c (MQ below (QcS Z Rp) args s 0 0 (fun a => Z.2.2.1 < a))) Rp) := by
  unfold w_X10_leavesJoint_0
  refine s_aload_n (k := 1) C (by decide +kernel) ?_
  refine s_getI C w_2_11 (by decide +kernel) rfl ?_
  refine s_aload_n (k := 1) C (by decide +kernel) ?_
  refine s_getI C w_2_9 (by decide +kernel) rfl ?_
  refine s_icmp_le (off := 5) (tgt := 13) C (by decide +kernel) (by decide) (fun _ _ _ _ _ _ h => h) ?_
  refine s_iconst (n := 0) C (by decide +kernel) (by decide) ?_
  exact s_zret C rfl (by decide +kernel)
set_option maxRecDepth 20000 in
theorem b_X10_leavesJoint_13 {Z : Zt} {d : Nat} {p : Program} {e : Env} {R : Room} {s : State} {m : MethodId} {args : Array Value} {below : List Frame} {meth : Method} {c : Code} {Rp : RT} (C : Cx Z d jX10_leavesJoint RX10 p R s m args meth c) : Sd Z jX10_leavesJoint p e R s m args below meth c (MQ below (QcS Z Rp) args s 0 0 (fun a => Z.2.2.1 < a)) 13 (w_X10_leavesJoint_13 (MS Z d) (Gw Z 2 p e R s m args below meth c (MQ below (QcS Z Rp) args s 0 0 (fun a => Z.2.2.1 < a))) Rp) := by
  unfold w_X10_leavesJoint_13
  refine s_aload_n (k := 1) C (by decide +kernel) ?_
  refine s_getI C w_2_19 (by decide +kernel) rfl ?_
  refine s_if_ne (off := 21) (tgt := 38) C (by decide +kernel) (by decide) (fun _ _ _ _ _ _ h => h) ?_
  refine s_aload_n (k := 1) C (by decide +kernel) ?_
  refine s_aload_n (k := 1) C (by decide +kernel) ?_
  refine s_getI C w_1_221 (by decide +kernel) rfl ?_
  refine s_callV C rfl rfl (by decide +kernel) rfl w_3_109 w_3_110 w_3_111 w_1_5 w_3_112 (by decide +kernel) ?_
  refine s_if_ne (off := 8) (tgt := 36) C (by decide +kernel) (by decide) (fun _ _ _ _ _ _ h => h) ?_
  refine s_aload_n (k := 1) C (by decide +kernel) ?_
  refine s_iconst (n := 0) C (by decide +kernel) (by decide) ?_
  refine s_callV C rfl rfl (by decide +kernel) rfl w_3_117 w_3_118 w_3_119 w_1_5 w_3_120 (by decide +kernel) ?_
  exact (fun _ _ _ _ _ _ h => h)
set_option maxRecDepth 20000 in
theorem b_X10_leavesJoint_36 {Z : Zt} {d : Nat} {p : Program} {e : Env} {R : Room} {s : State} {m : MethodId} {args : Array Value} {below : List Frame} {meth : Method} {c : Code} {Rp : RT} (C : Cx Z d jX10_leavesJoint RX10 p R s m args meth c) : Sd Z jX10_leavesJoint p e R s m args below meth c (MQ below (QcS Z Rp) args s 0 0 (fun a => Z.2.2.1 < a)) 36 (w_X10_leavesJoint_36 (MS Z d) (Gw Z 2 p e R s m args below meth c (MQ below (QcS Z Rp) args s 0 0 (fun a => Z.2.2.1 < a))) Rp) := by
  unfold w_X10_leavesJoint_36
  refine s_iconst (n := 0) C (by decide +kernel) (by decide) ?_
  exact s_zret C rfl (by decide +kernel)
set_option maxRecDepth 20000 in
theorem b_X10_leavesJoint_38 {Z : Zt} {d : Nat} {p : Program} {e : Env} {R : Room} {s : State} {m : MethodId} {args : Array Value} {below : List Frame} {meth : Method} {c : Code} {Rp : RT} (C : Cx Z d jX10_leavesJoint RX10 p R s m args meth c) : Sd Z jX10_leavesJoint p e R s m args below meth c (MQ below (QcS Z Rp) args s 0 0 (fun a => Z.2.2.1 < a)) 38 (w_X10_leavesJoint_38 (MS Z d) (Gw Z 2 p e R s m args below meth c (MQ below (QcS Z Rp) args s 0 0 (fun a => Z.2.2.1 < a))) Rp) := by
  unfold w_X10_leavesJoint_38
  refine s_aload_n (k := 1) C (by decide +kernel) ?_
  refine s_getI C w_2_5 (by decide +kernel) rfl ?_
  refine s_bipush (n := 120) C (by decide +kernel) (by decide) ?_
  refine s_icmp_lt (off := 5) (tgt := 49) C (by decide +kernel) (by decide) (fun _ _ _ _ _ _ h => h) ?_
  refine s_iconst (n := 0) C (by decide +kernel) (by decide) ?_
  exact s_zret C rfl (by decide +kernel)
set_option maxRecDepth 20000 in
theorem b_X10_leavesJoint_49 {Z : Zt} {d : Nat} {p : Program} {e : Env} {R : Room} {s : State} {m : MethodId} {args : Array Value} {below : List Frame} {meth : Method} {c : Code} {Rp : RT} (C : Cx Z d jX10_leavesJoint RX10 p R s m args meth c) : Sd Z jX10_leavesJoint p e R s m args below meth c (MQ below (QcS Z Rp) args s 0 0 (fun a => Z.2.2.1 < a)) 49 (w_X10_leavesJoint_49 (MS Z d) (Gw Z 2 p e R s m args below meth c (MQ below (QcS Z Rp) args s 0 0 (fun a => Z.2.2.1 < a))) Rp) := by
  unfold w_X10_leavesJoint_49
  refine s_aload_n (k := 1) C (by decide +kernel) ?_
  refine s_aload_n (k := 1) C (by decide +kernel) ?_
  refine s_getI C w_1_227 (by decide +kernel) rfl ?_
  refine s_iconst (n := 4) C (by decide +kernel) (by decide) ?_
  refine s_aload_n (k := 1) C (by decide +kernel) ?_
  refine s_getI C w_2_19 (by decide +kernel) rfl ?_
  refine s_iconst (n := 0) C (by decide +kernel) (by decide) ?_
  refine s_callS C (by decide +kernel) rfl w_3_151 w_3_152 w_1_9 w_3_153 (by decide +kernel) ?_
  refine s_callV C rfl rfl (by decide +kernel) rfl w_3_154 w_3_155 w_3_156 w_1_5 w_3_157 (by decide +kernel) ?_
  refine s_iconst (n := 1) C (by decide +kernel) (by decide) ?_
  exact s_zret C rfl (by decide +kernel)
theorem ms_X10_leavesJoint {Z : Zt} {d : Nat} {S : Sh} {μ : Mi} {ρ : Mr} {Rp : RT} (a0 : Nat) (a1 : Nat) (h : ∀ G : Nat → PT, (∀ (L st : List Value) (S : Sh) (q : Nat × Nat) (μ : Mi) (ρ : Mr), w_X10_leavesJoint_13 (MS Z d) G Rp L st S q μ ρ → G 13 L st S q μ ρ) → (∀ (L st : List Value) (S : Sh) (q : Nat × Nat) (μ : Mi) (ρ : Mr), w_X10_leavesJoint_36 (MS Z d) G Rp L st S q μ ρ → G 36 L st S q μ ρ) → (∀ (L st : List Value) (S : Sh) (q : Nat × Nat) (μ : Mi) (ρ : Mr), w_X10_leavesJoint_38 (MS Z d) G Rp L st S q μ ρ → G 38 L st S q μ ρ) → (∀ (L st : List Value) (S : Sh) (q : Nat × Nat) (μ : Mi) (ρ : Mr), w_X10_leavesJoint_49 (MS Z d) G Rp L st S q μ ρ → G 49 L st S q μ ρ) → w_X10_leavesJoint_0 (MS Z d) G Rp [.ref a0, .ref a1] [] S (0, 0) μ ρ) : MS Z (d + 1) jX10_leavesJoint [.ref a0, .ref a1] S μ ρ Rp :=
  MS_of [.ref a0, .ref a1] (by decide +kernel) rfl rfl (Nat.le_of_ble_eq_true rfl) rfl (fun p e R s m args below meth c C => b_X10_leavesJoint_0 C _ _ _ _ _ _ (h _ (b_X10_leavesJoint_13 C) (b_X10_leavesJoint_36 C) (b_X10_leavesJoint_38 C) (b_X10_leavesJoint_49 C)))
def w_X10_greatestShared_0 (M : CT) (G : Nat → PT) (Rp : RT) : PT := tAload 1 <| tGetI 7 18 7 <| tIstore 2 <| G 5
def w_X10_greatestShared_5 (M : CT) (G : Nat → PT) (Rp : RT) : PT := tIload 2 <| tAload 1 <| tGetI 7 18 8 <| tIf2 (fun x y => x ≤ y) (G 88) <| tAload 1 <| tGetR 7 18 12 <| tIload 2 <| tAld 20 <| tCallS M jX0_termOf 1 <| tAload 1 <| tGetI 7 18 2 <| tIf2 (fun x y => x = y) (G 32) <| tGoto (G 82)
def w_X10_greatestShared_32 (M : CT) (G : Nat → PT) (Rp : RT) : PT := tConst 1 <| tAload 1 <| tGetI 7 18 0 <| tBin (fun x y => x <<< (y &&& 31)) <| tIstore 3 <| tConst 0 <| tIstore 4 <| G 42
def w_X10_greatestShared_42 (M : CT) (G : Nat → PT) (Rp : RT) : PT := tIload 4 <| tConst 5 <| tIf2 (fun x y => y ≤ x) (G 72) <| tAload 1 <| tGetR 7 18 15 <| tIload 4 <| tAld 20 <| tIload 2 <| tIf2 (fun x y => x < y) (G 66) <| tIload 3 <| tConst 1 <| tIload 4 <| tBin (fun x y => x <<< (y &&& 31)) <| tBin (fun x y => x ||| y) <| tIstore 3 <| G 66
def w_X10_greatestShared_66 (M : CT) (G : Nat → PT) (Rp : RT) : PT := tIinc 4 1 <| tGoto (G 42)
def w_X10_greatestShared_72 (M : CT) (G : Nat → PT) (Rp : RT) : PT := tAload 1 <| tIload 3 <| tCallV M jX7_isMajority 7 18 1 <| tIf (fun x => x = 0) (G 82) <| tIload 2 <| tIret Rp
def w_X10_greatestShared_82 (M : CT) (G : Nat → PT) (Rp : RT) : PT := tIinc 2 (-1) <| tGoto (G 5)
def w_X10_greatestShared_88 (M : CT) (G : Nat → PT) (Rp : RT) : PT := tAload 1 <| tGetI 7 18 8 <| tIret Rp
set_option maxRecDepth 20000 in
theorem b_X10_greatestShared_0 {Z : Zt} {d : Nat} {p : Program} {e : Env} {R : Room} {s : State} {m : MethodId} {args : Array Value} {below : List Frame} {meth : Method} {c : Code} {Rp : RT} (C : Cx Z d jX10_greatestShared RX10 p R s m args meth c) : Sd Z jX10_greatestShared p e R s m args below meth c (MQ below (QcS Z Rp) args s 0 0 (fun a => Z.2.2.1 < a)) 0 (w_X10_greatestShared_0 (MS Z d) (Gw Z 5 p e R s m args below meth c (MQ below (QcS Z Rp) args s 0 0 (fun a => Z.2.2.1 < a))) Rp) := by
  unfold w_X10_greatestShared_0
  refine s_aload_n (k := 1) C (by decide +kernel) ?_
  refine s_getI C w_2_5 (by decide +kernel) rfl ?_
  refine s_istore_n (k := 2) C (by decide +kernel) ?_
  exact (fun _ _ _ _ _ _ h => h)
set_option maxRecDepth 20000 in
theorem b_X10_greatestShared_5 {Z : Zt} {d : Nat} {p : Program} {e : Env} {R : Room} {s : State} {m : MethodId} {args : Array Value} {below : List Frame} {meth : Method} {c : Code} {Rp : RT} (C : Cx Z d jX10_greatestShared RX10 p R s m args meth c) : Sd Z jX10_greatestShared p e R s m args below meth c (MQ below (QcS Z Rp) args s 0 0 (fun a => Z.2.2.1 < a)) 5 (w_X10_greatestShared_5 (MS Z d) (Gw Z 5 p e R s m args below meth c (MQ below (QcS Z Rp) args s 0 0 (fun a => Z.2.2.1 < a))) Rp) := by
  unfold w_X10_greatestShared_5
  refine s_iload_n (k := 2) C (by decide +kernel) ?_
  refine s_aload_n (k := 1) C (by decide +kernel) ?_
  refine s_getI C w_2_9 (by decide +kernel) rfl ?_
  refine s_icmp_le (off := 78) (tgt := 88) C (by decide +kernel) (by decide) (fun _ _ _ _ _ _ h => h) ?_
  refine s_aload_n (k := 1) C (by decide +kernel) ?_
  refine s_getR C w_2_22 (by decide +kernel) rfl ?_
  refine s_iload_n (k := 2) C (by decide +kernel) ?_
  refine s_iald C (by decide +kernel) ?_
  refine s_callS C (by decide +kernel) rfl w_3_174 w_3_175 w_1_9 w_3_176 (by decide +kernel) ?_
  refine s_aload_n (k := 1) C (by decide +kernel) ?_
  refine s_getI C w_1_227 (by decide +kernel) rfl ?_
  refine s_icmp_eq (off := 6) (tgt := 32) C (by decide +kernel) (by decide) (fun _ _ _ _ _ _ h => h) ?_
  exact s_goto (off := 53) (tgt := 82) C (by decide +kernel) (by decide) (fun _ _ _ _ _ _ h => h)
set_option maxRecDepth 20000 in
theorem b_X10_greatestShared_32 {Z : Zt} {d : Nat} {p : Program} {e : Env} {R : Room} {s : State} {m : MethodId} {args : Array Value} {below : List Frame} {meth : Method} {c : Code} {Rp : RT} (C : Cx Z d jX10_greatestShared RX10 p R s m args meth c) : Sd Z jX10_greatestShared p e R s m args below meth c (MQ below (QcS Z Rp) args s 0 0 (fun a => Z.2.2.1 < a)) 32 (w_X10_greatestShared_32 (MS Z d) (Gw Z 5 p e R s m args below meth c (MQ below (QcS Z Rp) args s 0 0 (fun a => Z.2.2.1 < a))) Rp) := by
  unfold w_X10_greatestShared_32
  refine s_iconst (n := 1) C (by decide +kernel) (by decide) ?_
  refine s_aload_n (k := 1) C (by decide +kernel) ?_
  refine s_getI C w_1_221 (by decide +kernel) rfl ?_
  refine s_ishl C (by decide +kernel) ?_
  refine s_istore_n (k := 3) C (by decide +kernel) ?_
  refine s_iconst (n := 0) C (by decide +kernel) (by decide) ?_
  refine s_istore (k := 4) C (by decide +kernel) ?_
  exact (fun _ _ _ _ _ _ h => h)
set_option maxRecDepth 20000 in
theorem b_X10_greatestShared_42 {Z : Zt} {d : Nat} {p : Program} {e : Env} {R : Room} {s : State} {m : MethodId} {args : Array Value} {below : List Frame} {meth : Method} {c : Code} {Rp : RT} (C : Cx Z d jX10_greatestShared RX10 p R s m args meth c) : Sd Z jX10_greatestShared p e R s m args below meth c (MQ below (QcS Z Rp) args s 0 0 (fun a => Z.2.2.1 < a)) 42 (w_X10_greatestShared_42 (MS Z d) (Gw Z 5 p e R s m args below meth c (MQ below (QcS Z Rp) args s 0 0 (fun a => Z.2.2.1 < a))) Rp) := by
  unfold w_X10_greatestShared_42
  refine s_iload (k := 4) C (by decide +kernel) ?_
  refine s_iconst (n := 5) C (by decide +kernel) (by decide) ?_
  refine s_icmp_ge (off := 27) (tgt := 72) C (by decide +kernel) (by decide) (fun _ _ _ _ _ _ h => h) ?_
  refine s_aload_n (k := 1) C (by decide +kernel) ?_
  refine s_getR C w_2_30 (by decide +kernel) rfl ?_
  refine s_iload (k := 4) C (by decide +kernel) ?_
  refine s_iald C (by decide +kernel) ?_
  refine s_iload_n (k := 2) C (by decide +kernel) ?_
  refine s_icmp_lt (off := 10) (tgt := 66) C (by decide +kernel) (by decide) (fun _ _ _ _ _ _ h => h) ?_
  refine s_iload_n (k := 3) C (by decide +kernel) ?_
  refine s_iconst (n := 1) C (by decide +kernel) (by decide) ?_
  refine s_iload (k := 4) C (by decide +kernel) ?_
  refine s_ishl C (by decide +kernel) ?_
  refine s_ior C (by decide +kernel) ?_
  refine s_istore_n (k := 3) C (by decide +kernel) ?_
  exact (fun _ _ _ _ _ _ h => h)
set_option maxRecDepth 20000 in
theorem b_X10_greatestShared_66 {Z : Zt} {d : Nat} {p : Program} {e : Env} {R : Room} {s : State} {m : MethodId} {args : Array Value} {below : List Frame} {meth : Method} {c : Code} {Rp : RT} (C : Cx Z d jX10_greatestShared RX10 p R s m args meth c) : Sd Z jX10_greatestShared p e R s m args below meth c (MQ below (QcS Z Rp) args s 0 0 (fun a => Z.2.2.1 < a)) 66 (w_X10_greatestShared_66 (MS Z d) (Gw Z 5 p e R s m args below meth c (MQ below (QcS Z Rp) args s 0 0 (fun a => Z.2.2.1 < a))) Rp) := by
  unfold w_X10_greatestShared_66
  refine s_iinc (n := 1) C (by decide +kernel) (by decide) ?_
  exact s_goto (off := (-27)) (tgt := 42) C (by decide +kernel) (by decide) (fun _ _ _ _ _ _ h => h)
set_option maxRecDepth 20000 in
theorem b_X10_greatestShared_72 {Z : Zt} {d : Nat} {p : Program} {e : Env} {R : Room} {s : State} {m : MethodId} {args : Array Value} {below : List Frame} {meth : Method} {c : Code} {Rp : RT} (C : Cx Z d jX10_greatestShared RX10 p R s m args meth c) : Sd Z jX10_greatestShared p e R s m args below meth c (MQ below (QcS Z Rp) args s 0 0 (fun a => Z.2.2.1 < a)) 72 (w_X10_greatestShared_72 (MS Z d) (Gw Z 5 p e R s m args below meth c (MQ below (QcS Z Rp) args s 0 0 (fun a => Z.2.2.1 < a))) Rp) := by
  unfold w_X10_greatestShared_72
  refine s_aload_n (k := 1) C (by decide +kernel) ?_
  refine s_iload_n (k := 3) C (by decide +kernel) ?_
  refine s_callV C rfl rfl (by decide +kernel) rfl w_3_133 w_3_134 w_3_135 w_1_5 w_3_136 (by decide +kernel) ?_
  refine s_if_eq (off := 5) (tgt := 82) C (by decide +kernel) (by decide) (fun _ _ _ _ _ _ h => h) ?_
  refine s_iload_n (k := 2) C (by decide +kernel) ?_
  exact s_iret C rfl (by decide +kernel)
set_option maxRecDepth 20000 in
theorem b_X10_greatestShared_82 {Z : Zt} {d : Nat} {p : Program} {e : Env} {R : Room} {s : State} {m : MethodId} {args : Array Value} {below : List Frame} {meth : Method} {c : Code} {Rp : RT} (C : Cx Z d jX10_greatestShared RX10 p R s m args meth c) : Sd Z jX10_greatestShared p e R s m args below meth c (MQ below (QcS Z Rp) args s 0 0 (fun a => Z.2.2.1 < a)) 82 (w_X10_greatestShared_82 (MS Z d) (Gw Z 5 p e R s m args below meth c (MQ below (QcS Z Rp) args s 0 0 (fun a => Z.2.2.1 < a))) Rp) := by
  unfold w_X10_greatestShared_82
  refine s_iinc (n := (-1)) C (by decide +kernel) (by decide) ?_
  exact s_goto (off := (-80)) (tgt := 5) C (by decide +kernel) (by decide) (fun _ _ _ _ _ _ h => h)
set_option maxRecDepth 20000 in
theorem b_X10_greatestShared_88 {Z : Zt} {d : Nat} {p : Program} {e : Env} {R : Room} {s : State} {m : MethodId} {args : Array Value} {below : List Frame} {meth : Method} {c : Code} {Rp : RT} (C : Cx Z d jX10_greatestShared RX10 p R s m args meth c) : Sd Z jX10_greatestShared p e R s m args below meth c (MQ below (QcS Z Rp) args s 0 0 (fun a => Z.2.2.1 < a)) 88 (w_X10_greatestShared_88 (MS Z d) (Gw Z 5 p e R s m args below meth c (MQ below (QcS Z Rp) args s 0 0 (fun a => Z.2.2.1 < a))) Rp) := by
  unfold w_X10_greatestShared_88
  refine s_aload_n (k := 1) C (by decide +kernel) ?_
  refine s_getI C w_2_9 (by decide +kernel) rfl ?_
  exact s_iret C rfl (by decide +kernel)
theorem ms_X10_greatestShared {Z : Zt} {d : Nat} {S : Sh} {μ : Mi} {ρ : Mr} {Rp : RT} (a0 : Nat) (a1 : Nat) (h : ∀ G : Nat → PT, (∀ (L st : List Value) (S : Sh) (q : Nat × Nat) (μ : Mi) (ρ : Mr), w_X10_greatestShared_5 (MS Z d) G Rp L st S q μ ρ → G 5 L st S q μ ρ) → (∀ (L st : List Value) (S : Sh) (q : Nat × Nat) (μ : Mi) (ρ : Mr), w_X10_greatestShared_32 (MS Z d) G Rp L st S q μ ρ → G 32 L st S q μ ρ) → (∀ (L st : List Value) (S : Sh) (q : Nat × Nat) (μ : Mi) (ρ : Mr), w_X10_greatestShared_42 (MS Z d) G Rp L st S q μ ρ → G 42 L st S q μ ρ) → (∀ (L st : List Value) (S : Sh) (q : Nat × Nat) (μ : Mi) (ρ : Mr), w_X10_greatestShared_66 (MS Z d) G Rp L st S q μ ρ → G 66 L st S q μ ρ) → (∀ (L st : List Value) (S : Sh) (q : Nat × Nat) (μ : Mi) (ρ : Mr), w_X10_greatestShared_72 (MS Z d) G Rp L st S q μ ρ → G 72 L st S q μ ρ) → (∀ (L st : List Value) (S : Sh) (q : Nat × Nat) (μ : Mi) (ρ : Mr), w_X10_greatestShared_82 (MS Z d) G Rp L st S q μ ρ → G 82 L st S q μ ρ) → (∀ (L st : List Value) (S : Sh) (q : Nat × Nat) (μ : Mi) (ρ : Mr), w_X10_greatestShared_88 (MS Z d) G Rp L st S q μ ρ → G 88 L st S q μ ρ) → w_X10_greatestShared_0 (MS Z d) G Rp [.ref a0, .ref a1, .null, .null, .null] [] S (0, 0) μ ρ) : MS Z (d + 1) jX10_greatestShared [.ref a0, .ref a1] S μ ρ Rp :=
  MS_of [.ref a0, .ref a1, .null, .null, .null] (by decide +kernel) rfl rfl (Nat.le_of_ble_eq_true rfl) rfl (fun p e R s m args below meth c C => b_X10_greatestShared_0 C _ _ _ _ _ _ (h _ (b_X10_greatestShared_5 C) (b_X10_greatestShared_32 C) (b_X10_greatestShared_42 C) (b_X10_greatestShared_66 C) (b_X10_greatestShared_72 C) (b_X10_greatestShared_82 C) (b_X10_greatestShared_88 C)))
def w_X10_agreeUpTo_0 (M : CT) (G : Nat → PT) (Rp : RT) : PT := tIload 2 <| tAload 1 <| tGetI 7 18 7 <| tMin <| tIstore 3 <| tAload 1 <| tGetI 7 18 8 <| tConst 1 <| tBin (fun x y => x + y) <| tIstore 4 <| G 17
def w_X10_agreeUpTo_17 (M : CT) (G : Nat → PT) (Rp : RT) : PT := tIload 4 <| tIload 3 <| tIf2 (fun x y => y < x) (G 130) <| tAload 1 <| tGetR 7 18 12 <| tIload 4 <| tAld 20 <| tIstore 5 <| tIload 5 <| tCallS M jX0_cellOf 1 <| tIstore 6 <| tIload 5 <| tCallS M jX0_kindOf 1 <| tSw [(1, G 72), (2, G 87)] (G 105)
def w_X10_agreeUpTo_72 (M : CT) (G : Nat → PT) (Rp : RT) : PT := tAload 1 <| tGetR 7 18 13 <| tIload 6 <| tIload 5 <| tCallS M jX0_numberOf 1 <| tIast <| tGoto (G 105)
def w_X10_agreeUpTo_87 (M : CT) (G : Nat → PT) (Rp : RT) : PT := tAload 1 <| tGetR 7 18 13 <| tIload 6 <| tDup2 <| tAld 20 <| tIload 5 <| tCallS M jX0_numberOf 1 <| tBin (fun x y => x + y) <| tIast <| tGoto (G 105)
def w_X10_agreeUpTo_105 (M : CT) (G : Nat → PT) (Rp : RT) : PT := tAload 0 <| tGetR 10 6 2 <| tIload 4 <| tAld 20 <| tIf (fun x => x ≠ 0) (G 124) <| tAload 0 <| tGetR 10 6 2 <| tIload 4 <| tIload 5 <| tIast <| G 124
def w_X10_agreeUpTo_124 (M : CT) (G : Nat → PT) (Rp : RT) : PT := tIinc 4 1 <| tGoto (G 17)
def w_X10_agreeUpTo_130 (M : CT) (G : Nat → PT) (Rp : RT) : PT := tAload 1 <| tAload 1 <| tGetI 7 18 8 <| tIload 3 <| tMax <| tPutI 7 18 8 <| tVret Rp
set_option maxRecDepth 20000 in
theorem b_X10_agreeUpTo_0 {Z : Zt} {d : Nat} {p : Program} {e : Env} {R : Room} {s : State} {m : MethodId} {args : Array Value} {below : List Frame} {meth : Method} {c : Code} {Rp : RT} (C : Cx Z d jX10_agreeUpTo RX10 p R s m args meth c) : Sd Z jX10_agreeUpTo p e R s m args below meth c (MQ below (QcS Z Rp) args s 0 0 (fun a => Z.2.2.1 < a)) 0 (w_X10_agreeUpTo_0 (MS Z d) (Gw Z 7 p e R s m args below meth c (MQ below (QcS Z Rp) args s 0 0 (fun a => Z.2.2.1 < a))) Rp) := by
  unfold w_X10_agreeUpTo_0
  refine s_iload_n (k := 2) C (by decide +kernel) ?_
  refine s_aload_n (k := 1) C (by decide +kernel) ?_
  refine s_getI C w_2_5 (by decide +kernel) rfl ?_
  refine s_min C w_3_166 w_3_84 w_1_16 w_min (by decide +kernel) ?_
  refine s_istore_n (k := 3) C (by decide +kernel) ?_
  refine s_aload_n (k := 1) C (by decide +kernel) ?_
  refine s_getI C w_2_9 (by decide +kernel) rfl ?_
  refine s_iconst (n := 1) C (by decide +kernel) (by decide) ?_
  refine s_iadd C (by decide +kernel) ?_
  refine s_istore (k := 4) C (by decide +kernel) ?_
  exact (fun _ _ _ _ _ _ h => h)
set_option maxRecDepth 20000 in
theorem b_X10_agreeUpTo_17 {Z : Zt} {d : Nat} {p : Program} {e : Env} {R : Room} {s : State} {m : MethodId} {args : Array Value} {below : List Frame} {meth : Method} {c : Code} {Rp : RT} (C : Cx Z d jX10_agreeUpTo RX10 p R s m args meth c) : Sd Z jX10_agreeUpTo p e R s m args below meth c (MQ below (QcS Z Rp) args s 0 0 (fun a => Z.2.2.1 < a)) 17 (w_X10_agreeUpTo_17 (MS Z d) (Gw Z 7 p e R s m args below meth c (MQ below (QcS Z Rp) args s 0 0 (fun a => Z.2.2.1 < a))) Rp) := by
  unfold w_X10_agreeUpTo_17
  refine s_iload (k := 4) C (by decide +kernel) ?_
  refine s_iload_n (k := 3) C (by decide +kernel) ?_
  refine s_icmp_gt (off := 110) (tgt := 130) C (by decide +kernel) (by decide) (fun _ _ _ _ _ _ h => h) ?_
  refine s_aload_n (k := 1) C (by decide +kernel) ?_
  refine s_getR C w_2_22 (by decide +kernel) rfl ?_
  refine s_iload (k := 4) C (by decide +kernel) ?_
  refine s_iald C (by decide +kernel) ?_
  refine s_istore (k := 5) C (by decide +kernel) ?_
  refine s_iload (k := 5) C (by decide +kernel) ?_
  refine s_callS C (by decide +kernel) rfl w_3_181 w_2_103 w_1_9 w_2_104 (by decide +kernel) ?_
  refine s_istore (k := 6) C (by decide +kernel) ?_
  refine s_iload (k := 5) C (by decide +kernel) ?_
  refine s_callS C (by decide +kernel) rfl w_3_182 w_3_183 w_1_9 w_3_184 (by decide +kernel) ?_
  refine s_lsw (df := 61) (ps := #[(1, 28), (2, 43)]) (len := 28) C (by decide +kernel) (by decide) 105 (by decide) (fun _ _ _ _ _ _ h => h) (fun i r h => ?_) (fun x h => ?_)
  · match i, h with
    | 0, h => cases h; dsimp only; exact ⟨28, 72, by decide, by decide, (fun _ _ _ _ _ _ h => h)⟩
    | 1, h => cases h; dsimp only; exact ⟨43, 87, by decide, by decide, (fun _ _ _ _ _ _ h => h)⟩
    | q + 2, h => simp at h
  · refine lsw_out _ _ x (fun a ha => ?_)
    simp at ha h
    rcases ha with ⟨rfl, _⟩ | ⟨rfl, _⟩
    · exact fun z => h.1 (Int32.toInt_inj.mp (by rw [z]; rfl))
    · exact fun z => h.2 (Int32.toInt_inj.mp (by rw [z]; rfl))
set_option maxRecDepth 20000 in
theorem b_X10_agreeUpTo_72 {Z : Zt} {d : Nat} {p : Program} {e : Env} {R : Room} {s : State} {m : MethodId} {args : Array Value} {below : List Frame} {meth : Method} {c : Code} {Rp : RT} (C : Cx Z d jX10_agreeUpTo RX10 p R s m args meth c) : Sd Z jX10_agreeUpTo p e R s m args below meth c (MQ below (QcS Z Rp) args s 0 0 (fun a => Z.2.2.1 < a)) 72 (w_X10_agreeUpTo_72 (MS Z d) (Gw Z 7 p e R s m args below meth c (MQ below (QcS Z Rp) args s 0 0 (fun a => Z.2.2.1 < a))) Rp) := by
  unfold w_X10_agreeUpTo_72
  refine s_aload_n (k := 1) C (by decide +kernel) ?_
  refine s_getR C w_2_25 (by decide +kernel) rfl ?_
  refine s_iload (k := 6) C (by decide +kernel) ?_
  refine s_iload (k := 5) C (by decide +kernel) ?_
  refine s_callS C (by decide +kernel) rfl w_3_185 w_2_106 w_1_9 w_2_107 (by decide +kernel) ?_
  refine s_iast C (by decide +kernel) ?_
  exact s_goto (off := 21) (tgt := 105) C (by decide +kernel) (by decide) (fun _ _ _ _ _ _ h => h)
set_option maxRecDepth 20000 in
theorem b_X10_agreeUpTo_87 {Z : Zt} {d : Nat} {p : Program} {e : Env} {R : Room} {s : State} {m : MethodId} {args : Array Value} {below : List Frame} {meth : Method} {c : Code} {Rp : RT} (C : Cx Z d jX10_agreeUpTo RX10 p R s m args meth c) : Sd Z jX10_agreeUpTo p e R s m args below meth c (MQ below (QcS Z Rp) args s 0 0 (fun a => Z.2.2.1 < a)) 87 (w_X10_agreeUpTo_87 (MS Z d) (Gw Z 7 p e R s m args below meth c (MQ below (QcS Z Rp) args s 0 0 (fun a => Z.2.2.1 < a))) Rp) := by
  unfold w_X10_agreeUpTo_87
  refine s_aload_n (k := 1) C (by decide +kernel) ?_
  refine s_getR C w_2_25 (by decide +kernel) rfl ?_
  refine s_iload (k := 6) C (by decide +kernel) ?_
  refine s_dup2 C (by decide +kernel) ?_
  refine s_iald C (by decide +kernel) ?_
  refine s_iload (k := 5) C (by decide +kernel) ?_
  refine s_callS C (by decide +kernel) rfl w_3_185 w_2_106 w_1_9 w_2_107 (by decide +kernel) ?_
  refine s_iadd C (by decide +kernel) ?_
  refine s_iast C (by decide +kernel) ?_
  exact s_goto (off := 3) (tgt := 105) C (by decide +kernel) (by decide) (fun _ _ _ _ _ _ h => h)
set_option maxRecDepth 20000 in
theorem b_X10_agreeUpTo_105 {Z : Zt} {d : Nat} {p : Program} {e : Env} {R : Room} {s : State} {m : MethodId} {args : Array Value} {below : List Frame} {meth : Method} {c : Code} {Rp : RT} (C : Cx Z d jX10_agreeUpTo RX10 p R s m args meth c) : Sd Z jX10_agreeUpTo p e R s m args below meth c (MQ below (QcS Z Rp) args s 0 0 (fun a => Z.2.2.1 < a)) 105 (w_X10_agreeUpTo_105 (MS Z d) (Gw Z 7 p e R s m args below meth c (MQ below (QcS Z Rp) args s 0 0 (fun a => Z.2.2.1 < a))) Rp) := by
  unfold w_X10_agreeUpTo_105
  refine s_aload_n (k := 0) C (by decide +kernel) ?_
  refine s_getR C w_2_121 (by decide +kernel) rfl ?_
  refine s_iload (k := 4) C (by decide +kernel) ?_
  refine s_iald C (by decide +kernel) ?_
  refine s_if_ne (off := 12) (tgt := 124) C (by decide +kernel) (by decide) (fun _ _ _ _ _ _ h => h) ?_
  refine s_aload_n (k := 0) C (by decide +kernel) ?_
  refine s_getR C w_2_121 (by decide +kernel) rfl ?_
  refine s_iload (k := 4) C (by decide +kernel) ?_
  refine s_iload (k := 5) C (by decide +kernel) ?_
  refine s_iast C (by decide +kernel) ?_
  exact (fun _ _ _ _ _ _ h => h)
set_option maxRecDepth 20000 in
theorem b_X10_agreeUpTo_124 {Z : Zt} {d : Nat} {p : Program} {e : Env} {R : Room} {s : State} {m : MethodId} {args : Array Value} {below : List Frame} {meth : Method} {c : Code} {Rp : RT} (C : Cx Z d jX10_agreeUpTo RX10 p R s m args meth c) : Sd Z jX10_agreeUpTo p e R s m args below meth c (MQ below (QcS Z Rp) args s 0 0 (fun a => Z.2.2.1 < a)) 124 (w_X10_agreeUpTo_124 (MS Z d) (Gw Z 7 p e R s m args below meth c (MQ below (QcS Z Rp) args s 0 0 (fun a => Z.2.2.1 < a))) Rp) := by
  unfold w_X10_agreeUpTo_124
  refine s_iinc (n := 1) C (by decide +kernel) (by decide) ?_
  exact s_goto (off := (-110)) (tgt := 17) C (by decide +kernel) (by decide) (fun _ _ _ _ _ _ h => h)
set_option maxRecDepth 20000 in
theorem b_X10_agreeUpTo_130 {Z : Zt} {d : Nat} {p : Program} {e : Env} {R : Room} {s : State} {m : MethodId} {args : Array Value} {below : List Frame} {meth : Method} {c : Code} {Rp : RT} (C : Cx Z d jX10_agreeUpTo RX10 p R s m args meth c) : Sd Z jX10_agreeUpTo p e R s m args below meth c (MQ below (QcS Z Rp) args s 0 0 (fun a => Z.2.2.1 < a)) 130 (w_X10_agreeUpTo_130 (MS Z d) (Gw Z 7 p e R s m args below meth c (MQ below (QcS Z Rp) args s 0 0 (fun a => Z.2.2.1 < a))) Rp) := by
  unfold w_X10_agreeUpTo_130
  refine s_aload_n (k := 1) C (by decide +kernel) ?_
  refine s_aload_n (k := 1) C (by decide +kernel) ?_
  refine s_getI C w_2_9 (by decide +kernel) rfl ?_
  refine s_iload_n (k := 3) C (by decide +kernel) ?_
  refine s_max C w_3_167 w_3_168 w_1_16 w_max (by decide +kernel) ?_
  refine s_putI C w_2_9 (by decide +kernel) rfl (Or.inl rfl) ?_
  exact s_vret C rfl (by decide +kernel)
theorem ms_X10_agreeUpTo {Z : Zt} {d : Nat} {S : Sh} {μ : Mi} {ρ : Mr} {Rp : RT} (a0 : Nat) (a1 : Nat) (x2 : Int32) (h : ∀ G : Nat → PT, (∀ (L st : List Value) (S : Sh) (q : Nat × Nat) (μ : Mi) (ρ : Mr), w_X10_agreeUpTo_17 (MS Z d) G Rp L st S q μ ρ → G 17 L st S q μ ρ) → (∀ (L st : List Value) (S : Sh) (q : Nat × Nat) (μ : Mi) (ρ : Mr), w_X10_agreeUpTo_72 (MS Z d) G Rp L st S q μ ρ → G 72 L st S q μ ρ) → (∀ (L st : List Value) (S : Sh) (q : Nat × Nat) (μ : Mi) (ρ : Mr), w_X10_agreeUpTo_87 (MS Z d) G Rp L st S q μ ρ → G 87 L st S q μ ρ) → (∀ (L st : List Value) (S : Sh) (q : Nat × Nat) (μ : Mi) (ρ : Mr), w_X10_agreeUpTo_105 (MS Z d) G Rp L st S q μ ρ → G 105 L st S q μ ρ) → (∀ (L st : List Value) (S : Sh) (q : Nat × Nat) (μ : Mi) (ρ : Mr), w_X10_agreeUpTo_124 (MS Z d) G Rp L st S q μ ρ → G 124 L st S q μ ρ) → (∀ (L st : List Value) (S : Sh) (q : Nat × Nat) (μ : Mi) (ρ : Mr), w_X10_agreeUpTo_130 (MS Z d) G Rp L st S q μ ρ → G 130 L st S q μ ρ) → w_X10_agreeUpTo_0 (MS Z d) G Rp [.ref a0, .ref a1, .int x2, .null, .null, .null, .null] [] S (0, 0) μ ρ) : MS Z (d + 1) jX10_agreeUpTo [.ref a0, .ref a1, .int x2] S μ ρ Rp :=
  MS_of [.ref a0, .ref a1, .int x2, .null, .null, .null, .null] (by decide +kernel) rfl rfl (Nat.le_of_ble_eq_true rfl) rfl (fun p e R s m args below meth c C => b_X10_agreeUpTo_0 C _ _ _ _ _ _ (h _ (b_X10_agreeUpTo_17 C) (b_X10_agreeUpTo_72 C) (b_X10_agreeUpTo_87 C) (b_X10_agreeUpTo_105 C) (b_X10_agreeUpTo_124 C) (b_X10_agreeUpTo_130 C)))
