def w_X7_init_0 (M : CT) (G : Nat → PT) (Rp : RT) : PT := tAload 0 <| tObjI <| tAload 0 <| tConst 121 <| tNewa 20 7 148 <| tPutR 7 18 12 <| tAload 0 <| tConst 4 <| tNewa 20 7 148 <| tPutR 7 18 13 <| tAload 0 <| tConst 5 <| tNewa 20 7 148 <| tPutR 7 18 14 <| tAload 0 <| tConst 5 <| tNewa 20 7 148 <| tPutR 7 18 15 <| tAload 0 <| tNew 6 5 7 148 <| tDup <| tCallI M jX6_init 0 7 148 <| tPutR 7 18 16 <| tAload 0 <| tNew 5 4 7 148 <| tDup <| tCallI M jX5_init 0 7 148 <| tPutR 7 18 17 <| tAload 0 <| tIload 1 <| tPutI 7 18 0 <| tVret Rp
set_option maxRecDepth 20000 in
theorem b_X7_init_0 {Z : Zt} {d : Nat} {p : Program} {e : Env} {R : Room} {s : State} {m : MethodId} {args : Array Value} {below : List Frame} {meth : Method} {c : Code} {Rp : RT} (C : Cx Z d jX7_init RX7 p R s m args meth c) : Sd Z jX7_init p e R s m args below meth c (MQ below (QcS Z Rp) args s 7 148 (fun a => Z.2.2.1 < a)) 0 (w_X7_init_0 (MS Z d) (Gw Z 2 p e R s m args below meth c (MQ below (QcS Z Rp) args s 7 148 (fun a => Z.2.2.1 < a))) Rp) := by
  unfold w_X7_init_0
  refine s_aload_n (k := 0) C (by decide +kernel) ?_
  refine s_objI C w_1_153 w_1_28 w_1_29 (by decide +kernel) ?_
  refine s_aload_n (k := 0) C (by decide +kernel) ?_
  refine s_bipush (n := 121) C (by decide +kernel) (by decide) ?_
  refine s_newa (aty := .int) C rfl w_1_117 (fun _ _ h => h) (by decide +kernel) ?_
  refine s_putR C w_2_20 (by decide +kernel) rfl (Or.inr ⟨rfl, rfl, rfl⟩) ?_
  refine s_aload_n (k := 0) C (by decide +kernel) ?_
  refine s_iconst (n := 4) C (by decide +kernel) (by decide) ?_
  refine s_newa (aty := .int) C rfl w_1_117 (fun _ _ h => h) (by decide +kernel) ?_
  refine s_putR C w_2_23 (by decide +kernel) rfl (Or.inr ⟨rfl, rfl, rfl⟩) ?_
  refine s_aload_n (k := 0) C (by decide +kernel) ?_
  refine s_iconst (n := 5) C (by decide +kernel) (by decide) ?_
  refine s_newa (aty := .int) C rfl w_1_117 (fun _ _ h => h) (by decide +kernel) ?_
  refine s_putR C w_2_26 (by decide +kernel) rfl (Or.inr ⟨rfl, rfl, rfl⟩) ?_
  refine s_aload_n (k := 0) C (by decide +kernel) ?_
  refine s_iconst (n := 5) C (by decide +kernel) (by decide) ?_
  refine s_newa (aty := .int) C rfl w_1_117 (fun _ _ h => h) (by decide +kernel) ?_
  refine s_putR C w_2_29 (by decide +kernel) rfl (Or.inr ⟨rfl, rfl, rfl⟩) ?_
  refine s_aload_n (k := 0) C (by decide +kernel) ?_
  refine s_new C rfl w_1_154 w_1_155 w_1_6 (by decide +kernel) ?_
  refine s_dup C (by decide +kernel) ?_
  refine s_callIN C (by decide +kernel) ⟨rfl, rfl⟩ w_1_156 w_1_157 w_1_6 w_1_158 (by decide +kernel) ?_
  refine s_putR C w_2_32 (by decide +kernel) rfl (Or.inr ⟨rfl, rfl, rfl⟩) ?_
  refine s_aload_n (k := 0) C (by decide +kernel) ?_
  refine s_new C rfl w_1_188 w_1_189 w_1_7 (by decide +kernel) ?_
  refine s_dup C (by decide +kernel) ?_
  refine s_callIN C (by decide +kernel) ⟨rfl, rfl⟩ w_1_190 w_1_191 w_1_7 w_1_192 (by decide +kernel) ?_
  refine s_putR C w_2_35 (by decide +kernel) rfl (Or.inr ⟨rfl, rfl, rfl⟩) ?_
  refine s_aload_n (k := 0) C (by decide +kernel) ?_
  refine s_iload_n (k := 1) C (by decide +kernel) ?_
  refine s_putI C w_1_219 (by decide +kernel) rfl (Or.inr ⟨rfl, rfl, rfl⟩) ?_
  exact s_vret C rfl (by decide +kernel)
theorem ms_X7_init {Z : Zt} {d : Nat} {S : Sh} {μ : Mi} {ρ : Mr} {Rp : RT} (a0 : Nat) (x1 : Int32) (h : ∀ G : Nat → PT, w_X7_init_0 (MS Z d) G Rp [.ref a0, .int x1] [] S (0, 0) μ ρ) : MS Z (d + 1) jX7_init [.ref a0, .int x1] S μ ρ Rp :=
  MS_of [.ref a0, .int x1] (by decide +kernel) rfl rfl (Nat.le_of_ble_eq_true rfl) rfl (fun p e R s m args below meth c C => b_X7_init_0 C _ _ _ _ _ _ (h _ ))
def w_X7_renew_0 (M : CT) (G : Nat → PT) (Rp : RT) : PT := tAload 0 <| tConst 1 <| tPutZ 7 18 1 <| tAload 0 <| tConst 0 <| tPutI 7 18 2 <| tAload 0 <| tConst (-1) <| tPutI 7 18 3 <| tAload 0 <| tConst 0 <| tPutI 7 18 4 <| tAload 0 <| tConst 0 <| tPutI 7 18 5 <| tAload 0 <| tConst 0 <| tPutI 7 18 6 <| tAload 0 <| tConst 0 <| tPutI 7 18 7 <| tAload 0 <| tConst 0 <| tPutI 7 18 8 <| tAload 0 <| tGetR 7 18 16 <| tIload 1 <| tCallV M jX6_renew 6 5 1 <| tAload 0 <| tGetR 7 18 17 <| tCallV M jX5_clear 5 4 0 <| tAload 0 <| tGetR 7 18 13 <| tConst 0 <| tCallS M jJ7_fill_53178 2 <| tAload 0 <| tCallV M jX7_findMembers 7 18 0 <| tVret Rp
set_option maxRecDepth 20000 in
theorem b_X7_renew_0 {Z : Zt} {d : Nat} {p : Program} {e : Env} {R : Room} {s : State} {m : MethodId} {args : Array Value} {below : List Frame} {meth : Method} {c : Code} {Rp : RT} (C : Cx Z d jX7_renew RX7 p R s m args meth c) : Sd Z jX7_renew p e R s m args below meth c (MQ below (QcS Z Rp) args s 0 0 (fun a => Z.2.2.1 < a)) 0 (w_X7_renew_0 (MS Z d) (Gw Z 2 p e R s m args below meth c (MQ below (QcS Z Rp) args s 0 0 (fun a => Z.2.2.1 < a))) Rp) := by
  unfold w_X7_renew_0
  refine s_aload_n (k := 0) C (by decide +kernel) ?_
  refine s_iconst (n := 1) C (by decide +kernel) (by decide) ?_
  refine s_putZ C w_1_222 (by decide +kernel) rfl (Or.inl rfl) ?_
  refine s_aload_n (k := 0) C (by decide +kernel) ?_
  refine s_iconst (n := 0) C (by decide +kernel) (by decide) ?_
  refine s_putI C w_1_225 (by decide +kernel) rfl (Or.inl rfl) ?_
  refine s_aload_n (k := 0) C (by decide +kernel) ?_
  refine s_iconst (n := (-1)) C (by decide +kernel) (by decide) ?_
  refine s_putI C w_1_228 (by decide +kernel) rfl (Or.inl rfl) ?_
  refine s_aload_n (k := 0) C (by decide +kernel) ?_
  refine s_iconst (n := 0) C (by decide +kernel) (by decide) ?_
  refine s_putI C w_1_231 (by decide +kernel) rfl (Or.inl rfl) ?_
  refine s_aload_n (k := 0) C (by decide +kernel) ?_
  refine s_iconst (n := 0) C (by decide +kernel) (by decide) ?_
  refine s_putI C w_1_236 (by decide +kernel) rfl (Or.inl rfl) ?_
  refine s_aload_n (k := 0) C (by decide +kernel) ?_
  refine s_iconst (n := 0) C (by decide +kernel) (by decide) ?_
  refine s_putI C w_1_239 (by decide +kernel) rfl (Or.inl rfl) ?_
  refine s_aload_n (k := 0) C (by decide +kernel) ?_
  refine s_iconst (n := 0) C (by decide +kernel) (by decide) ?_
  refine s_putI C w_2_2 (by decide +kernel) rfl (Or.inl rfl) ?_
  refine s_aload_n (k := 0) C (by decide +kernel) ?_
  refine s_iconst (n := 0) C (by decide +kernel) (by decide) ?_
  refine s_putI C w_2_6 (by decide +kernel) rfl (Or.inl rfl) ?_
  refine s_aload_n (k := 0) C (by decide +kernel) ?_
  refine s_getR C w_2_32 (by decide +kernel) rfl ?_
  refine s_iload_n (k := 1) C (by decide +kernel) ?_
  refine s_callV C rfl rfl (by decide +kernel) rfl w_2_83 w_2_84 w_2_85 w_1_6 w_2_86 (by decide +kernel) ?_
  refine s_aload_n (k := 0) C (by decide +kernel) ?_
  refine s_getR C w_2_35 (by decide +kernel) rfl ?_
  refine s_callV C rfl rfl (by decide +kernel) rfl w_2_90 w_2_91 w_2_92 w_1_7 w_2_93 (by decide +kernel) ?_
  refine s_aload_n (k := 0) C (by decide +kernel) ?_
  refine s_getR C w_2_23 (by decide +kernel) rfl ?_
  refine s_iconst (n := 0) C (by decide +kernel) (by decide) ?_
  refine s_callS C (by decide +kernel) rfl w_2_94 w_2_88 w_1_8 w_2_89 (by decide +kernel) ?_
  refine s_aload_n (k := 0) C (by decide +kernel) ?_
  refine s_callV C rfl rfl (by decide +kernel) rfl w_2_95 w_2_96 w_2_97 w_1_5 w_2_98 (by decide +kernel) ?_
  exact s_vret C rfl (by decide +kernel)
theorem ms_X7_renew {Z : Zt} {d : Nat} {S : Sh} {μ : Mi} {ρ : Mr} {Rp : RT} (a0 : Nat) (x1 : Int32) (h : ∀ G : Nat → PT, w_X7_renew_0 (MS Z d) G Rp [.ref a0, .int x1] [] S (0, 0) μ ρ) : MS Z (d + 1) jX7_renew [.ref a0, .int x1] S μ ρ Rp :=
  MS_of [.ref a0, .int x1] (by decide +kernel) rfl rfl (Nat.le_of_ble_eq_true rfl) rfl (fun p e R s m args below meth c C => b_X7_renew_0 C _ _ _ _ _ _ (h _ ))
def w_X7_copyFrom_0 (M : CT) (G : Nat → PT) (Rp : RT) : PT := tAload 0 <| tAload 1 <| tGetI 7 18 1 <| tPutZ 7 18 1 <| tAload 0 <| tAload 1 <| tGetI 7 18 2 <| tPutI 7 18 2 <| tAload 0 <| tAload 1 <| tGetI 7 18 3 <| tPutI 7 18 3 <| tAload 0 <| tAload 1 <| tGetI 7 18 4 <| tPutI 7 18 4 <| tAload 0 <| tAload 1 <| tGetI 7 18 5 <| tPutI 7 18 5 <| tAload 0 <| tAload 1 <| tGetI 7 18 6 <| tPutI 7 18 6 <| tAload 0 <| tAload 1 <| tGetI 7 18 7 <| tPutI 7 18 7 <| tAload 0 <| tAload 1 <| tGetI 7 18 8 <| tPutI 7 18 8 <| tAload 0 <| tAload 1 <| tGetI 7 18 9 <| tPutI 7 18 9 <| tAload 0 <| tAload 1 <| tGetI 7 18 10 <| tPutI 7 18 10 <| tAload 0 <| tAload 1 <| tGetI 7 18 11 <| tPutI 7 18 11 <| tAload 1 <| tGetR 7 18 12 <| tConst 0 <| tAload 0 <| tGetR 7 18 12 <| tConst 0 <| tAload 0 <| tGetR 7 18 12 <| tAlen <| tCopy <| tAload 1 <| tGetR 7 18 13 <| tConst 0 <| tAload 0 <| tGetR 7 18 13 <| tConst 0 <| tConst 4 <| tCopy <| tAload 1 <| tGetR 7 18 14 <| tConst 0 <| tAload 0 <| tGetR 7 18 14 <| tConst 0 <| tConst 5 <| tCopy <| tAload 1 <| tGetR 7 18 15 <| tConst 0 <| tAload 0 <| tGetR 7 18 15 <| tConst 0 <| tConst 5 <| tCopy <| tAload 0 <| tGetR 7 18 16 <| tAload 1 <| tGetR 7 18 16 <| tCallV M jX6_copyFrom 6 5 1 <| tAload 0 <| tGetR 7 18 17 <| tAload 1 <| tGetR 7 18 17 <| tCallV M jX5_copyFrom 5 4 1 <| tVret Rp
set_option maxRecDepth 20000 in
theorem b_X7_copyFrom_0 {Z : Zt} {d : Nat} {p : Program} {e : Env} {R : Room} {s : State} {m : MethodId} {args : Array Value} {below : List Frame} {meth : Method} {c : Code} {Rp : RT} (C : Cx Z d jX7_copyFrom RX7 p R s m args meth c) : Sd Z jX7_copyFrom p e R s m args below meth c (MQ below (QcS Z Rp) args s 0 0 (fun a => Z.2.2.1 < a)) 0 (w_X7_copyFrom_0 (MS Z d) (Gw Z 2 p e R s m args below meth c (MQ below (QcS Z Rp) args s 0 0 (fun a => Z.2.2.1 < a))) Rp) := by
  unfold w_X7_copyFrom_0
  refine s_aload_n (k := 0) C (by decide +kernel) ?_
  refine s_aload_n (k := 1) C (by decide +kernel) ?_
  refine s_getI C w_1_222 (by decide +kernel) rfl ?_
  refine s_putZ C w_1_222 (by decide +kernel) rfl (Or.inl rfl) ?_
  refine s_aload_n (k := 0) C (by decide +kernel) ?_
  refine s_aload_n (k := 1) C (by decide +kernel) ?_
  refine s_getI C w_1_225 (by decide +kernel) rfl ?_
  refine s_putI C w_1_225 (by decide +kernel) rfl (Or.inl rfl) ?_
  refine s_aload_n (k := 0) C (by decide +kernel) ?_
  refine s_aload_n (k := 1) C (by decide +kernel) ?_
  refine s_getI C w_1_228 (by decide +kernel) rfl ?_
  refine s_putI C w_1_228 (by decide +kernel) rfl (Or.inl rfl) ?_
  refine s_aload_n (k := 0) C (by decide +kernel) ?_
  refine s_aload_n (k := 1) C (by decide +kernel) ?_
  refine s_getI C w_1_231 (by decide +kernel) rfl ?_
  refine s_putI C w_1_231 (by decide +kernel) rfl (Or.inl rfl) ?_
  refine s_aload_n (k := 0) C (by decide +kernel) ?_
  refine s_aload_n (k := 1) C (by decide +kernel) ?_
  refine s_getI C w_1_236 (by decide +kernel) rfl ?_
  refine s_putI C w_1_236 (by decide +kernel) rfl (Or.inl rfl) ?_
  refine s_aload_n (k := 0) C (by decide +kernel) ?_
  refine s_aload_n (k := 1) C (by decide +kernel) ?_
  refine s_getI C w_1_239 (by decide +kernel) rfl ?_
  refine s_putI C w_1_239 (by decide +kernel) rfl (Or.inl rfl) ?_
  refine s_aload_n (k := 0) C (by decide +kernel) ?_
  refine s_aload_n (k := 1) C (by decide +kernel) ?_
  refine s_getI C w_2_2 (by decide +kernel) rfl ?_
  refine s_putI C w_2_2 (by decide +kernel) rfl (Or.inl rfl) ?_
  refine s_aload_n (k := 0) C (by decide +kernel) ?_
  refine s_aload_n (k := 1) C (by decide +kernel) ?_
  refine s_getI C w_2_6 (by decide +kernel) rfl ?_
  refine s_putI C w_2_6 (by decide +kernel) rfl (Or.inl rfl) ?_
  refine s_aload_n (k := 0) C (by decide +kernel) ?_
  refine s_aload_n (k := 1) C (by decide +kernel) ?_
  refine s_getI C w_2_10 (by decide +kernel) rfl ?_
  refine s_putI C w_2_10 (by decide +kernel) rfl (Or.inl rfl) ?_
  refine s_aload_n (k := 0) C (by decide +kernel) ?_
  refine s_aload_n (k := 1) C (by decide +kernel) ?_
  refine s_getI C w_2_13 (by decide +kernel) rfl ?_
  refine s_putI C w_2_13 (by decide +kernel) rfl (Or.inl rfl) ?_
  refine s_aload_n (k := 0) C (by decide +kernel) ?_
  refine s_aload_n (k := 1) C (by decide +kernel) ?_
  refine s_getI C w_2_17 (by decide +kernel) rfl ?_
  refine s_putI C w_2_17 (by decide +kernel) rfl (Or.inl rfl) ?_
  refine s_aload_n (k := 1) C (by decide +kernel) ?_
  refine s_getR C w_2_20 (by decide +kernel) rfl ?_
  refine s_iconst (n := 0) C (by decide +kernel) (by decide) ?_
  refine s_aload_n (k := 0) C (by decide +kernel) ?_
  refine s_getR C w_2_20 (by decide +kernel) rfl ?_
  refine s_iconst (n := 0) C (by decide +kernel) (by decide) ?_
  refine s_aload_n (k := 0) C (by decide +kernel) ?_
  refine s_getR C w_2_20 (by decide +kernel) rfl ?_
  refine s_alen C (by decide +kernel) ?_
  refine s_copy C w_3_44 w_3_46 w_3_45 w_1_14 (by decide +kernel) ?_
  refine s_aload_n (k := 1) C (by decide +kernel) ?_
  refine s_getR C w_2_23 (by decide +kernel) rfl ?_
  refine s_iconst (n := 0) C (by decide +kernel) (by decide) ?_
  refine s_aload_n (k := 0) C (by decide +kernel) ?_
  refine s_getR C w_2_23 (by decide +kernel) rfl ?_
  refine s_iconst (n := 0) C (by decide +kernel) (by decide) ?_
  refine s_iconst (n := 4) C (by decide +kernel) (by decide) ?_
  refine s_copy C w_3_44 w_3_46 w_3_45 w_1_14 (by decide +kernel) ?_
  refine s_aload_n (k := 1) C (by decide +kernel) ?_
  refine s_getR C w_2_26 (by decide +kernel) rfl ?_
  refine s_iconst (n := 0) C (by decide +kernel) (by decide) ?_
  refine s_aload_n (k := 0) C (by decide +kernel) ?_
  refine s_getR C w_2_26 (by decide +kernel) rfl ?_
  refine s_iconst (n := 0) C (by decide +kernel) (by decide) ?_
  refine s_iconst (n := 5) C (by decide +kernel) (by decide) ?_
  refine s_copy C w_3_44 w_3_46 w_3_45 w_1_14 (by decide +kernel) ?_
  refine s_aload_n (k := 1) C (by decide +kernel) ?_
  refine s_getR C w_2_29 (by decide +kernel) rfl ?_
  refine s_iconst (n := 0) C (by decide +kernel) (by decide) ?_
  refine s_aload_n (k := 0) C (by decide +kernel) ?_
  refine s_getR C w_2_29 (by decide +kernel) rfl ?_
  refine s_iconst (n := 0) C (by decide +kernel) (by decide) ?_
  refine s_iconst (n := 5) C (by decide +kernel) (by decide) ?_
  refine s_copy C w_3_44 w_3_46 w_3_45 w_1_14 (by decide +kernel) ?_
  refine s_aload_n (k := 0) C (by decide +kernel) ?_
  refine s_getR C w_2_32 (by decide +kernel) rfl ?_
  refine s_aload_n (k := 1) C (by decide +kernel) ?_
  refine s_getR C w_2_32 (by decide +kernel) rfl ?_
  refine s_callV C rfl rfl (by decide +kernel) rfl w_3_47 w_3_48 w_3_49 w_1_6 w_3_50 (by decide +kernel) ?_
  refine s_aload_n (k := 0) C (by decide +kernel) ?_
  refine s_getR C w_2_35 (by decide +kernel) rfl ?_
  refine s_aload_n (k := 1) C (by decide +kernel) ?_
  refine s_getR C w_2_35 (by decide +kernel) rfl ?_
  refine s_callV C rfl rfl (by decide +kernel) rfl w_3_52 w_3_53 w_3_54 w_1_7 w_3_55 (by decide +kernel) ?_
  exact s_vret C rfl (by decide +kernel)
theorem ms_X7_copyFrom {Z : Zt} {d : Nat} {S : Sh} {μ : Mi} {ρ : Mr} {Rp : RT} (a0 : Nat) (a1 : Nat) (h : ∀ G : Nat → PT, w_X7_copyFrom_0 (MS Z d) G Rp [.ref a0, .ref a1] [] S (0, 0) μ ρ) : MS Z (d + 1) jX7_copyFrom [.ref a0, .ref a1] S μ ρ Rp :=
  MS_of [.ref a0, .ref a1] (by decide +kernel) rfl rfl (Nat.le_of_ble_eq_true rfl) rfl (fun p e R s m args below meth c C => b_X7_copyFrom_0 C _ _ _ _ _ _ (h _ ))
def w_X7_holds_0 (M : CT) (G : Nat → PT) (Rp : RT) : PT := tIload 1 <| tAload 0 <| tGetR 7 18 16 <| tGetI 6 5 0 <| tIf2 (fun x y => x ≤ y) (G 23) <| tIload 1 <| tAload 0 <| tGetI 7 18 7 <| tIf2 (fun x y => y < x) (G 23) <| tConst 1 <| tGoto (G 24)
def w_X7_holds_23 (M : CT) (G : Nat → PT) (Rp : RT) : PT := tConst 0 <| G 24
def w_X7_holds_24 (M : CT) (G : Nat → PT) (Rp : RT) : PT := tZret Rp
set_option maxRecDepth 20000 in
theorem b_X7_holds_0 {Z : Zt} {d : Nat} {p : Program} {e : Env} {R : Room} {s : State} {m : MethodId} {args : Array Value} {below : List Frame} {meth : Method} {c : Code} {Rp : RT} (C : Cx Z d jX7_holds RX7 p R s m args meth c) : Sd Z jX7_holds p e R s m args below meth c (MQ below (QcS Z Rp) args s 0 0 (fun a => Z.2.2.1 < a)) 0 (w_X7_holds_0 (MS Z d) (Gw Z 2 p e R s m args below meth c (MQ below (QcS Z Rp) args s 0 0 (fun a => Z.2.2.1 < a))) Rp) := by
  unfold w_X7_holds_0
  refine s_iload_n (k := 1) C (by decide +kernel) ?_
  refine s_aload_n (k := 0) C (by decide +kernel) ?_
  refine s_getR C w_2_32 (by decide +kernel) rfl ?_
  refine s_getI C w_1_162 (by decide +kernel) rfl ?_
  refine s_icmp_le (off := 15) (tgt := 23) C (by decide +kernel) (by decide) (fun _ _ _ _ _ _ h => h) ?_
  refine s_iload_n (k := 1) C (by decide +kernel) ?_
  refine s_aload_n (k := 0) C (by decide +kernel) ?_
  refine s_getI C w_2_2 (by decide +kernel) rfl ?_
  refine s_icmp_gt (off := 7) (tgt := 23) C (by decide +kernel) (by decide) (fun _ _ _ _ _ _ h => h) ?_
  refine s_iconst (n := 1) C (by decide +kernel) (by decide) ?_
  exact s_goto (off := 4) (tgt := 24) C (by decide +kernel) (by decide) (fun _ _ _ _ _ _ h => h)
set_option maxRecDepth 20000 in
theorem b_X7_holds_23 {Z : Zt} {d : Nat} {p : Program} {e : Env} {R : Room} {s : State} {m : MethodId} {args : Array Value} {below : List Frame} {meth : Method} {c : Code} {Rp : RT} (C : Cx Z d jX7_holds RX7 p R s m args meth c) : Sd Z jX7_holds p e R s m args below meth c (MQ below (QcS Z Rp) args s 0 0 (fun a => Z.2.2.1 < a)) 23 (w_X7_holds_23 (MS Z d) (Gw Z 2 p e R s m args below meth c (MQ below (QcS Z Rp) args s 0 0 (fun a => Z.2.2.1 < a))) Rp) := by
  unfold w_X7_holds_23
  refine s_iconst (n := 0) C (by decide +kernel) (by decide) ?_
  exact (fun _ _ _ _ _ _ h => h)
set_option maxRecDepth 20000 in
theorem b_X7_holds_24 {Z : Zt} {d : Nat} {p : Program} {e : Env} {R : Room} {s : State} {m : MethodId} {args : Array Value} {below : List Frame} {meth : Method} {c : Code} {Rp : RT} (C : Cx Z d jX7_holds RX7 p R s m args meth c) : Sd Z jX7_holds p e R s m args below meth c (MQ below (QcS Z Rp) args s 0 0 (fun a => Z.2.2.1 < a)) 24 (w_X7_holds_24 (MS Z d) (Gw Z 2 p e R s m args below meth c (MQ below (QcS Z Rp) args s 0 0 (fun a => Z.2.2.1 < a))) Rp) := by
  unfold w_X7_holds_24
  exact s_zret C rfl (by decide +kernel)
theorem ms_X7_holds {Z : Zt} {d : Nat} {S : Sh} {μ : Mi} {ρ : Mr} {Rp : RT} (a0 : Nat) (x1 : Int32) (h : ∀ G : Nat → PT, (∀ (L st : List Value) (S : Sh) (q : Nat × Nat) (μ : Mi) (ρ : Mr), w_X7_holds_23 (MS Z d) G Rp L st S q μ ρ → G 23 L st S q μ ρ) → (∀ (L st : List Value) (S : Sh) (q : Nat × Nat) (μ : Mi) (ρ : Mr), w_X7_holds_24 (MS Z d) G Rp L st S q μ ρ → G 24 L st S q μ ρ) → w_X7_holds_0 (MS Z d) G Rp [.ref a0, .int x1] [] S (0, 0) μ ρ) : MS Z (d + 1) jX7_holds [.ref a0, .int x1] S μ ρ Rp :=
  MS_of [.ref a0, .int x1] (by decide +kernel) rfl rfl (Nat.le_of_ble_eq_true rfl) rfl (fun p e R s m args below meth c C => b_X7_holds_0 C _ _ _ _ _ _ (h _ (b_X7_holds_23 C) (b_X7_holds_24 C)))
def w_X7_termAt_0 (M : CT) (G : Nat → PT) (Rp : RT) : PT := tIload 1 <| tAload 0 <| tGetR 7 18 16 <| tGetI 6 5 0 <| tIf2 (fun x y => x ≠ y) (G 19) <| tAload 0 <| tGetR 7 18 16 <| tGetI 6 5 1 <| tIret Rp
def w_X7_termAt_19 (M : CT) (G : Nat → PT) (Rp : RT) : PT := tIload 1 <| tAload 0 <| tGetR 7 18 16 <| tGetI 6 5 0 <| tIf2 (fun x y => x ≤ y) (G 51) <| tIload 1 <| tAload 0 <| tGetI 7 18 7 <| tIf2 (fun x y => y < x) (G 51) <| tAload 0 <| tGetR 7 18 12 <| tIload 1 <| tAld 20 <| tConst 255 <| tBin (fun x y => x &&& y) <| tGoto (G 52)
def w_X7_termAt_51 (M : CT) (G : Nat → PT) (Rp : RT) : PT := tConst (-1) <| G 52
def w_X7_termAt_52 (M : CT) (G : Nat → PT) (Rp : RT) : PT := tIret Rp
set_option maxRecDepth 20000 in
theorem b_X7_termAt_0 {Z : Zt} {d : Nat} {p : Program} {e : Env} {R : Room} {s : State} {m : MethodId} {args : Array Value} {below : List Frame} {meth : Method} {c : Code} {Rp : RT} (C : Cx Z d jX7_termAt RX7 p R s m args meth c) : Sd Z jX7_termAt p e R s m args below meth c (MQ below (QcS Z Rp) args s 0 0 (fun a => Z.2.2.1 < a)) 0 (w_X7_termAt_0 (MS Z d) (Gw Z 2 p e R s m args below meth c (MQ below (QcS Z Rp) args s 0 0 (fun a => Z.2.2.1 < a))) Rp) := by
  unfold w_X7_termAt_0
  refine s_iload_n (k := 1) C (by decide +kernel) ?_
  refine s_aload_n (k := 0) C (by decide +kernel) ?_
  refine s_getR C w_2_32 (by decide +kernel) rfl ?_
  refine s_getI C w_1_162 (by decide +kernel) rfl ?_
  refine s_icmp_ne (off := 11) (tgt := 19) C (by decide +kernel) (by decide) (fun _ _ _ _ _ _ h => h) ?_
  refine s_aload_n (k := 0) C (by decide +kernel) ?_
  refine s_getR C w_2_32 (by decide +kernel) rfl ?_
  refine s_getI C w_1_166 (by decide +kernel) rfl ?_
  exact s_iret C rfl (by decide +kernel)
set_option maxRecDepth 20000 in
theorem b_X7_termAt_19 {Z : Zt} {d : Nat} {p : Program} {e : Env} {R : Room} {s : State} {m : MethodId} {args : Array Value} {below : List Frame} {meth : Method} {c : Code} {Rp : RT} (C : Cx Z d jX7_termAt RX7 p R s m args meth c) : Sd Z jX7_termAt p e R s m args below meth c (MQ below (QcS Z Rp) args s 0 0 (fun a => Z.2.2.1 < a)) 19 (w_X7_termAt_19 (MS Z d) (Gw Z 2 p e R s m args below meth c (MQ below (QcS Z Rp) args s 0 0 (fun a => Z.2.2.1 < a))) Rp) := by
  unfold w_X7_termAt_19
  refine s_iload_n (k := 1) C (by decide +kernel) ?_
  refine s_aload_n (k := 0) C (by decide +kernel) ?_
  refine s_getR C w_2_32 (by decide +kernel) rfl ?_
  refine s_getI C w_1_162 (by decide +kernel) rfl ?_
  refine s_icmp_le (off := 24) (tgt := 51) C (by decide +kernel) (by decide) (fun _ _ _ _ _ _ h => h) ?_
  refine s_iload_n (k := 1) C (by decide +kernel) ?_
  refine s_aload_n (k := 0) C (by decide +kernel) ?_
  refine s_getI C w_2_2 (by decide +kernel) rfl ?_
  refine s_icmp_gt (off := 16) (tgt := 51) C (by decide +kernel) (by decide) (fun _ _ _ _ _ _ h => h) ?_
  refine s_aload_n (k := 0) C (by decide +kernel) ?_
  refine s_getR C w_2_20 (by decide +kernel) rfl ?_
  refine s_iload_n (k := 1) C (by decide +kernel) ?_
  refine s_iald C (by decide +kernel) ?_
  refine s_sipush (n := 255) C (by decide +kernel) (by decide) ?_
  refine s_iand C (by decide +kernel) ?_
  exact s_goto (off := 4) (tgt := 52) C (by decide +kernel) (by decide) (fun _ _ _ _ _ _ h => h)
set_option maxRecDepth 20000 in
theorem b_X7_termAt_51 {Z : Zt} {d : Nat} {p : Program} {e : Env} {R : Room} {s : State} {m : MethodId} {args : Array Value} {below : List Frame} {meth : Method} {c : Code} {Rp : RT} (C : Cx Z d jX7_termAt RX7 p R s m args meth c) : Sd Z jX7_termAt p e R s m args below meth c (MQ below (QcS Z Rp) args s 0 0 (fun a => Z.2.2.1 < a)) 51 (w_X7_termAt_51 (MS Z d) (Gw Z 2 p e R s m args below meth c (MQ below (QcS Z Rp) args s 0 0 (fun a => Z.2.2.1 < a))) Rp) := by
  unfold w_X7_termAt_51
  refine s_iconst (n := (-1)) C (by decide +kernel) (by decide) ?_
  exact (fun _ _ _ _ _ _ h => h)
set_option maxRecDepth 20000 in
theorem b_X7_termAt_52 {Z : Zt} {d : Nat} {p : Program} {e : Env} {R : Room} {s : State} {m : MethodId} {args : Array Value} {below : List Frame} {meth : Method} {c : Code} {Rp : RT} (C : Cx Z d jX7_termAt RX7 p R s m args meth c) : Sd Z jX7_termAt p e R s m args below meth c (MQ below (QcS Z Rp) args s 0 0 (fun a => Z.2.2.1 < a)) 52 (w_X7_termAt_52 (MS Z d) (Gw Z 2 p e R s m args below meth c (MQ below (QcS Z Rp) args s 0 0 (fun a => Z.2.2.1 < a))) Rp) := by
  unfold w_X7_termAt_52
  exact s_iret C rfl (by decide +kernel)
theorem ms_X7_termAt {Z : Zt} {d : Nat} {S : Sh} {μ : Mi} {ρ : Mr} {Rp : RT} (a0 : Nat) (x1 : Int32) (h : ∀ G : Nat → PT, (∀ (L st : List Value) (S : Sh) (q : Nat × Nat) (μ : Mi) (ρ : Mr), w_X7_termAt_19 (MS Z d) G Rp L st S q μ ρ → G 19 L st S q μ ρ) → (∀ (L st : List Value) (S : Sh) (q : Nat × Nat) (μ : Mi) (ρ : Mr), w_X7_termAt_51 (MS Z d) G Rp L st S q μ ρ → G 51 L st S q μ ρ) → (∀ (L st : List Value) (S : Sh) (q : Nat × Nat) (μ : Mi) (ρ : Mr), w_X7_termAt_52 (MS Z d) G Rp L st S q μ ρ → G 52 L st S q μ ρ) → w_X7_termAt_0 (MS Z d) G Rp [.ref a0, .int x1] [] S (0, 0) μ ρ) : MS Z (d + 1) jX7_termAt [.ref a0, .int x1] S μ ρ Rp :=
  MS_of [.ref a0, .int x1] (by decide +kernel) rfl rfl (Nat.le_of_ble_eq_true rfl) rfl (fun p e R s m args below meth c C => b_X7_termAt_0 C _ _ _ _ _ _ (h _ (b_X7_termAt_19 C) (b_X7_termAt_51 C) (b_X7_termAt_52 C)))
def w_X7_findsFresh_0 (M : CT) (G : Nat → PT) (Rp : RT) : PT := tAload 0 <| tAload 0 <| tGetI 7 18 7 <| tCallV M jX7_termAt 7 18 1 <| tIstore 3 <| tIload 1 <| tIload 3 <| tIf2 (fun x y => y < x) (G 27) <| tIload 1 <| tIload 3 <| tIf2 (fun x y => x ≠ y) (G 31) <| tIload 2 <| tAload 0 <| tGetI 7 18 7 <| tIf2 (fun x y => x < y) (G 31) <| G 27
def w_X7_findsFresh_27 (M : CT) (G : Nat → PT) (Rp : RT) : PT := tConst 1 <| tGoto (G 32)
def w_X7_findsFresh_31 (M : CT) (G : Nat → PT) (Rp : RT) : PT := tConst 0 <| G 32
def w_X7_findsFresh_32 (M : CT) (G : Nat → PT) (Rp : RT) : PT := tZret Rp
set_option maxRecDepth 20000 in
theorem b_X7_findsFresh_0 {Z : Zt} {d : Nat} {p : Program} {e : Env} {R : Room} {s : State} {m : MethodId} {args : Array Value} {below : List Frame} {meth : Method} {c : Code} {Rp : RT} (C : Cx Z d jX7_findsFresh RX7 p R s m args meth c) : Sd Z jX7_findsFresh p e R s m args below meth c (MQ below (QcS Z Rp) args s 0 0 (fun a => Z.2.2.1 < a)) 0 (w_X7_findsFresh_0 (MS Z d) (Gw Z 4 p e R s m args below meth c (MQ below (QcS Z Rp) args s 0 0 (fun a => Z.2.2.1 < a))) Rp) := by
  unfold w_X7_findsFresh_0
  refine s_aload_n (k := 0) C (by decide +kernel) ?_
  refine s_aload_n (k := 0) C (by decide +kernel) ?_
  refine s_getI C w_2_2 (by decide +kernel) rfl ?_
  refine s_callV C rfl rfl (by decide +kernel) rfl w_4_17 w_3_130 w_3_131 w_1_5 w_3_132 (by decide +kernel) ?_
  refine s_istore_n (k := 3) C (by decide +kernel) ?_
  refine s_iload_n (k := 1) C (by decide +kernel) ?_
  refine s_iload_n (k := 3) C (by decide +kernel) ?_
  refine s_icmp_gt (off := 16) (tgt := 27) C (by decide +kernel) (by decide) (fun _ _ _ _ _ _ h => h) ?_
  refine s_iload_n (k := 1) C (by decide +kernel) ?_
  refine s_iload_n (k := 3) C (by decide +kernel) ?_
  refine s_icmp_ne (off := 15) (tgt := 31) C (by decide +kernel) (by decide) (fun _ _ _ _ _ _ h => h) ?_
  refine s_iload_n (k := 2) C (by decide +kernel) ?_
  refine s_aload_n (k := 0) C (by decide +kernel) ?_
  refine s_getI C w_2_2 (by decide +kernel) rfl ?_
  refine s_icmp_lt (off := 7) (tgt := 31) C (by decide +kernel) (by decide) (fun _ _ _ _ _ _ h => h) ?_
  exact (fun _ _ _ _ _ _ h => h)
set_option maxRecDepth 20000 in
theorem b_X7_findsFresh_27 {Z : Zt} {d : Nat} {p : Program} {e : Env} {R : Room} {s : State} {m : MethodId} {args : Array Value} {below : List Frame} {meth : Method} {c : Code} {Rp : RT} (C : Cx Z d jX7_findsFresh RX7 p R s m args meth c) : Sd Z jX7_findsFresh p e R s m args below meth c (MQ below (QcS Z Rp) args s 0 0 (fun a => Z.2.2.1 < a)) 27 (w_X7_findsFresh_27 (MS Z d) (Gw Z 4 p e R s m args below meth c (MQ below (QcS Z Rp) args s 0 0 (fun a => Z.2.2.1 < a))) Rp) := by
  unfold w_X7_findsFresh_27
  refine s_iconst (n := 1) C (by decide +kernel) (by decide) ?_
  exact s_goto (off := 4) (tgt := 32) C (by decide +kernel) (by decide) (fun _ _ _ _ _ _ h => h)
set_option maxRecDepth 20000 in
theorem b_X7_findsFresh_31 {Z : Zt} {d : Nat} {p : Program} {e : Env} {R : Room} {s : State} {m : MethodId} {args : Array Value} {below : List Frame} {meth : Method} {c : Code} {Rp : RT} (C : Cx Z d jX7_findsFresh RX7 p R s m args meth c) : Sd Z jX7_findsFresh p e R s m args below meth c (MQ below (QcS Z Rp) args s 0 0 (fun a => Z.2.2.1 < a)) 31 (w_X7_findsFresh_31 (MS Z d) (Gw Z 4 p e R s m args below meth c (MQ below (QcS Z Rp) args s 0 0 (fun a => Z.2.2.1 < a))) Rp) := by
  unfold w_X7_findsFresh_31
  refine s_iconst (n := 0) C (by decide +kernel) (by decide) ?_
  exact (fun _ _ _ _ _ _ h => h)
set_option maxRecDepth 20000 in
theorem b_X7_findsFresh_32 {Z : Zt} {d : Nat} {p : Program} {e : Env} {R : Room} {s : State} {m : MethodId} {args : Array Value} {below : List Frame} {meth : Method} {c : Code} {Rp : RT} (C : Cx Z d jX7_findsFresh RX7 p R s m args meth c) : Sd Z jX7_findsFresh p e R s m args below meth c (MQ below (QcS Z Rp) args s 0 0 (fun a => Z.2.2.1 < a)) 32 (w_X7_findsFresh_32 (MS Z d) (Gw Z 4 p e R s m args below meth c (MQ below (QcS Z Rp) args s 0 0 (fun a => Z.2.2.1 < a))) Rp) := by
  unfold w_X7_findsFresh_32
  exact s_zret C rfl (by decide +kernel)
theorem ms_X7_findsFresh {Z : Zt} {d : Nat} {S : Sh} {μ : Mi} {ρ : Mr} {Rp : RT} (a0 : Nat) (x1 : Int32) (x2 : Int32) (h : ∀ G : Nat → PT, (∀ (L st : List Value) (S : Sh) (q : Nat × Nat) (μ : Mi) (ρ : Mr), w_X7_findsFresh_27 (MS Z d) G Rp L st S q μ ρ → G 27 L st S q μ ρ) → (∀ (L st : List Value) (S : Sh) (q : Nat × Nat) (μ : Mi) (ρ : Mr), w_X7_findsFresh_31 (MS Z d) G Rp L st S q μ ρ → G 31 L st S q μ ρ) → (∀ (L st : List Value) (S : Sh) (q : Nat × Nat) (μ : Mi) (ρ : Mr), w_X7_findsFresh_32 (MS Z d) G Rp L st S q μ ρ → G 32 L st S q μ ρ) → w_X7_findsFresh_0 (MS Z d) G Rp [.ref a0, .int x1, .int x2, .null] [] S (0, 0) μ ρ) : MS Z (d + 1) jX7_findsFresh [.ref a0, .int x1, .int x2] S μ ρ Rp :=
  MS_of [.ref a0, .int x1, .int x2, .null] (by decide +kernel) rfl rfl (Nat.le_of_ble_eq_true rfl) rfl (fun p e R s m args below meth c C => b_X7_findsFresh_0 C _ _ _ _ _ _ (h _ (b_X7_findsFresh_27 C) (b_X7_findsFresh_31 C) (b_X7_findsFresh_32 C)))
def w_X7_isMember_0 (M : CT) (G : Nat → PT) (Rp : RT) : PT := tAload 0 <| tGetI 7 18 10 <| tAload 0 <| tGetI 7 18 11 <| tBin (fun x y => x ||| y) <| tIload 1 <| tBin (fun x y => x >>> (y &&& 31)) <| tConst 1 <| tBin (fun x y => x &&& y) <| tConst 1 <| tIf2 (fun x y => x ≠ y) (G 21) <| tConst 1 <| tGoto (G 22)
def w_X7_isMember_21 (M : CT) (G : Nat → PT) (Rp : RT) : PT := tConst 0 <| G 22
def w_X7_isMember_22 (M : CT) (G : Nat → PT) (Rp : RT) : PT := tZret Rp
set_option maxRecDepth 20000 in
theorem b_X7_isMember_0 {Z : Zt} {d : Nat} {p : Program} {e : Env} {R : Room} {s : State} {m : MethodId} {args : Array Value} {below : List Frame} {meth : Method} {c : Code} {Rp : RT} (C : Cx Z d jX7_isMember RX7 p R s m args meth c) : Sd Z jX7_isMember p e R s m args below meth c (MQ below (QcS Z Rp) args s 0 0 (fun a => Z.2.2.1 < a)) 0 (w_X7_isMember_0 (MS Z d) (Gw Z 2 p e R s m args below meth c (MQ below (QcS Z Rp) args s 0 0 (fun a => Z.2.2.1 < a))) Rp) := by
  unfold w_X7_isMember_0
  refine s_aload_n (k := 0) C (by decide +kernel) ?_
  refine s_getI C w_2_13 (by decide +kernel) rfl ?_
  refine s_aload_n (k := 0) C (by decide +kernel) ?_
  refine s_getI C w_2_17 (by decide +kernel) rfl ?_
  refine s_ior C (by decide +kernel) ?_
  refine s_iload_n (k := 1) C (by decide +kernel) ?_
  refine s_ishr C (by decide +kernel) ?_
  refine s_iconst (n := 1) C (by decide +kernel) (by decide) ?_
  refine s_iand C (by decide +kernel) ?_
  refine s_iconst (n := 1) C (by decide +kernel) (by decide) ?_
  refine s_icmp_ne (off := 7) (tgt := 21) C (by decide +kernel) (by decide) (fun _ _ _ _ _ _ h => h) ?_
  refine s_iconst (n := 1) C (by decide +kernel) (by decide) ?_
  exact s_goto (off := 4) (tgt := 22) C (by decide +kernel) (by decide) (fun _ _ _ _ _ _ h => h)
set_option maxRecDepth 20000 in
theorem b_X7_isMember_21 {Z : Zt} {d : Nat} {p : Program} {e : Env} {R : Room} {s : State} {m : MethodId} {args : Array Value} {below : List Frame} {meth : Method} {c : Code} {Rp : RT} (C : Cx Z d jX7_isMember RX7 p R s m args meth c) : Sd Z jX7_isMember p e R s m args below meth c (MQ below (QcS Z Rp) args s 0 0 (fun a => Z.2.2.1 < a)) 21 (w_X7_isMember_21 (MS Z d) (Gw Z 2 p e R s m args below meth c (MQ below (QcS Z Rp) args s 0 0 (fun a => Z.2.2.1 < a))) Rp) := by
  unfold w_X7_isMember_21
  refine s_iconst (n := 0) C (by decide +kernel) (by decide) ?_
  exact (fun _ _ _ _ _ _ h => h)
set_option maxRecDepth 20000 in
theorem b_X7_isMember_22 {Z : Zt} {d : Nat} {p : Program} {e : Env} {R : Room} {s : State} {m : MethodId} {args : Array Value} {below : List Frame} {meth : Method} {c : Code} {Rp : RT} (C : Cx Z d jX7_isMember RX7 p R s m args meth c) : Sd Z jX7_isMember p e R s m args below meth c (MQ below (QcS Z Rp) args s 0 0 (fun a => Z.2.2.1 < a)) 22 (w_X7_isMember_22 (MS Z d) (Gw Z 2 p e R s m args below meth c (MQ below (QcS Z Rp) args s 0 0 (fun a => Z.2.2.1 < a))) Rp) := by
  unfold w_X7_isMember_22
  exact s_zret C rfl (by decide +kernel)
theorem ms_X7_isMember {Z : Zt} {d : Nat} {S : Sh} {μ : Mi} {ρ : Mr} {Rp : RT} (a0 : Nat) (x1 : Int32) (h : ∀ G : Nat → PT, (∀ (L st : List Value) (S : Sh) (q : Nat × Nat) (μ : Mi) (ρ : Mr), w_X7_isMember_21 (MS Z d) G Rp L st S q μ ρ → G 21 L st S q μ ρ) → (∀ (L st : List Value) (S : Sh) (q : Nat × Nat) (μ : Mi) (ρ : Mr), w_X7_isMember_22 (MS Z d) G Rp L st S q μ ρ → G 22 L st S q μ ρ) → w_X7_isMember_0 (MS Z d) G Rp [.ref a0, .int x1] [] S (0, 0) μ ρ) : MS Z (d + 1) jX7_isMember [.ref a0, .int x1] S μ ρ Rp :=
  MS_of [.ref a0, .int x1] (by decide +kernel) rfl rfl (Nat.le_of_ble_eq_true rfl) rfl (fun p e R s m args below meth c C => b_X7_isMember_0 C _ _ _ _ _ _ (h _ (b_X7_isMember_21 C) (b_X7_isMember_22 C)))
def w_X7_isMajority_0 (M : CT) (G : Nat → PT) (Rp : RT) : PT := tConst 2 <| tIload 1 <| tAload 0 <| tGetI 7 18 10 <| tBin (fun x y => x &&& y) <| tCallS M jJ6_bitCount_0f7a4 1 <| tBin (fun x y => x * y) <| tAload 0 <| tGetI 7 18 10 <| tCallS M jJ6_bitCount_0f7a4 1 <| tIf2 (fun x y => y < x) (G 23) <| tConst 0 <| tZret Rp
def w_X7_isMajority_23 (M : CT) (G : Nat → PT) (Rp : RT) : PT := tAload 0 <| tGetI 7 18 11 <| tIf (fun x => x = 0) (G 51) <| tConst 2 <| tIload 1 <| tAload 0 <| tGetI 7 18 11 <| tBin (fun x y => x &&& y) <| tCallS M jJ6_bitCount_0f7a4 1 <| tBin (fun x y => x * y) <| tAload 0 <| tGetI 7 18 11 <| tCallS M jJ6_bitCount_0f7a4 1 <| tIf2 (fun x y => x ≤ y) (G 55) <| G 51
def w_X7_isMajority_51 (M : CT) (G : Nat → PT) (Rp : RT) : PT := tConst 1 <| tGoto (G 56)
def w_X7_isMajority_55 (M : CT) (G : Nat → PT) (Rp : RT) : PT := tConst 0 <| G 56
def w_X7_isMajority_56 (M : CT) (G : Nat → PT) (Rp : RT) : PT := tZret Rp
set_option maxRecDepth 20000 in
theorem b_X7_isMajority_0 {Z : Zt} {d : Nat} {p : Program} {e : Env} {R : Room} {s : State} {m : MethodId} {args : Array Value} {below : List Frame} {meth : Method} {c : Code} {Rp : RT} (C : Cx Z d jX7_isMajority RX7 p R s m args meth c) : Sd Z jX7_isMajority p e R s m args below meth c (MQ below (QcS Z Rp) args s 0 0 (fun a => Z.2.2.1 < a)) 0 (w_X7_isMajority_0 (MS Z d) (Gw Z 2 p e R s m args below meth c (MQ below (QcS Z Rp) args s 0 0 (fun a => Z.2.2.1 < a))) Rp) := by
  unfold w_X7_isMajority_0
  refine s_iconst (n := 2) C (by decide +kernel) (by decide) ?_
  refine s_iload_n (k := 1) C (by decide +kernel) ?_
  refine s_aload_n (k := 0) C (by decide +kernel) ?_
  refine s_getI C w_2_13 (by decide +kernel) rfl ?_
  refine s_iand C (by decide +kernel) ?_
  refine s_callS C (by decide +kernel) rfl w_3_137 w_3_74 w_1_15 w_3_75 (by decide +kernel) ?_
  refine s_imul C (by decide +kernel) ?_
  refine s_aload_n (k := 0) C (by decide +kernel) ?_
  refine s_getI C w_2_13 (by decide +kernel) rfl ?_
  refine s_callS C (by decide +kernel) rfl w_3_137 w_3_74 w_1_15 w_3_75 (by decide +kernel) ?_
  refine s_icmp_gt (off := 5) (tgt := 23) C (by decide +kernel) (by decide) (fun _ _ _ _ _ _ h => h) ?_
  refine s_iconst (n := 0) C (by decide +kernel) (by decide) ?_
  exact s_zret C rfl (by decide +kernel)
set_option maxRecDepth 20000 in
theorem b_X7_isMajority_23 {Z : Zt} {d : Nat} {p : Program} {e : Env} {R : Room} {s : State} {m : MethodId} {args : Array Value} {below : List Frame} {meth : Method} {c : Code} {Rp : RT} (C : Cx Z d jX7_isMajority RX7 p R s m args meth c) : Sd Z jX7_isMajority p e R s m args below meth c (MQ below (QcS Z Rp) args s 0 0 (fun a => Z.2.2.1 < a)) 23 (w_X7_isMajority_23 (MS Z d) (Gw Z 2 p e R s m args below meth c (MQ below (QcS Z Rp) args s 0 0 (fun a => Z.2.2.1 < a))) Rp) := by
  unfold w_X7_isMajority_23
  refine s_aload_n (k := 0) C (by decide +kernel) ?_
  refine s_getI C w_2_17 (by decide +kernel) rfl ?_
  refine s_if_eq (off := 24) (tgt := 51) C (by decide +kernel) (by decide) (fun _ _ _ _ _ _ h => h) ?_
  refine s_iconst (n := 2) C (by decide +kernel) (by decide) ?_
  refine s_iload_n (k := 1) C (by decide +kernel) ?_
  refine s_aload_n (k := 0) C (by decide +kernel) ?_
  refine s_getI C w_2_17 (by decide +kernel) rfl ?_
  refine s_iand C (by decide +kernel) ?_
  refine s_callS C (by decide +kernel) rfl w_3_137 w_3_74 w_1_15 w_3_75 (by decide +kernel) ?_
  refine s_imul C (by decide +kernel) ?_
  refine s_aload_n (k := 0) C (by decide +kernel) ?_
  refine s_getI C w_2_17 (by decide +kernel) rfl ?_
  refine s_callS C (by decide +kernel) rfl w_3_137 w_3_74 w_1_15 w_3_75 (by decide +kernel) ?_
  refine s_icmp_le (off := 7) (tgt := 55) C (by decide +kernel) (by decide) (fun _ _ _ _ _ _ h => h) ?_
  exact (fun _ _ _ _ _ _ h => h)
set_option maxRecDepth 20000 in
theorem b_X7_isMajority_51 {Z : Zt} {d : Nat} {p : Program} {e : Env} {R : Room} {s : State} {m : MethodId} {args : Array Value} {below : List Frame} {meth : Method} {c : Code} {Rp : RT} (C : Cx Z d jX7_isMajority RX7 p R s m args meth c) : Sd Z jX7_isMajority p e R s m args below meth c (MQ below (QcS Z Rp) args s 0 0 (fun a => Z.2.2.1 < a)) 51 (w_X7_isMajority_51 (MS Z d) (Gw Z 2 p e R s m args below meth c (MQ below (QcS Z Rp) args s 0 0 (fun a => Z.2.2.1 < a))) Rp) := by
  unfold w_X7_isMajority_51
  refine s_iconst (n := 1) C (by decide +kernel) (by decide) ?_
  exact s_goto (off := 4) (tgt := 56) C (by decide +kernel) (by decide) (fun _ _ _ _ _ _ h => h)
set_option maxRecDepth 20000 in
theorem b_X7_isMajority_55 {Z : Zt} {d : Nat} {p : Program} {e : Env} {R : Room} {s : State} {m : MethodId} {args : Array Value} {below : List Frame} {meth : Method} {c : Code} {Rp : RT} (C : Cx Z d jX7_isMajority RX7 p R s m args meth c) : Sd Z jX7_isMajority p e R s m args below meth c (MQ below (QcS Z Rp) args s 0 0 (fun a => Z.2.2.1 < a)) 55 (w_X7_isMajority_55 (MS Z d) (Gw Z 2 p e R s m args below meth c (MQ below (QcS Z Rp) args s 0 0 (fun a => Z.2.2.1 < a))) Rp) := by
  unfold w_X7_isMajority_55
  refine s_iconst (n := 0) C (by decide +kernel) (by decide) ?_
  exact (fun _ _ _ _ _ _ h => h)
set_option maxRecDepth 20000 in
theorem b_X7_isMajority_56 {Z : Zt} {d : Nat} {p : Program} {e : Env} {R : Room} {s : State} {m : MethodId} {args : Array Value} {below : List Frame} {meth : Method} {c : Code} {Rp : RT} (C : Cx Z d jX7_isMajority RX7 p R s m args meth c) : Sd Z jX7_isMajority p e R s m args below meth c (MQ below (QcS Z Rp) args s 0 0 (fun a => Z.2.2.1 < a)) 56 (w_X7_isMajority_56 (MS Z d) (Gw Z 2 p e R s m args below meth c (MQ below (QcS Z Rp) args s 0 0 (fun a => Z.2.2.1 < a))) Rp) := by
  unfold w_X7_isMajority_56
  exact s_zret C rfl (by decide +kernel)
theorem ms_X7_isMajority {Z : Zt} {d : Nat} {S : Sh} {μ : Mi} {ρ : Mr} {Rp : RT} (a0 : Nat) (x1 : Int32) (h : ∀ G : Nat → PT, (∀ (L st : List Value) (S : Sh) (q : Nat × Nat) (μ : Mi) (ρ : Mr), w_X7_isMajority_23 (MS Z d) G Rp L st S q μ ρ → G 23 L st S q μ ρ) → (∀ (L st : List Value) (S : Sh) (q : Nat × Nat) (μ : Mi) (ρ : Mr), w_X7_isMajority_51 (MS Z d) G Rp L st S q μ ρ → G 51 L st S q μ ρ) → (∀ (L st : List Value) (S : Sh) (q : Nat × Nat) (μ : Mi) (ρ : Mr), w_X7_isMajority_55 (MS Z d) G Rp L st S q μ ρ → G 55 L st S q μ ρ) → (∀ (L st : List Value) (S : Sh) (q : Nat × Nat) (μ : Mi) (ρ : Mr), w_X7_isMajority_56 (MS Z d) G Rp L st S q μ ρ → G 56 L st S q μ ρ) → w_X7_isMajority_0 (MS Z d) G Rp [.ref a0, .int x1] [] S (0, 0) μ ρ) : MS Z (d + 1) jX7_isMajority [.ref a0, .int x1] S μ ρ Rp :=
  MS_of [.ref a0, .int x1] (by decide +kernel) rfl rfl (Nat.le_of_ble_eq_true rfl) rfl (fun p e R s m args below meth c C => b_X7_isMajority_0 C _ _ _ _ _ _ (h _ (b_X7_isMajority_23 C) (b_X7_isMajority_51 C) (b_X7_isMajority_55 C) (b_X7_isMajority_56 C)))
def w_X7_findMembers_0 (M : CT) (G : Nat → PT) (Rp : RT) : PT := tAload 0 <| tConst 0 <| tPutI 7 18 9 <| tAload 0 <| tAload 0 <| tGetR 7 18 16 <| tGetI 6 5 2 <| tPutI 7 18 10 <| tAload 0 <| tAload 0 <| tGetR 7 18 16 <| tGetI 6 5 3 <| tPutI 7 18 11 <| tAload 0 <| tGetI 7 18 7 <| tIstore 1 <| G 32
def w_X7_findMembers_32 (M : CT) (G : Nat → PT) (Rp : RT) : PT := tIload 1 <| tAload 0 <| tGetR 7 18 16 <| tGetI 6 5 0 <| tIf2 (fun x y => x ≤ y) (G 93) <| tAload 0 <| tGetR 7 18 12 <| tIload 1 <| tAld 20 <| tCallS M jX0_tellsMembers 1 <| tIf (fun x => x = 0) (G 87) <| tAload 0 <| tIload 1 <| tPutI 7 18 9 <| tAload 0 <| tAload 0 <| tGetR 7 18 12 <| tIload 1 <| tAld 20 <| tCallS M jX0_cellOf 1 <| tPutI 7 18 10 <| tAload 0 <| tAload 0 <| tGetR 7 18 12 <| tIload 1 <| tAld 20 <| tCallS M jX0_numberOf 1 <| tPutI 7 18 11 <| tVret Rp
def w_X7_findMembers_87 (M : CT) (G : Nat → PT) (Rp : RT) : PT := tIinc 1 (-1) <| tGoto (G 32)
def w_X7_findMembers_93 (M : CT) (G : Nat → PT) (Rp : RT) : PT := tVret Rp
set_option maxRecDepth 20000 in
theorem b_X7_findMembers_0 {Z : Zt} {d : Nat} {p : Program} {e : Env} {R : Room} {s : State} {m : MethodId} {args : Array Value} {below : List Frame} {meth : Method} {c : Code} {Rp : RT} (C : Cx Z d jX7_findMembers RX7 p R s m args meth c) : Sd Z jX7_findMembers p e R s m args below meth c (MQ below (QcS Z Rp) args s 0 0 (fun a => Z.2.2.1 < a)) 0 (w_X7_findMembers_0 (MS Z d) (Gw Z 2 p e R s m args below meth c (MQ below (QcS Z Rp) args s 0 0 (fun a => Z.2.2.1 < a))) Rp) := by
  unfold w_X7_findMembers_0
  refine s_aload_n (k := 0) C (by decide +kernel) ?_
  refine s_iconst (n := 0) C (by decide +kernel) (by decide) ?_
  refine s_putI C w_2_10 (by decide +kernel) rfl (Or.inl rfl) ?_
  refine s_aload_n (k := 0) C (by decide +kernel) ?_
  refine s_aload_n (k := 0) C (by decide +kernel) ?_
  refine s_getR C w_2_32 (by decide +kernel) rfl ?_
  refine s_getI C w_1_169 (by decide +kernel) rfl ?_
  refine s_putI C w_2_13 (by decide +kernel) rfl (Or.inl rfl) ?_
  refine s_aload_n (k := 0) C (by decide +kernel) ?_
  refine s_aload_n (k := 0) C (by decide +kernel) ?_
  refine s_getR C w_2_32 (by decide +kernel) rfl ?_
  refine s_getI C w_1_172 (by decide +kernel) rfl ?_
  refine s_putI C w_2_17 (by decide +kernel) rfl (Or.inl rfl) ?_
  refine s_aload_n (k := 0) C (by decide +kernel) ?_
  refine s_getI C w_2_2 (by decide +kernel) rfl ?_
  refine s_istore_n (k := 1) C (by decide +kernel) ?_
  exact (fun _ _ _ _ _ _ h => h)
set_option maxRecDepth 20000 in
theorem b_X7_findMembers_32 {Z : Zt} {d : Nat} {p : Program} {e : Env} {R : Room} {s : State} {m : MethodId} {args : Array Value} {below : List Frame} {meth : Method} {c : Code} {Rp : RT} (C : Cx Z d jX7_findMembers RX7 p R s m args meth c) : Sd Z jX7_findMembers p e R s m args below meth c (MQ below (QcS Z Rp) args s 0 0 (fun a => Z.2.2.1 < a)) 32 (w_X7_findMembers_32 (MS Z d) (Gw Z 2 p e R s m args below meth c (MQ below (QcS Z Rp) args s 0 0 (fun a => Z.2.2.1 < a))) Rp) := by
  unfold w_X7_findMembers_32
  refine s_iload_n (k := 1) C (by decide +kernel) ?_
  refine s_aload_n (k := 0) C (by decide +kernel) ?_
  refine s_getR C w_2_32 (by decide +kernel) rfl ?_
  refine s_getI C w_1_162 (by decide +kernel) rfl ?_
  refine s_icmp_le (off := 53) (tgt := 93) C (by decide +kernel) (by decide) (fun _ _ _ _ _ _ h => h) ?_
  refine s_aload_n (k := 0) C (by decide +kernel) ?_
  refine s_getR C w_2_20 (by decide +kernel) rfl ?_
  refine s_iload_n (k := 1) C (by decide +kernel) ?_
  refine s_iald C (by decide +kernel) ?_
  refine s_callS C (by decide +kernel) rfl w_2_99 w_2_100 w_1_9 w_2_101 (by decide +kernel) ?_
  refine s_if_eq (off := 35) (tgt := 87) C (by decide +kernel) (by decide) (fun _ _ _ _ _ _ h => h) ?_
  refine s_aload_n (k := 0) C (by decide +kernel) ?_
  refine s_iload_n (k := 1) C (by decide +kernel) ?_
  refine s_putI C w_2_10 (by decide +kernel) rfl (Or.inl rfl) ?_
  refine s_aload_n (k := 0) C (by decide +kernel) ?_
  refine s_aload_n (k := 0) C (by decide +kernel) ?_
  refine s_getR C w_2_20 (by decide +kernel) rfl ?_
  refine s_iload_n (k := 1) C (by decide +kernel) ?_
  refine s_iald C (by decide +kernel) ?_
  refine s_callS C (by decide +kernel) rfl w_2_102 w_2_103 w_1_9 w_2_104 (by decide +kernel) ?_
  refine s_putI C w_2_13 (by decide +kernel) rfl (Or.inl rfl) ?_
  refine s_aload_n (k := 0) C (by decide +kernel) ?_
  refine s_aload_n (k := 0) C (by decide +kernel) ?_
  refine s_getR C w_2_20 (by decide +kernel) rfl ?_
  refine s_iload_n (k := 1) C (by decide +kernel) ?_
  refine s_iald C (by decide +kernel) ?_
  refine s_callS C (by decide +kernel) rfl w_2_105 w_2_106 w_1_9 w_2_107 (by decide +kernel) ?_
  refine s_putI C w_2_17 (by decide +kernel) rfl (Or.inl rfl) ?_
  exact s_vret C rfl (by decide +kernel)
set_option maxRecDepth 20000 in
theorem b_X7_findMembers_87 {Z : Zt} {d : Nat} {p : Program} {e : Env} {R : Room} {s : State} {m : MethodId} {args : Array Value} {below : List Frame} {meth : Method} {c : Code} {Rp : RT} (C : Cx Z d jX7_findMembers RX7 p R s m args meth c) : Sd Z jX7_findMembers p e R s m args below meth c (MQ below (QcS Z Rp) args s 0 0 (fun a => Z.2.2.1 < a)) 87 (w_X7_findMembers_87 (MS Z d) (Gw Z 2 p e R s m args below meth c (MQ below (QcS Z Rp) args s 0 0 (fun a => Z.2.2.1 < a))) Rp) := by
  unfold w_X7_findMembers_87
  refine s_iinc (n := (-1)) C (by decide +kernel) (by decide) ?_
  exact s_goto (off := (-58)) (tgt := 32) C (by decide +kernel) (by decide) (fun _ _ _ _ _ _ h => h)
set_option maxRecDepth 20000 in
theorem b_X7_findMembers_93 {Z : Zt} {d : Nat} {p : Program} {e : Env} {R : Room} {s : State} {m : MethodId} {args : Array Value} {below : List Frame} {meth : Method} {c : Code} {Rp : RT} (C : Cx Z d jX7_findMembers RX7 p R s m args meth c) : Sd Z jX7_findMembers p e R s m args below meth c (MQ below (QcS Z Rp) args s 0 0 (fun a => Z.2.2.1 < a)) 93 (w_X7_findMembers_93 (MS Z d) (Gw Z 2 p e R s m args below meth c (MQ below (QcS Z Rp) args s 0 0 (fun a => Z.2.2.1 < a))) Rp) := by
  unfold w_X7_findMembers_93
  exact s_vret C rfl (by decide +kernel)
theorem ms_X7_findMembers {Z : Zt} {d : Nat} {S : Sh} {μ : Mi} {ρ : Mr} {Rp : RT} (a0 : Nat) (h : ∀ G : Nat → PT, (∀ (L st : List Value) (S : Sh) (q : Nat × Nat) (μ : Mi) (ρ : Mr), w_X7_findMembers_32 (MS Z d) G Rp L st S q μ ρ → G 32 L st S q μ ρ) → (∀ (L st : List Value) (S : Sh) (q : Nat × Nat) (μ : Mi) (ρ : Mr), w_X7_findMembers_87 (MS Z d) G Rp L st S q μ ρ → G 87 L st S q μ ρ) → (∀ (L st : List Value) (S : Sh) (q : Nat × Nat) (μ : Mi) (ρ : Mr), w_X7_findMembers_93 (MS Z d) G Rp L st S q μ ρ → G 93 L st S q μ ρ) → w_X7_findMembers_0 (MS Z d) G Rp [.ref a0, .null] [] S (0, 0) μ ρ) : MS Z (d + 1) jX7_findMembers [.ref a0] S μ ρ Rp :=
  MS_of [.ref a0, .null] (by decide +kernel) rfl rfl (Nat.le_of_ble_eq_true rfl) rfl (fun p e R s m args below meth c C => b_X7_findMembers_0 C _ _ _ _ _ _ (h _ (b_X7_findMembers_32 C) (b_X7_findMembers_87 C) (b_X7_findMembers_93 C)))
def w_X7_append_0 (M : CT) (G : Nat → PT) (Rp : RT) : PT := tAload 0 <| tGetI 7 18 7 <| tConst 120 <| tIf2 (fun x y => x < y) (G 10) <| tVret Rp
def w_X7_append_10 (M : CT) (G : Nat → PT) (Rp : RT) : PT := tAload 0 <| tDup <| tGetI 7 18 7 <| tConst 1 <| tBin (fun x y => x + y) <| tPutI 7 18 7 <| tAload 0 <| tGetR 7 18 12 <| tAload 0 <| tGetI 7 18 7 <| tIload 1 <| tIast <| tIload 1 <| tCallS M jX0_tellsMembers 1 <| tIf (fun x => x = 0) (G 61) <| tAload 0 <| tAload 0 <| tGetI 7 18 7 <| tPutI 7 18 9 <| tAload 0 <| tIload 1 <| tCallS M jX0_cellOf 1 <| tPutI 7 18 10 <| tAload 0 <| tIload 1 <| tCallS M jX0_numberOf 1 <| tPutI 7 18 11 <| G 61
def w_X7_append_61 (M : CT) (G : Nat → PT) (Rp : RT) : PT := tVret Rp
set_option maxRecDepth 20000 in
theorem b_X7_append_0 {Z : Zt} {d : Nat} {p : Program} {e : Env} {R : Room} {s : State} {m : MethodId} {args : Array Value} {below : List Frame} {meth : Method} {c : Code} {Rp : RT} (C : Cx Z d jX7_append RX7 p R s m args meth c) : Sd Z jX7_append p e R s m args below meth c (MQ below (QcS Z Rp) args s 0 0 (fun a => Z.2.2.1 < a)) 0 (w_X7_append_0 (MS Z d) (Gw Z 2 p e R s m args below meth c (MQ below (QcS Z Rp) args s 0 0 (fun a => Z.2.2.1 < a))) Rp) := by
  unfold w_X7_append_0
  refine s_aload_n (k := 0) C (by decide +kernel) ?_
  refine s_getI C w_2_2 (by decide +kernel) rfl ?_
  refine s_bipush (n := 120) C (by decide +kernel) (by decide) ?_
  refine s_icmp_lt (off := 4) (tgt := 10) C (by decide +kernel) (by decide) (fun _ _ _ _ _ _ h => h) ?_
  exact s_vret C rfl (by decide +kernel)
set_option maxRecDepth 20000 in
theorem b_X7_append_10 {Z : Zt} {d : Nat} {p : Program} {e : Env} {R : Room} {s : State} {m : MethodId} {args : Array Value} {below : List Frame} {meth : Method} {c : Code} {Rp : RT} (C : Cx Z d jX7_append RX7 p R s m args meth c) : Sd Z jX7_append p e R s m args below meth c (MQ below (QcS Z Rp) args s 0 0 (fun a => Z.2.2.1 < a)) 10 (w_X7_append_10 (MS Z d) (Gw Z 2 p e R s m args below meth c (MQ below (QcS Z Rp) args s 0 0 (fun a => Z.2.2.1 < a))) Rp) := by
  unfold w_X7_append_10
  refine s_aload_n (k := 0) C (by decide +kernel) ?_
  refine s_dup C (by decide +kernel) ?_
  refine s_getI C w_2_2 (by decide +kernel) rfl ?_
  refine s_iconst (n := 1) C (by decide +kernel) (by decide) ?_
  refine s_iadd C (by decide +kernel) ?_
  refine s_putI C w_2_2 (by decide +kernel) rfl (Or.inl rfl) ?_
  refine s_aload_n (k := 0) C (by decide +kernel) ?_
  refine s_getR C w_2_20 (by decide +kernel) rfl ?_
  refine s_aload_n (k := 0) C (by decide +kernel) ?_
  refine s_getI C w_2_2 (by decide +kernel) rfl ?_
  refine s_iload_n (k := 1) C (by decide +kernel) ?_
  refine s_iast C (by decide +kernel) ?_
  refine s_iload_n (k := 1) C (by decide +kernel) ?_
  refine s_callS C (by decide +kernel) rfl w_2_99 w_2_100 w_1_9 w_2_101 (by decide +kernel) ?_
  refine s_if_eq (off := 27) (tgt := 61) C (by decide +kernel) (by decide) (fun _ _ _ _ _ _ h => h) ?_
  refine s_aload_n (k := 0) C (by decide +kernel) ?_
  refine s_aload_n (k := 0) C (by decide +kernel) ?_
  refine s_getI C w_2_2 (by decide +kernel) rfl ?_
  refine s_putI C w_2_10 (by decide +kernel) rfl (Or.inl rfl) ?_
  refine s_aload_n (k := 0) C (by decide +kernel) ?_
  refine s_iload_n (k := 1) C (by decide +kernel) ?_
  refine s_callS C (by decide +kernel) rfl w_2_102 w_2_103 w_1_9 w_2_104 (by decide +kernel) ?_
  refine s_putI C w_2_13 (by decide +kernel) rfl (Or.inl rfl) ?_
  refine s_aload_n (k := 0) C (by decide +kernel) ?_
  refine s_iload_n (k := 1) C (by decide +kernel) ?_
  refine s_callS C (by decide +kernel) rfl w_2_105 w_2_106 w_1_9 w_2_107 (by decide +kernel) ?_
  refine s_putI C w_2_17 (by decide +kernel) rfl (Or.inl rfl) ?_
  exact (fun _ _ _ _ _ _ h => h)
set_option maxRecDepth 20000 in
theorem b_X7_append_61 {Z : Zt} {d : Nat} {p : Program} {e : Env} {R : Room} {s : State} {m : MethodId} {args : Array Value} {below : List Frame} {meth : Method} {c : Code} {Rp : RT} (C : Cx Z d jX7_append RX7 p R s m args meth c) : Sd Z jX7_append p e R s m args below meth c (MQ below (QcS Z Rp) args s 0 0 (fun a => Z.2.2.1 < a)) 61 (w_X7_append_61 (MS Z d) (Gw Z 2 p e R s m args below meth c (MQ below (QcS Z Rp) args s 0 0 (fun a => Z.2.2.1 < a))) Rp) := by
  unfold w_X7_append_61
  exact s_vret C rfl (by decide +kernel)
theorem ms_X7_append {Z : Zt} {d : Nat} {S : Sh} {μ : Mi} {ρ : Mr} {Rp : RT} (a0 : Nat) (x1 : Int32) (h : ∀ G : Nat → PT, (∀ (L st : List Value) (S : Sh) (q : Nat × Nat) (μ : Mi) (ρ : Mr), w_X7_append_10 (MS Z d) G Rp L st S q μ ρ → G 10 L st S q μ ρ) → (∀ (L st : List Value) (S : Sh) (q : Nat × Nat) (μ : Mi) (ρ : Mr), w_X7_append_61 (MS Z d) G Rp L st S q μ ρ → G 61 L st S q μ ρ) → w_X7_append_0 (MS Z d) G Rp [.ref a0, .int x1] [] S (0, 0) μ ρ) : MS Z (d + 1) jX7_append [.ref a0, .int x1] S μ ρ Rp :=
  MS_of [.ref a0, .int x1] (by decide +kernel) rfl rfl (Nat.le_of_ble_eq_true rfl) rfl (fun p e R s m args below meth c C => b_X7_append_0 C _ _ _ _ _ _ (h _ (b_X7_append_10 C) (b_X7_append_61 C)))
def w_X7_becomes_0 (M : CT) (G : Nat → PT) (Rp : RT) : PT := tAload 0 <| tGetI 7 18 4 <| tIload 1 <| tIf2 (fun x y => x ≠ y) (G 9) <| tVret Rp
def w_X7_becomes_9 (M : CT) (G : Nat → PT) (Rp : RT) : PT := tAload 0 <| tIload 1 <| tPutI 7 18 4 <| tAload 0 <| tConst 0 <| tPutI 7 18 5 <| tAload 0 <| tGetR 7 18 17 <| tGetI 5 4 0 <| tConst 1 <| tIf2 (fun x y => x ≠ y) (G 37) <| tAload 0 <| tGetR 7 18 17 <| tCallV M jX5_clear 5 4 0 <| G 37
def w_X7_becomes_37 (M : CT) (G : Nat → PT) (Rp : RT) : PT := tVret Rp
set_option maxRecDepth 20000 in
theorem b_X7_becomes_0 {Z : Zt} {d : Nat} {p : Program} {e : Env} {R : Room} {s : State} {m : MethodId} {args : Array Value} {below : List Frame} {meth : Method} {c : Code} {Rp : RT} (C : Cx Z d jX7_becomes RX7 p R s m args meth c) : Sd Z jX7_becomes p e R s m args below meth c (MQ below (QcS Z Rp) args s 0 0 (fun a => Z.2.2.1 < a)) 0 (w_X7_becomes_0 (MS Z d) (Gw Z 2 p e R s m args below meth c (MQ below (QcS Z Rp) args s 0 0 (fun a => Z.2.2.1 < a))) Rp) := by
  unfold w_X7_becomes_0
  refine s_aload_n (k := 0) C (by decide +kernel) ?_
  refine s_getI C w_1_231 (by decide +kernel) rfl ?_
  refine s_iload_n (k := 1) C (by decide +kernel) ?_
  refine s_icmp_ne (off := 4) (tgt := 9) C (by decide +kernel) (by decide) (fun _ _ _ _ _ _ h => h) ?_
  exact s_vret C rfl (by decide +kernel)
set_option maxRecDepth 20000 in
theorem b_X7_becomes_9 {Z : Zt} {d : Nat} {p : Program} {e : Env} {R : Room} {s : State} {m : MethodId} {args : Array Value} {below : List Frame} {meth : Method} {c : Code} {Rp : RT} (C : Cx Z d jX7_becomes RX7 p R s m args meth c) : Sd Z jX7_becomes p e R s m args below meth c (MQ below (QcS Z Rp) args s 0 0 (fun a => Z.2.2.1 < a)) 9 (w_X7_becomes_9 (MS Z d) (Gw Z 2 p e R s m args below meth c (MQ below (QcS Z Rp) args s 0 0 (fun a => Z.2.2.1 < a))) Rp) := by
  unfold w_X7_becomes_9
  refine s_aload_n (k := 0) C (by decide +kernel) ?_
  refine s_iload_n (k := 1) C (by decide +kernel) ?_
  refine s_putI C w_1_231 (by decide +kernel) rfl (Or.inl rfl) ?_
  refine s_aload_n (k := 0) C (by decide +kernel) ?_
  refine s_iconst (n := 0) C (by decide +kernel) (by decide) ?_
  refine s_putI C w_1_236 (by decide +kernel) rfl (Or.inl rfl) ?_
  refine s_aload_n (k := 0) C (by decide +kernel) ?_
  refine s_getR C w_2_35 (by decide +kernel) rfl ?_
  refine s_getI C w_1_196 (by decide +kernel) rfl ?_
  refine s_iconst (n := 1) C (by decide +kernel) (by decide) ?_
  refine s_icmp_ne (off := 10) (tgt := 37) C (by decide +kernel) (by decide) (fun _ _ _ _ _ _ h => h) ?_
  refine s_aload_n (k := 0) C (by decide +kernel) ?_
  refine s_getR C w_2_35 (by decide +kernel) rfl ?_
  refine s_callV C rfl rfl (by decide +kernel) rfl w_2_90 w_2_91 w_2_92 w_1_7 w_2_93 (by decide +kernel) ?_
  exact (fun _ _ _ _ _ _ h => h)
set_option maxRecDepth 20000 in
theorem b_X7_becomes_37 {Z : Zt} {d : Nat} {p : Program} {e : Env} {R : Room} {s : State} {m : MethodId} {args : Array Value} {below : List Frame} {meth : Method} {c : Code} {Rp : RT} (C : Cx Z d jX7_becomes RX7 p R s m args meth c) : Sd Z jX7_becomes p e R s m args below meth c (MQ below (QcS Z Rp) args s 0 0 (fun a => Z.2.2.1 < a)) 37 (w_X7_becomes_37 (MS Z d) (Gw Z 2 p e R s m args below meth c (MQ below (QcS Z Rp) args s 0 0 (fun a => Z.2.2.1 < a))) Rp) := by
  unfold w_X7_becomes_37
  exact s_vret C rfl (by decide +kernel)
theorem ms_X7_becomes {Z : Zt} {d : Nat} {S : Sh} {μ : Mi} {ρ : Mr} {Rp : RT} (a0 : Nat) (x1 : Int32) (h : ∀ G : Nat → PT, (∀ (L st : List Value) (S : Sh) (q : Nat × Nat) (μ : Mi) (ρ : Mr), w_X7_becomes_9 (MS Z d) G Rp L st S q μ ρ → G 9 L st S q μ ρ) → (∀ (L st : List Value) (S : Sh) (q : Nat × Nat) (μ : Mi) (ρ : Mr), w_X7_becomes_37 (MS Z d) G Rp L st S q μ ρ → G 37 L st S q μ ρ) → w_X7_becomes_0 (MS Z d) G Rp [.ref a0, .int x1] [] S (0, 0) μ ρ) : MS Z (d + 1) jX7_becomes [.ref a0, .int x1] S μ ρ Rp :=
  MS_of [.ref a0, .int x1] (by decide +kernel) rfl rfl (Nat.le_of_ble_eq_true rfl) rfl (fun p e R s m args below meth c C => b_X7_becomes_0 C _ _ _ _ _ _ (h _ (b_X7_becomes_9 C) (b_X7_becomes_37 C)))
def w_X7_fallBack_0 (M : CT) (G : Nat → PT) (Rp : RT) : PT := tAload 0 <| tIload 1 <| tPutI 7 18 2 <| tAload 0 <| tConst (-1) <| tPutI 7 18 3 <| tAload 0 <| tConst 0 <| tCallV M jX7_becomes 7 18 1 <| tVret Rp
set_option maxRecDepth 20000 in
theorem b_X7_fallBack_0 {Z : Zt} {d : Nat} {p : Program} {e : Env} {R : Room} {s : State} {m : MethodId} {args : Array Value} {below : List Frame} {meth : Method} {c : Code} {Rp : RT} (C : Cx Z d jX7_fallBack RX7 p R s m args meth c) : Sd Z jX7_fallBack p e R s m args below meth c (MQ below (QcS Z Rp) args s 0 0 (fun a => Z.2.2.1 < a)) 0 (w_X7_fallBack_0 (MS Z d) (Gw Z 2 p e R s m args below meth c (MQ below (QcS Z Rp) args s 0 0 (fun a => Z.2.2.1 < a))) Rp) := by
  unfold w_X7_fallBack_0
  refine s_aload_n (k := 0) C (by decide +kernel) ?_
  refine s_iload_n (k := 1) C (by decide +kernel) ?_
  refine s_putI C w_1_225 (by decide +kernel) rfl (Or.inl rfl) ?_
  refine s_aload_n (k := 0) C (by decide +kernel) ?_
  refine s_iconst (n := (-1)) C (by decide +kernel) (by decide) ?_
  refine s_putI C w_1_228 (by decide +kernel) rfl (Or.inl rfl) ?_
  refine s_aload_n (k := 0) C (by decide +kernel) ?_
  refine s_iconst (n := 0) C (by decide +kernel) (by decide) ?_
  refine s_callV C rfl rfl (by decide +kernel) rfl w_4_30 w_3_118 w_3_119 w_1_5 w_3_120 (by decide +kernel) ?_
  exact s_vret C rfl (by decide +kernel)
theorem ms_X7_fallBack {Z : Zt} {d : Nat} {S : Sh} {μ : Mi} {ρ : Mr} {Rp : RT} (a0 : Nat) (x1 : Int32) (h : ∀ G : Nat → PT, w_X7_fallBack_0 (MS Z d) G Rp [.ref a0, .int x1] [] S (0, 0) μ ρ) : MS Z (d + 1) jX7_fallBack [.ref a0, .int x1] S μ ρ Rp :=
  MS_of [.ref a0, .int x1] (by decide +kernel) rfl rfl (Nat.le_of_ble_eq_true rfl) rfl (fun p e R s m args below meth c C => b_X7_fallBack_0 C _ _ _ _ _ _ (h _ ))
def w_X7_goesDown_0 (M : CT) (G : Nat → PT) (Rp : RT) : PT := tAload 0 <| tConst 0 <| tPutZ 7 18 1 <| tAload 0 <| tConst 0 <| tCallV M jX7_becomes 7 18 1 <| tAload 0 <| tGetR 7 18 17 <| tCallV M jX5_clear 5 4 0 <| tAload 0 <| tAload 0 <| tGetR 7 18 16 <| tGetI 6 5 0 <| tPutI 7 18 8 <| tAload 0 <| tGetR 7 18 16 <| tGetR 6 5 4 <| tConst 0 <| tAload 0 <| tGetR 7 18 13 <| tConst 0 <| tConst 4 <| tCopy <| tVret Rp
set_option maxRecDepth 20000 in
theorem b_X7_goesDown_0 {Z : Zt} {d : Nat} {p : Program} {e : Env} {R : Room} {s : State} {m : MethodId} {args : Array Value} {below : List Frame} {meth : Method} {c : Code} {Rp : RT} (C : Cx Z d jX7_goesDown RX7 p R s m args meth c) : Sd Z jX7_goesDown p e R s m args below meth c (MQ below (QcS Z Rp) args s 0 0 (fun a => Z.2.2.1 < a)) 0 (w_X7_goesDown_0 (MS Z d) (Gw Z 1 p e R s m args below meth c (MQ below (QcS Z Rp) args s 0 0 (fun a => Z.2.2.1 < a))) Rp) := by
  unfold w_X7_goesDown_0
  refine s_aload_n (k := 0) C (by decide +kernel) ?_
  refine s_iconst (n := 0) C (by decide +kernel) (by decide) ?_
  refine s_putZ C w_1_222 (by decide +kernel) rfl (Or.inl rfl) ?_
  refine s_aload_n (k := 0) C (by decide +kernel) ?_
  refine s_iconst (n := 0) C (by decide +kernel) (by decide) ?_
  refine s_callV C rfl rfl (by decide +kernel) rfl w_4_30 w_3_118 w_3_119 w_1_5 w_3_120 (by decide +kernel) ?_
  refine s_aload_n (k := 0) C (by decide +kernel) ?_
  refine s_getR C w_2_35 (by decide +kernel) rfl ?_
  refine s_callV C rfl rfl (by decide +kernel) rfl w_2_90 w_2_91 w_2_92 w_1_7 w_2_93 (by decide +kernel) ?_
  refine s_aload_n (k := 0) C (by decide +kernel) ?_
  refine s_aload_n (k := 0) C (by decide +kernel) ?_
  refine s_getR C w_2_32 (by decide +kernel) rfl ?_
  refine s_getI C w_1_162 (by decide +kernel) rfl ?_
  refine s_putI C w_2_6 (by decide +kernel) rfl (Or.inl rfl) ?_
  refine s_aload_n (k := 0) C (by decide +kernel) ?_
  refine s_getR C w_2_32 (by decide +kernel) rfl ?_
  refine s_getR C w_1_175 (by decide +kernel) rfl ?_
  refine s_iconst (n := 0) C (by decide +kernel) (by decide) ?_
  refine s_aload_n (k := 0) C (by decide +kernel) ?_
  refine s_getR C w_2_23 (by decide +kernel) rfl ?_
  refine s_iconst (n := 0) C (by decide +kernel) (by decide) ?_
  refine s_iconst (n := 4) C (by decide +kernel) (by decide) ?_
  refine s_copy C w_3_44 w_3_46 w_3_45 w_1_14 (by decide +kernel) ?_
  exact s_vret C rfl (by decide +kernel)
theorem ms_X7_goesDown {Z : Zt} {d : Nat} {S : Sh} {μ : Mi} {ρ : Mr} {Rp : RT} (a0 : Nat) (h : ∀ G : Nat → PT, w_X7_goesDown_0 (MS Z d) G Rp [.ref a0] [] S (0, 0) μ ρ) : MS Z (d + 1) jX7_goesDown [.ref a0] S μ ρ Rp :=
  MS_of [.ref a0] (by decide +kernel) rfl rfl (Nat.le_of_ble_eq_true rfl) rfl (fun p e R s m args below meth c C => b_X7_goesDown_0 C _ _ _ _ _ _ (h _ ))
def w_X7_takeSnapshot_0 (M : CT) (G : Nat → PT) (Rp : RT) : PT := tAload 0 <| tGetI 7 18 8 <| tIstore 1 <| G 5
def w_X7_takeSnapshot_5 (M : CT) (G : Nat → PT) (Rp : RT) : PT := tIload 1 <| tAload 0 <| tGetR 7 18 16 <| tGetI 6 5 0 <| tIf2 (fun x y => x ≤ y) (G 69) <| tAload 0 <| tGetR 7 18 12 <| tIload 1 <| tAld 20 <| tCallS M jX0_tellsMembers 1 <| tIf (fun x => x = 0) (G 63) <| tAload 0 <| tGetR 7 18 16 <| tAload 0 <| tGetR 7 18 12 <| tIload 1 <| tAld 20 <| tCallS M jX0_cellOf 1 <| tPutI 6 5 2 <| tAload 0 <| tGetR 7 18 16 <| tAload 0 <| tGetR 7 18 12 <| tIload 1 <| tAld 20 <| tCallS M jX0_numberOf 1 <| tPutI 6 5 3 <| tGoto (G 69)
def w_X7_takeSnapshot_63 (M : CT) (G : Nat → PT) (Rp : RT) : PT := tIinc 1 (-1) <| tGoto (G 5)
def w_X7_takeSnapshot_69 (M : CT) (G : Nat → PT) (Rp : RT) : PT := tAload 0 <| tGetR 7 18 16 <| tAload 0 <| tAload 0 <| tGetI 7 18 8 <| tCallV M jX7_termAt 7 18 1 <| tPutI 6 5 1 <| tAload 0 <| tGetR 7 18 16 <| tAload 0 <| tGetI 7 18 8 <| tPutI 6 5 0 <| tAload 0 <| tGetR 7 18 13 <| tConst 0 <| tAload 0 <| tGetR 7 18 16 <| tGetR 6 5 4 <| tConst 0 <| tConst 4 <| tCopy <| tAload 0 <| tCallV M jX7_findMembers 7 18 0 <| tVret Rp
set_option maxRecDepth 20000 in
theorem b_X7_takeSnapshot_0 {Z : Zt} {d : Nat} {p : Program} {e : Env} {R : Room} {s : State} {m : MethodId} {args : Array Value} {below : List Frame} {meth : Method} {c : Code} {Rp : RT} (C : Cx Z d jX7_takeSnapshot RX7 p R s m args meth c) : Sd Z jX7_takeSnapshot p e R s m args below meth c (MQ below (QcS Z Rp) args s 0 0 (fun a => Z.2.2.1 < a)) 0 (w_X7_takeSnapshot_0 (MS Z d) (Gw Z 2 p e R s m args below meth c (MQ below (QcS Z Rp) args s 0 0 (fun a => Z.2.2.1 < a))) Rp) := by
  unfold w_X7_takeSnapshot_0
  refine s_aload_n (k := 0) C (by decide +kernel) ?_
  refine s_getI C w_2_6 (by decide +kernel) rfl ?_
  refine s_istore_n (k := 1) C (by decide +kernel) ?_
  exact (fun _ _ _ _ _ _ h => h)
set_option maxRecDepth 20000 in
theorem b_X7_takeSnapshot_5 {Z : Zt} {d : Nat} {p : Program} {e : Env} {R : Room} {s : State} {m : MethodId} {args : Array Value} {below : List Frame} {meth : Method} {c : Code} {Rp : RT} (C : Cx Z d jX7_takeSnapshot RX7 p R s m args meth c) : Sd Z jX7_takeSnapshot p e R s m args below meth c (MQ below (QcS Z Rp) args s 0 0 (fun a => Z.2.2.1 < a)) 5 (w_X7_takeSnapshot_5 (MS Z d) (Gw Z 2 p e R s m args below meth c (MQ below (QcS Z Rp) args s 0 0 (fun a => Z.2.2.1 < a))) Rp) := by
  unfold w_X7_takeSnapshot_5
  refine s_iload_n (k := 1) C (by decide +kernel) ?_
  refine s_aload_n (k := 0) C (by decide +kernel) ?_
  refine s_getR C w_2_32 (by decide +kernel) rfl ?_
  refine s_getI C w_1_162 (by decide +kernel) rfl ?_
  refine s_icmp_le (off := 56) (tgt := 69) C (by decide +kernel) (by decide) (fun _ _ _ _ _ _ h => h) ?_
  refine s_aload_n (k := 0) C (by decide +kernel) ?_
  refine s_getR C w_2_20 (by decide +kernel) rfl ?_
  refine s_iload_n (k := 1) C (by decide +kernel) ?_
  refine s_iald C (by decide +kernel) ?_
  refine s_callS C (by decide +kernel) rfl w_2_99 w_2_100 w_1_9 w_2_101 (by decide +kernel) ?_
  refine s_if_eq (off := 38) (tgt := 63) C (by decide +kernel) (by decide) (fun _ _ _ _ _ _ h => h) ?_
  refine s_aload_n (k := 0) C (by decide +kernel) ?_
  refine s_getR C w_2_32 (by decide +kernel) rfl ?_
  refine s_aload_n (k := 0) C (by decide +kernel) ?_
  refine s_getR C w_2_20 (by decide +kernel) rfl ?_
  refine s_iload_n (k := 1) C (by decide +kernel) ?_
  refine s_iald C (by decide +kernel) ?_
  refine s_callS C (by decide +kernel) rfl w_2_102 w_2_103 w_1_9 w_2_104 (by decide +kernel) ?_
  refine s_putI C w_1_169 (by decide +kernel) rfl (Or.inl rfl) ?_
  refine s_aload_n (k := 0) C (by decide +kernel) ?_
  refine s_getR C w_2_32 (by decide +kernel) rfl ?_
  refine s_aload_n (k := 0) C (by decide +kernel) ?_
  refine s_getR C w_2_20 (by decide +kernel) rfl ?_
  refine s_iload_n (k := 1) C (by decide +kernel) ?_
  refine s_iald C (by decide +kernel) ?_
  refine s_callS C (by decide +kernel) rfl w_2_105 w_2_106 w_1_9 w_2_107 (by decide +kernel) ?_
  refine s_putI C w_1_172 (by decide +kernel) rfl (Or.inl rfl) ?_
  exact s_goto (off := 9) (tgt := 69) C (by decide +kernel) (by decide) (fun _ _ _ _ _ _ h => h)
set_option maxRecDepth 20000 in
theorem b_X7_takeSnapshot_63 {Z : Zt} {d : Nat} {p : Program} {e : Env} {R : Room} {s : State} {m : MethodId} {args : Array Value} {below : List Frame} {meth : Method} {c : Code} {Rp : RT} (C : Cx Z d jX7_takeSnapshot RX7 p R s m args meth c) : Sd Z jX7_takeSnapshot p e R s m args below meth c (MQ below (QcS Z Rp) args s 0 0 (fun a => Z.2.2.1 < a)) 63 (w_X7_takeSnapshot_63 (MS Z d) (Gw Z 2 p e R s m args below meth c (MQ below (QcS Z Rp) args s 0 0 (fun a => Z.2.2.1 < a))) Rp) := by
  unfold w_X7_takeSnapshot_63
  refine s_iinc (n := (-1)) C (by decide +kernel) (by decide) ?_
  exact s_goto (off := (-61)) (tgt := 5) C (by decide +kernel) (by decide) (fun _ _ _ _ _ _ h => h)
set_option maxRecDepth 20000 in
theorem b_X7_takeSnapshot_69 {Z : Zt} {d : Nat} {p : Program} {e : Env} {R : Room} {s : State} {m : MethodId} {args : Array Value} {below : List Frame} {meth : Method} {c : Code} {Rp : RT} (C : Cx Z d jX7_takeSnapshot RX7 p R s m args meth c) : Sd Z jX7_takeSnapshot p e R s m args below meth c (MQ below (QcS Z Rp) args s 0 0 (fun a => Z.2.2.1 < a)) 69 (w_X7_takeSnapshot_69 (MS Z d) (Gw Z 2 p e R s m args below meth c (MQ below (QcS Z Rp) args s 0 0 (fun a => Z.2.2.1 < a))) Rp) := by
  unfold w_X7_takeSnapshot_69
  refine s_aload_n (k := 0) C (by decide +kernel) ?_
  refine s_getR C w_2_32 (by decide +kernel) rfl ?_
  refine s_aload_n (k := 0) C (by decide +kernel) ?_
  refine s_aload_n (k := 0) C (by decide +kernel) ?_
  refine s_getI C w_2_6 (by decide +kernel) rfl ?_
  refine s_callV C rfl rfl (by decide +kernel) rfl w_4_17 w_3_130 w_3_131 w_1_5 w_3_132 (by decide +kernel) ?_
  refine s_putI C w_1_166 (by decide +kernel) rfl (Or.inl rfl) ?_
  refine s_aload_n (k := 0) C (by decide +kernel) ?_
  refine s_getR C w_2_32 (by decide +kernel) rfl ?_
  refine s_aload_n (k := 0) C (by decide +kernel) ?_
  refine s_getI C w_2_6 (by decide +kernel) rfl ?_
  refine s_putI C w_1_162 (by decide +kernel) rfl (Or.inl rfl) ?_
  refine s_aload_n (k := 0) C (by decide +kernel) ?_
  refine s_getR C w_2_23 (by decide +kernel) rfl ?_
  refine s_iconst (n := 0) C (by decide +kernel) (by decide) ?_
  refine s_aload_n (k := 0) C (by decide +kernel) ?_
  refine s_getR C w_2_32 (by decide +kernel) rfl ?_
  refine s_getR C w_1_175 (by decide +kernel) rfl ?_
  refine s_iconst (n := 0) C (by decide +kernel) (by decide) ?_
  refine s_iconst (n := 4) C (by decide +kernel) (by decide) ?_
  refine s_copy C w_3_44 w_3_46 w_3_45 w_1_14 (by decide +kernel) ?_
  refine s_aload_n (k := 0) C (by decide +kernel) ?_
  refine s_callV C rfl rfl (by decide +kernel) rfl w_2_95 w_2_96 w_2_97 w_1_5 w_2_98 (by decide +kernel) ?_
  exact s_vret C rfl (by decide +kernel)
theorem ms_X7_takeSnapshot {Z : Zt} {d : Nat} {S : Sh} {μ : Mi} {ρ : Mr} {Rp : RT} (a0 : Nat) (h : ∀ G : Nat → PT, (∀ (L st : List Value) (S : Sh) (q : Nat × Nat) (μ : Mi) (ρ : Mr), w_X7_takeSnapshot_5 (MS Z d) G Rp L st S q μ ρ → G 5 L st S q μ ρ) → (∀ (L st : List Value) (S : Sh) (q : Nat × Nat) (μ : Mi) (ρ : Mr), w_X7_takeSnapshot_63 (MS Z d) G Rp L st S q μ ρ → G 63 L st S q μ ρ) → (∀ (L st : List Value) (S : Sh) (q : Nat × Nat) (μ : Mi) (ρ : Mr), w_X7_takeSnapshot_69 (MS Z d) G Rp L st S q μ ρ → G 69 L st S q μ ρ) → w_X7_takeSnapshot_0 (MS Z d) G Rp [.ref a0, .null] [] S (0, 0) μ ρ) : MS Z (d + 1) jX7_takeSnapshot [.ref a0] S μ ρ Rp :=
  MS_of [.ref a0, .null] (by decide +kernel) rfl rfl (Nat.le_of_ble_eq_true rfl) rfl (fun p e R s m args below meth c C => b_X7_takeSnapshot_0 C _ _ _ _ _ _ (h _ (b_X7_takeSnapshot_5 C) (b_X7_takeSnapshot_63 C) (b_X7_takeSnapshot_69 C)))
def w_X7_install_0 (M : CT) (G : Nat → PT) (Rp : RT) : PT := tAload 0 <| tAload 1 <| tGetI 2 10 4 <| tCallV M jX7_termAt 7 18 1 <| tAload 1 <| tGetI 2 10 5 <| tIf2 (fun x y => x = y) (G 23) <| tAload 0 <| tAload 1 <| tGetI 2 10 4 <| tPutI 7 18 7 <| G 23
def w_X7_install_23 (M : CT) (G : Nat → PT) (Rp : RT) : PT := tAload 0 <| tGetR 7 18 16 <| tAload 1 <| tGetI 2 10 4 <| tPutI 6 5 0 <| tAload 0 <| tGetR 7 18 16 <| tAload 1 <| tGetI 2 10 5 <| tPutI 6 5 1 <| tAload 0 <| tGetR 7 18 16 <| tAload 1 <| tGetR 2 10 9 <| tConst 4 <| tAld 20 <| tPutI 6 5 2 <| tAload 0 <| tGetR 7 18 16 <| tAload 1 <| tGetR 2 10 9 <| tConst 5 <| tAld 20 <| tPutI 6 5 3 <| tAload 1 <| tGetR 2 10 9 <| tConst 0 <| tAload 0 <| tGetR 7 18 16 <| tGetR 6 5 4 <| tConst 0 <| tConst 4 <| tCopy <| tAload 1 <| tGetR 2 10 9 <| tConst 0 <| tAload 0 <| tGetR 7 18 13 <| tConst 0 <| tConst 4 <| tCopy <| tAload 0 <| tAload 1 <| tGetI 2 10 4 <| tPutI 7 18 8 <| tAload 0 <| tCallV M jX7_findMembers 7 18 0 <| tVret Rp
set_option maxRecDepth 20000 in
theorem b_X7_install_0 {Z : Zt} {d : Nat} {p : Program} {e : Env} {R : Room} {s : State} {m : MethodId} {args : Array Value} {below : List Frame} {meth : Method} {c : Code} {Rp : RT} (C : Cx Z d jX7_install RX7 p R s m args meth c) : Sd Z jX7_install p e R s m args below meth c (MQ below (QcS Z Rp) args s 0 0 (fun a => Z.2.2.1 < a)) 0 (w_X7_install_0 (MS Z d) (Gw Z 2 p e R s m args below meth c (MQ below (QcS Z Rp) args s 0 0 (fun a => Z.2.2.1 < a))) Rp) := by
  unfold w_X7_install_0
  refine s_aload_n (k := 0) C (by decide +kernel) ?_
  refine s_aload_n (k := 1) C (by decide +kernel) ?_
  refine s_getI C w_1_73 (by decide +kernel) rfl ?_
  refine s_callV C rfl rfl (by decide +kernel) rfl w_4_17 w_3_130 w_3_131 w_1_5 w_3_132 (by decide +kernel) ?_
  refine s_aload_n (k := 1) C (by decide +kernel) ?_
  refine s_getI C w_1_78 (by decide +kernel) rfl ?_
  refine s_icmp_eq (off := 11) (tgt := 23) C (by decide +kernel) (by decide) (fun _ _ _ _ _ _ h => h) ?_
  refine s_aload_n (k := 0) C (by decide +kernel) ?_
  refine s_aload_n (k := 1) C (by decide +kernel) ?_
  refine s_getI C w_1_73 (by decide +kernel) rfl ?_
  refine s_putI C w_2_2 (by decide +kernel) rfl (Or.inl rfl) ?_
  exact (fun _ _ _ _ _ _ h => h)
set_option maxRecDepth 20000 in
theorem b_X7_install_23 {Z : Zt} {d : Nat} {p : Program} {e : Env} {R : Room} {s : State} {m : MethodId} {args : Array Value} {below : List Frame} {meth : Method} {c : Code} {Rp : RT} (C : Cx Z d jX7_install RX7 p R s m args meth c) : Sd Z jX7_install p e R s m args below meth c (MQ below (QcS Z Rp) args s 0 0 (fun a => Z.2.2.1 < a)) 23 (w_X7_install_23 (MS Z d) (Gw Z 2 p e R s m args below meth c (MQ below (QcS Z Rp) args s 0 0 (fun a => Z.2.2.1 < a))) Rp) := by
  unfold w_X7_install_23
  refine s_aload_n (k := 0) C (by decide +kernel) ?_
  refine s_getR C w_2_32 (by decide +kernel) rfl ?_
  refine s_aload_n (k := 1) C (by decide +kernel) ?_
  refine s_getI C w_1_73 (by decide +kernel) rfl ?_
  refine s_putI C w_1_162 (by decide +kernel) rfl (Or.inl rfl) ?_
  refine s_aload_n (k := 0) C (by decide +kernel) ?_
  refine s_getR C w_2_32 (by decide +kernel) rfl ?_
  refine s_aload_n (k := 1) C (by decide +kernel) ?_
  refine s_getI C w_1_78 (by decide +kernel) rfl ?_
  refine s_putI C w_1_166 (by decide +kernel) rfl (Or.inl rfl) ?_
  refine s_aload_n (k := 0) C (by decide +kernel) ?_
  refine s_getR C w_2_32 (by decide +kernel) rfl ?_
  refine s_aload_n (k := 1) C (by decide +kernel) ?_
  refine s_getR C w_1_94 (by decide +kernel) rfl ?_
  refine s_iconst (n := 4) C (by decide +kernel) (by decide) ?_
  refine s_iald C (by decide +kernel) ?_
  refine s_putI C w_1_169 (by decide +kernel) rfl (Or.inl rfl) ?_
  refine s_aload_n (k := 0) C (by decide +kernel) ?_
  refine s_getR C w_2_32 (by decide +kernel) rfl ?_
  refine s_aload_n (k := 1) C (by decide +kernel) ?_
  refine s_getR C w_1_94 (by decide +kernel) rfl ?_
  refine s_iconst (n := 5) C (by decide +kernel) (by decide) ?_
  refine s_iald C (by decide +kernel) ?_
  refine s_putI C w_1_172 (by decide +kernel) rfl (Or.inl rfl) ?_
  refine s_aload_n (k := 1) C (by decide +kernel) ?_
  refine s_getR C w_1_94 (by decide +kernel) rfl ?_
  refine s_iconst (n := 0) C (by decide +kernel) (by decide) ?_
  refine s_aload_n (k := 0) C (by decide +kernel) ?_
  refine s_getR C w_2_32 (by decide +kernel) rfl ?_
  refine s_getR C w_1_175 (by decide +kernel) rfl ?_
  refine s_iconst (n := 0) C (by decide +kernel) (by decide) ?_
  refine s_iconst (n := 4) C (by decide +kernel) (by decide) ?_
  refine s_copy C w_3_44 w_3_46 w_3_45 w_1_14 (by decide +kernel) ?_
  refine s_aload_n (k := 1) C (by decide +kernel) ?_
  refine s_getR C w_1_94 (by decide +kernel) rfl ?_
  refine s_iconst (n := 0) C (by decide +kernel) (by decide) ?_
  refine s_aload_n (k := 0) C (by decide +kernel) ?_
  refine s_getR C w_2_23 (by decide +kernel) rfl ?_
  refine s_iconst (n := 0) C (by decide +kernel) (by decide) ?_
  refine s_iconst (n := 4) C (by decide +kernel) (by decide) ?_
  refine s_copy C w_3_44 w_3_46 w_3_45 w_1_14 (by decide +kernel) ?_
  refine s_aload_n (k := 0) C (by decide +kernel) ?_
  refine s_aload_n (k := 1) C (by decide +kernel) ?_
  refine s_getI C w_1_73 (by decide +kernel) rfl ?_
  refine s_putI C w_2_6 (by decide +kernel) rfl (Or.inl rfl) ?_
  refine s_aload_n (k := 0) C (by decide +kernel) ?_
  refine s_callV C rfl rfl (by decide +kernel) rfl w_2_95 w_2_96 w_2_97 w_1_5 w_2_98 (by decide +kernel) ?_
  exact s_vret C rfl (by decide +kernel)
theorem ms_X7_install {Z : Zt} {d : Nat} {S : Sh} {μ : Mi} {ρ : Mr} {Rp : RT} (a0 : Nat) (a1 : Nat) (h : ∀ G : Nat → PT, (∀ (L st : List Value) (S : Sh) (q : Nat × Nat) (μ : Mi) (ρ : Mr), w_X7_install_23 (MS Z d) G Rp L st S q μ ρ → G 23 L st S q μ ρ) → w_X7_install_0 (MS Z d) G Rp [.ref a0, .ref a1] [] S (0, 0) μ ρ) : MS Z (d + 1) jX7_install [.ref a0, .ref a1] S μ ρ Rp :=
  MS_of [.ref a0, .ref a1] (by decide +kernel) rfl rfl (Nat.le_of_ble_eq_true rfl) rfl (fun p e R s m args below meth c C => b_X7_install_0 C _ _ _ _ _ _ (h _ (b_X7_install_23 C)))
def w_X7_takeEntries_0 (M : CT) (G : Nat → PT) (Rp : RT) : PT := tConst 0 <| tIstore 2 <| G 2
def w_X7_takeEntries_2 (M : CT) (G : Nat → PT) (Rp : RT) : PT := tIload 2 <| tAload 1 <| tGetI 2 10 6 <| tIf2 (fun x y => y ≤ x) (G 99) <| tAload 1 <| tGetI 2 10 4 <| tConst 1 <| tBin (fun x y => x + y) <| tIload 2 <| tBin (fun x y => x + y) <| tIstore 3 <| tIload 3 <| tAload 0 <| tGetR 7 18 16 <| tGetI 6 5 0 <| tIf2 (fun x y => y < x) (G 33) <| tGoto (G 93)
def w_X7_takeEntries_33 (M : CT) (G : Nat → PT) (Rp : RT) : PT := tIload 3 <| tAload 0 <| tGetI 7 18 7 <| tIf2 (fun x y => y < x) (G 73) <| tAload 0 <| tGetR 7 18 12 <| tIload 3 <| tAld 20 <| tCallS M jX0_termOf 1 <| tAload 1 <| tGetR 2 10 9 <| tIload 2 <| tAld 20 <| tCallS M jX0_termOf 1 <| tIf2 (fun x y => x = y) (G 73) <| tAload 0 <| tIload 3 <| tConst 1 <| tBin (fun x y => x - y) <| tPutI 7 18 7 <| tAload 0 <| tCallV M jX7_findMembers 7 18 0 <| G 73
def w_X7_takeEntries_73 (M : CT) (G : Nat → PT) (Rp : RT) : PT := tIload 3 <| tAload 0 <| tGetI 7 18 7 <| tConst 1 <| tBin (fun x y => x + y) <| tIf2 (fun x y => x ≠ y) (G 93) <| tAload 0 <| tAload 1 <| tGetR 2 10 9 <| tIload 2 <| tAld 20 <| tCallV M jX7_append 7 18 1 <| G 93
def w_X7_takeEntries_93 (M : CT) (G : Nat → PT) (Rp : RT) : PT := tIinc 2 1 <| tGoto (G 2)
def w_X7_takeEntries_99 (M : CT) (G : Nat → PT) (Rp : RT) : PT := tVret Rp
set_option maxRecDepth 20000 in
theorem b_X7_takeEntries_0 {Z : Zt} {d : Nat} {p : Program} {e : Env} {R : Room} {s : State} {m : MethodId} {args : Array Value} {below : List Frame} {meth : Method} {c : Code} {Rp : RT} (C : Cx Z d jX7_takeEntries RX7 p R s m args meth c) : Sd Z jX7_takeEntries p e R s m args below meth c (MQ below (QcS Z Rp) args s 0 0 (fun a => Z.2.2.1 < a)) 0 (w_X7_takeEntries_0 (MS Z d) (Gw Z 4 p e R s m args below meth c (MQ below (QcS Z Rp) args s 0 0 (fun a => Z.2.2.1 < a))) Rp) := by
  unfold w_X7_takeEntries_0
  refine s_iconst (n := 0) C (by decide +kernel) (by decide) ?_
  refine s_istore_n (k := 2) C (by decide +kernel) ?_
  exact (fun _ _ _ _ _ _ h => h)
set_option maxRecDepth 20000 in
theorem b_X7_takeEntries_2 {Z : Zt} {d : Nat} {p : Program} {e : Env} {R : Room} {s : State} {m : MethodId} {args : Array Value} {below : List Frame} {meth : Method} {c : Code} {Rp : RT} (C : Cx Z d jX7_takeEntries RX7 p R s m args meth c) : Sd Z jX7_takeEntries p e R s m args below meth c (MQ below (QcS Z Rp) args s 0 0 (fun a => Z.2.2.1 < a)) 2 (w_X7_takeEntries_2 (MS Z d) (Gw Z 4 p e R s m args below meth c (MQ below (QcS Z Rp) args s 0 0 (fun a => Z.2.2.1 < a))) Rp) := by
  unfold w_X7_takeEntries_2
  refine s_iload_n (k := 2) C (by decide +kernel) ?_
  refine s_aload_n (k := 1) C (by decide +kernel) ?_
  refine s_getI C w_1_83 (by decide +kernel) rfl ?_
  refine s_icmp_ge (off := 92) (tgt := 99) C (by decide +kernel) (by decide) (fun _ _ _ _ _ _ h => h) ?_
  refine s_aload_n (k := 1) C (by decide +kernel) ?_
  refine s_getI C w_1_73 (by decide +kernel) rfl ?_
  refine s_iconst (n := 1) C (by decide +kernel) (by decide) ?_
  refine s_iadd C (by decide +kernel) ?_
  refine s_iload_n (k := 2) C (by decide +kernel) ?_
  refine s_iadd C (by decide +kernel) ?_
  refine s_istore_n (k := 3) C (by decide +kernel) ?_
  refine s_iload_n (k := 3) C (by decide +kernel) ?_
  refine s_aload_n (k := 0) C (by decide +kernel) ?_
  refine s_getR C w_2_32 (by decide +kernel) rfl ?_
  refine s_getI C w_1_162 (by decide +kernel) rfl ?_
  refine s_icmp_gt (off := 6) (tgt := 33) C (by decide +kernel) (by decide) (fun _ _ _ _ _ _ h => h) ?_
  exact s_goto (off := 63) (tgt := 93) C (by decide +kernel) (by decide) (fun _ _ _ _ _ _ h => h)
set_option maxRecDepth 20000 in
theorem b_X7_takeEntries_33 {Z : Zt} {d : Nat} {p : Program} {e : Env} {R : Room} {s : State} {m : MethodId} {args : Array Value} {below : List Frame} {meth : Method} {c : Code} {Rp : RT} (C : Cx Z d jX7_takeEntries RX7 p R s m args meth c) : Sd Z jX7_takeEntries p e R s m args below meth c (MQ below (QcS Z Rp) args s 0 0 (fun a => Z.2.2.1 < a)) 33 (w_X7_takeEntries_33 (MS Z d) (Gw Z 4 p e R s m args below meth c (MQ below (QcS Z Rp) args s 0 0 (fun a => Z.2.2.1 < a))) Rp) := by
  unfold w_X7_takeEntries_33
  refine s_iload_n (k := 3) C (by decide +kernel) ?_
  refine s_aload_n (k := 0) C (by decide +kernel) ?_
  refine s_getI C w_2_2 (by decide +kernel) rfl ?_
  refine s_icmp_gt (off := 35) (tgt := 73) C (by decide +kernel) (by decide) (fun _ _ _ _ _ _ h => h) ?_
  refine s_aload_n (k := 0) C (by decide +kernel) ?_
  refine s_getR C w_2_20 (by decide +kernel) rfl ?_
  refine s_iload_n (k := 3) C (by decide +kernel) ?_
  refine s_iald C (by decide +kernel) ?_
  refine s_callS C (by decide +kernel) rfl w_4_103 w_3_175 w_1_9 w_3_176 (by decide +kernel) ?_
  refine s_aload_n (k := 1) C (by decide +kernel) ?_
  refine s_getR C w_1_94 (by decide +kernel) rfl ?_
  refine s_iload_n (k := 2) C (by decide +kernel) ?_
  refine s_iald C (by decide +kernel) ?_
  refine s_callS C (by decide +kernel) rfl w_4_103 w_3_175 w_1_9 w_3_176 (by decide +kernel) ?_
  refine s_icmp_eq (off := 14) (tgt := 73) C (by decide +kernel) (by decide) (fun _ _ _ _ _ _ h => h) ?_
  refine s_aload_n (k := 0) C (by decide +kernel) ?_
  refine s_iload_n (k := 3) C (by decide +kernel) ?_
  refine s_iconst (n := 1) C (by decide +kernel) (by decide) ?_
  refine s_isub C (by decide +kernel) ?_
  refine s_putI C w_2_2 (by decide +kernel) rfl (Or.inl rfl) ?_
  refine s_aload_n (k := 0) C (by decide +kernel) ?_
  refine s_callV C rfl rfl (by decide +kernel) rfl w_2_95 w_2_96 w_2_97 w_1_5 w_2_98 (by decide +kernel) ?_
  exact (fun _ _ _ _ _ _ h => h)
set_option maxRecDepth 20000 in
theorem b_X7_takeEntries_73 {Z : Zt} {d : Nat} {p : Program} {e : Env} {R : Room} {s : State} {m : MethodId} {args : Array Value} {below : List Frame} {meth : Method} {c : Code} {Rp : RT} (C : Cx Z d jX7_takeEntries RX7 p R s m args meth c) : Sd Z jX7_takeEntries p e R s m args below meth c (MQ below (QcS Z Rp) args s 0 0 (fun a => Z.2.2.1 < a)) 73 (w_X7_takeEntries_73 (MS Z d) (Gw Z 4 p e R s m args below meth c (MQ below (QcS Z Rp) args s 0 0 (fun a => Z.2.2.1 < a))) Rp) := by
  unfold w_X7_takeEntries_73
  refine s_iload_n (k := 3) C (by decide +kernel) ?_
  refine s_aload_n (k := 0) C (by decide +kernel) ?_
  refine s_getI C w_2_2 (by decide +kernel) rfl ?_
  refine s_iconst (n := 1) C (by decide +kernel) (by decide) ?_
  refine s_iadd C (by decide +kernel) ?_
  refine s_icmp_ne (off := 13) (tgt := 93) C (by decide +kernel) (by decide) (fun _ _ _ _ _ _ h => h) ?_
  refine s_aload_n (k := 0) C (by decide +kernel) ?_
  refine s_aload_n (k := 1) C (by decide +kernel) ?_
  refine s_getR C w_1_94 (by decide +kernel) rfl ?_
  refine s_iload_n (k := 2) C (by decide +kernel) ?_
  refine s_iald C (by decide +kernel) ?_
  refine s_callV C rfl rfl (by decide +kernel) rfl w_4_104 w_3_155 w_3_156 w_1_5 w_3_157 (by decide +kernel) ?_
  exact (fun _ _ _ _ _ _ h => h)
set_option maxRecDepth 20000 in
theorem b_X7_takeEntries_93 {Z : Zt} {d : Nat} {p : Program} {e : Env} {R : Room} {s : State} {m : MethodId} {args : Array Value} {below : List Frame} {meth : Method} {c : Code} {Rp : RT} (C : Cx Z d jX7_takeEntries RX7 p R s m args meth c) : Sd Z jX7_takeEntries p e R s m args below meth c (MQ below (QcS Z Rp) args s 0 0 (fun a => Z.2.2.1 < a)) 93 (w_X7_takeEntries_93 (MS Z d) (Gw Z 4 p e R s m args below meth c (MQ below (QcS Z Rp) args s 0 0 (fun a => Z.2.2.1 < a))) Rp) := by
  unfold w_X7_takeEntries_93
  refine s_iinc (n := 1) C (by decide +kernel) (by decide) ?_
  exact s_goto (off := (-94)) (tgt := 2) C (by decide +kernel) (by decide) (fun _ _ _ _ _ _ h => h)
set_option maxRecDepth 20000 in
theorem b_X7_takeEntries_99 {Z : Zt} {d : Nat} {p : Program} {e : Env} {R : Room} {s : State} {m : MethodId} {args : Array Value} {below : List Frame} {meth : Method} {c : Code} {Rp : RT} (C : Cx Z d jX7_takeEntries RX7 p R s m args meth c) : Sd Z jX7_takeEntries p e R s m args below meth c (MQ below (QcS Z Rp) args s 0 0 (fun a => Z.2.2.1 < a)) 99 (w_X7_takeEntries_99 (MS Z d) (Gw Z 4 p e R s m args below meth c (MQ below (QcS Z Rp) args s 0 0 (fun a => Z.2.2.1 < a))) Rp) := by
  unfold w_X7_takeEntries_99
  exact s_vret C rfl (by decide +kernel)
theorem ms_X7_takeEntries {Z : Zt} {d : Nat} {S : Sh} {μ : Mi} {ρ : Mr} {Rp : RT} (a0 : Nat) (a1 : Nat) (h : ∀ G : Nat → PT, (∀ (L st : List Value) (S : Sh) (q : Nat × Nat) (μ : Mi) (ρ : Mr), w_X7_takeEntries_2 (MS Z d) G Rp L st S q μ ρ → G 2 L st S q μ ρ) → (∀ (L st : List Value) (S : Sh) (q : Nat × Nat) (μ : Mi) (ρ : Mr), w_X7_takeEntries_33 (MS Z d) G Rp L st S q μ ρ → G 33 L st S q μ ρ) → (∀ (L st : List Value) (S : Sh) (q : Nat × Nat) (μ : Mi) (ρ : Mr), w_X7_takeEntries_73 (MS Z d) G Rp L st S q μ ρ → G 73 L st S q μ ρ) → (∀ (L st : List Value) (S : Sh) (q : Nat × Nat) (μ : Mi) (ρ : Mr), w_X7_takeEntries_93 (MS Z d) G Rp L st S q μ ρ → G 93 L st S q μ ρ) → (∀ (L st : List Value) (S : Sh) (q : Nat × Nat) (μ : Mi) (ρ : Mr), w_X7_takeEntries_99 (MS Z d) G Rp L st S q μ ρ → G 99 L st S q μ ρ) → w_X7_takeEntries_0 (MS Z d) G Rp [.ref a0, .ref a1, .null, .null] [] S (0, 0) μ ρ) : MS Z (d + 1) jX7_takeEntries [.ref a0, .ref a1] S μ ρ Rp :=
  MS_of [.ref a0, .ref a1, .null, .null] (by decide +kernel) rfl rfl (Nat.le_of_ble_eq_true rfl) rfl (fun p e R s m args below meth c C => b_X7_takeEntries_0 C _ _ _ _ _ _ (h _ (b_X7_takeEntries_2 C) (b_X7_takeEntries_33 C) (b_X7_takeEntries_73 C) (b_X7_takeEntries_93 C) (b_X7_takeEntries_99 C)))
def w_X7_answersRead_0 (M : CT) (G : Nat → PT) (Rp : RT) : PT := tAload 0 <| tGetR 7 18 17 <| tGetI 5 4 0 <| tConst 1 <| tIf2 (fun x y => x ≠ y) (G 19) <| tIload 2 <| tAload 0 <| tGetI 7 18 6 <| tIf2 (fun x y => y ≤ x) (G 21) <| G 19
def w_X7_answersRead_19 (M : CT) (G : Nat → PT) (Rp : RT) : PT := tConst 0 <| tZret Rp
def w_X7_answersRead_21 (M : CT) (G : Nat → PT) (Rp : RT) : PT := tAload 0 <| tGetR 7 18 17 <| tDup <| tGetI 5 4 3 <| tConst 1 <| tIload 1 <| tBin (fun x y => x <<< (y &&& 31)) <| tBin (fun x y => x ||| y) <| tPutI 5 4 3 <| tAload 0 <| tAload 0 <| tGetR 7 18 17 <| tGetI 5 4 3 <| tCallV M jX7_isMajority 7 18 1 <| tZret Rp
set_option maxRecDepth 20000 in
theorem b_X7_answersRead_0 {Z : Zt} {d : Nat} {p : Program} {e : Env} {R : Room} {s : State} {m : MethodId} {args : Array Value} {below : List Frame} {meth : Method} {c : Code} {Rp : RT} (C : Cx Z d jX7_answersRead RX7 p R s m args meth c) : Sd Z jX7_answersRead p e R s m args below meth c (MQ below (QcS Z Rp) args s 0 0 (fun a => Z.2.2.1 < a)) 0 (w_X7_answersRead_0 (MS Z d) (Gw Z 3 p e R s m args below meth c (MQ below (QcS Z Rp) args s 0 0 (fun a => Z.2.2.1 < a))) Rp) := by
  unfold w_X7_answersRead_0
  refine s_aload_n (k := 0) C (by decide +kernel) ?_
  refine s_getR C w_2_35 (by decide +kernel) rfl ?_
  refine s_getI C w_1_196 (by decide +kernel) rfl ?_
  refine s_iconst (n := 1) C (by decide +kernel) (by decide) ?_
  refine s_icmp_ne (off := 11) (tgt := 19) C (by decide +kernel) (by decide) (fun _ _ _ _ _ _ h => h) ?_
  refine s_iload_n (k := 2) C (by decide +kernel) ?_
  refine s_aload_n (k := 0) C (by decide +kernel) ?_
  refine s_getI C w_1_239 (by decide +kernel) rfl ?_
  refine s_icmp_ge (off := 5) (tgt := 21) C (by decide +kernel) (by decide) (fun _ _ _ _ _ _ h => h) ?_
  exact (fun _ _ _ _ _ _ h => h)
set_option maxRecDepth 20000 in
theorem b_X7_answersRead_19 {Z : Zt} {d : Nat} {p : Program} {e : Env} {R : Room} {s : State} {m : MethodId} {args : Array Value} {below : List Frame} {meth : Method} {c : Code} {Rp : RT} (C : Cx Z d jX7_answersRead RX7 p R s m args meth c) : Sd Z jX7_answersRead p e R s m args below meth c (MQ below (QcS Z Rp) args s 0 0 (fun a => Z.2.2.1 < a)) 19 (w_X7_answersRead_19 (MS Z d) (Gw Z 3 p e R s m args below meth c (MQ below (QcS Z Rp) args s 0 0 (fun a => Z.2.2.1 < a))) Rp) := by
  unfold w_X7_answersRead_19
  refine s_iconst (n := 0) C (by decide +kernel) (by decide) ?_
  exact s_zret C rfl (by decide +kernel)
set_option maxRecDepth 20000 in
theorem b_X7_answersRead_21 {Z : Zt} {d : Nat} {p : Program} {e : Env} {R : Room} {s : State} {m : MethodId} {args : Array Value} {below : List Frame} {meth : Method} {c : Code} {Rp : RT} (C : Cx Z d jX7_answersRead RX7 p R s m args meth c) : Sd Z jX7_answersRead p e R s m args below meth c (MQ below (QcS Z Rp) args s 0 0 (fun a => Z.2.2.1 < a)) 21 (w_X7_answersRead_21 (MS Z d) (Gw Z 3 p e R s m args below meth c (MQ below (QcS Z Rp) args s 0 0 (fun a => Z.2.2.1 < a))) Rp) := by
  unfold w_X7_answersRead_21
  refine s_aload_n (k := 0) C (by decide +kernel) ?_
  refine s_getR C w_2_35 (by decide +kernel) rfl ?_
  refine s_dup C (by decide +kernel) ?_
  refine s_getI C w_1_209 (by decide +kernel) rfl ?_
  refine s_iconst (n := 1) C (by decide +kernel) (by decide) ?_
  refine s_iload_n (k := 1) C (by decide +kernel) ?_
  refine s_ishl C (by decide +kernel) ?_
  refine s_ior C (by decide +kernel) ?_
  refine s_putI C w_1_209 (by decide +kernel) rfl (Or.inl rfl) ?_
  refine s_aload_n (k := 0) C (by decide +kernel) ?_
  refine s_aload_n (k := 0) C (by decide +kernel) ?_
  refine s_getR C w_2_35 (by decide +kernel) rfl ?_
  refine s_getI C w_1_209 (by decide +kernel) rfl ?_
  refine s_callV C rfl rfl (by decide +kernel) rfl w_4_113 w_3_134 w_3_135 w_1_5 w_3_136 (by decide +kernel) ?_
  exact s_zret C rfl (by decide +kernel)
theorem ms_X7_answersRead {Z : Zt} {d : Nat} {S : Sh} {μ : Mi} {ρ : Mr} {Rp : RT} (a0 : Nat) (x1 : Int32) (x2 : Int32) (h : ∀ G : Nat → PT, (∀ (L st : List Value) (S : Sh) (q : Nat × Nat) (μ : Mi) (ρ : Mr), w_X7_answersRead_19 (MS Z d) G Rp L st S q μ ρ → G 19 L st S q μ ρ) → (∀ (L st : List Value) (S : Sh) (q : Nat × Nat) (μ : Mi) (ρ : Mr), w_X7_answersRead_21 (MS Z d) G Rp L st S q μ ρ → G 21 L st S q μ ρ) → w_X7_answersRead_0 (MS Z d) G Rp [.ref a0, .int x1, .int x2] [] S (0, 0) μ ρ) : MS Z (d + 1) jX7_answersRead [.ref a0, .int x1, .int x2] S μ ρ Rp :=
  MS_of [.ref a0, .int x1, .int x2] (by decide +kernel) rfl rfl (Nat.le_of_ble_eq_true rfl) rfl (fun p e R s m args below meth c C => b_X7_answersRead_0 C _ _ _ _ _ _ (h _ (b_X7_answersRead_19 C) (b_X7_answersRead_21 C)))
def w_X7_answerRead_0 (M : CT) (G : Nat → PT) (Rp : RT) : PT := tAload 0 <| tGetR 7 18 17 <| tConst 2 <| tPutI 5 4 0 <| tAload 0 <| tGetR 7 18 17 <| tAload 0 <| tGetR 7 18 13 <| tAload 0 <| tGetR 7 18 17 <| tGetI 5 4 1 <| tAld 20 <| tPutI 5 4 2 <| tAload 0 <| tGetR 7 18 17 <| tConst 0 <| tPutI 5 4 3 <| tVret Rp
set_option maxRecDepth 20000 in
theorem b_X7_answerRead_0 {Z : Zt} {d : Nat} {p : Program} {e : Env} {R : Room} {s : State} {m : MethodId} {args : Array Value} {below : List Frame} {meth : Method} {c : Code} {Rp : RT} (C : Cx Z d jX7_answerRead RX7 p R s m args meth c) : Sd Z jX7_answerRead p e R s m args below meth c (MQ below (QcS Z Rp) args s 0 0 (fun a => Z.2.2.1 < a)) 0 (w_X7_answerRead_0 (MS Z d) (Gw Z 1 p e R s m args below meth c (MQ below (QcS Z Rp) args s 0 0 (fun a => Z.2.2.1 < a))) Rp) := by
  unfold w_X7_answerRead_0
  refine s_aload_n (k := 0) C (by decide +kernel) ?_
  refine s_getR C w_2_35 (by decide +kernel) rfl ?_
  refine s_iconst (n := 2) C (by decide +kernel) (by decide) ?_
  refine s_putI C w_1_196 (by decide +kernel) rfl (Or.inl rfl) ?_
  refine s_aload_n (k := 0) C (by decide +kernel) ?_
  refine s_getR C w_2_35 (by decide +kernel) rfl ?_
  refine s_aload_n (k := 0) C (by decide +kernel) ?_
  refine s_getR C w_2_23 (by decide +kernel) rfl ?_
  refine s_aload_n (k := 0) C (by decide +kernel) ?_
  refine s_getR C w_2_35 (by decide +kernel) rfl ?_
  refine s_getI C w_1_201 (by decide +kernel) rfl ?_
  refine s_iald C (by decide +kernel) ?_
  refine s_putI C w_1_205 (by decide +kernel) rfl (Or.inl rfl) ?_
  refine s_aload_n (k := 0) C (by decide +kernel) ?_
  refine s_getR C w_2_35 (by decide +kernel) rfl ?_
  refine s_iconst (n := 0) C (by decide +kernel) (by decide) ?_
  refine s_putI C w_1_209 (by decide +kernel) rfl (Or.inl rfl) ?_
  exact s_vret C rfl (by decide +kernel)
theorem ms_X7_answerRead {Z : Zt} {d : Nat} {S : Sh} {μ : Mi} {ρ : Mr} {Rp : RT} (a0 : Nat) (h : ∀ G : Nat → PT, w_X7_answerRead_0 (MS Z d) G Rp [.ref a0] [] S (0, 0) μ ρ) : MS Z (d + 1) jX7_answerRead [.ref a0] S μ ρ Rp :=
  MS_of [.ref a0] (by decide +kernel) rfl rfl (Nat.le_of_ble_eq_true rfl) rfl (fun p e R s m args below meth c C => b_X7_answerRead_0 C _ _ _ _ _ _ (h _ ))
