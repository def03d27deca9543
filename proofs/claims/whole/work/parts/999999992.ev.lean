/-! ===== what is made: small things ===== -/
def w_X2_init_0 (M : CT) (G : Nat → PT) (Rp : RT) : PT := tAload 0 <| tObjI <| tAload 0 <| tConst 6 <| tNewa 20 1 6 <| tPutR 2 10 9 <| tVret Rp
set_option maxRecDepth 20000 in
theorem b_X2_init_0 {Z : Zt} {d : Nat} {p : Program} {e : Env} {R : Room} {s : State} {m : MethodId} {args : Array Value} {below : List Frame} {meth : Method} {c : Code} {Rp : RT} (C : Cx Z d jX2_init RX2 p R s m args meth c) : Sd Z jX2_init p e R s m args below meth c (MQ below (QcS Z Rp) args s 1 6 (fun a => Z.2.2.1 < a)) 0 (w_X2_init_0 (MS Z d) (Gw Z 1 p e R s m args below meth c (MQ below (QcS Z Rp) args s 1 6 (fun a => Z.2.2.1 < a))) Rp) := by
  unfold w_X2_init_0
  refine s_aload_n (k := 0) C (by decide +kernel) ?_
  refine s_objI C w_1_50 w_1_28 w_1_29 (by decide +kernel) ?_
  refine s_aload_n (k := 0) C (by decide +kernel) ?_
  refine s_bipush (n := 6) C (by decide +kernel) (by decide) ?_
  refine s_newa (aty := .int) C rfl w_1_117 (fun _ _ h => h) (by decide +kernel) ?_
  refine s_putR C w_1_93 (by decide +kernel) rfl (Or.inr ⟨rfl, rfl, rfl⟩) ?_
  exact s_vret C rfl (by decide +kernel)
theorem ms_X2_init {Z : Zt} {d : Nat} {S : Sh} {μ : Mi} {ρ : Mr} {Rp : RT} (a0 : Nat) (h : ∀ G : Nat → PT, w_X2_init_0 (MS Z d) G Rp [.ref a0] [] S (0, 0) μ ρ) : MS Z (d + 1) jX2_init [.ref a0] S μ ρ Rp :=
  MS_of [.ref a0] (by decide +kernel) rfl rfl (Nat.le_of_ble_eq_true rfl) rfl (fun p e R s m args below meth c C => b_X2_init_0 C _ _ _ _ _ _ (h _ ))
def w_X6_init_0 (M : CT) (G : Nat → PT) (Rp : RT) : PT := tAload 0 <| tObjI <| tAload 0 <| tConst 4 <| tNewa 20 1 4 <| tPutR 6 5 4 <| tVret Rp
set_option maxRecDepth 20000 in
theorem b_X6_init_0 {Z : Zt} {d : Nat} {p : Program} {e : Env} {R : Room} {s : State} {m : MethodId} {args : Array Value} {below : List Frame} {meth : Method} {c : Code} {Rp : RT} (C : Cx Z d jX6_init RX6 p R s m args meth c) : Sd Z jX6_init p e R s m args below meth c (MQ below (QcS Z Rp) args s 1 4 (fun a => Z.2.2.1 < a)) 0 (w_X6_init_0 (MS Z d) (Gw Z 1 p e R s m args below meth c (MQ below (QcS Z Rp) args s 1 4 (fun a => Z.2.2.1 < a))) Rp) := by
  unfold w_X6_init_0
  refine s_aload_n (k := 0) C (by decide +kernel) ?_
  refine s_objI C w_1_159 w_1_28 w_1_29 (by decide +kernel) ?_
  refine s_aload_n (k := 0) C (by decide +kernel) ?_
  refine s_iconst (n := 4) C (by decide +kernel) (by decide) ?_
  refine s_newa (aty := .int) C rfl w_1_117 (fun _ _ h => h) (by decide +kernel) ?_
  refine s_putR C w_1_174 (by decide +kernel) rfl (Or.inr ⟨rfl, rfl, rfl⟩) ?_
  exact s_vret C rfl (by decide +kernel)
theorem ms_X6_init {Z : Zt} {d : Nat} {S : Sh} {μ : Mi} {ρ : Mr} {Rp : RT} (a0 : Nat) (h : ∀ G : Nat → PT, w_X6_init_0 (MS Z d) G Rp [.ref a0] [] S (0, 0) μ ρ) : MS Z (d + 1) jX6_init [.ref a0] S μ ρ Rp :=
  MS_of [.ref a0] (by decide +kernel) rfl rfl (Nat.le_of_ble_eq_true rfl) rfl (fun p e R s m args below meth c C => b_X6_init_0 C _ _ _ _ _ _ (h _ ))
def w_X5_init_0 (M : CT) (G : Nat → PT) (Rp : RT) : PT := tAload 0 <| tObjI <| tVret Rp
set_option maxRecDepth 20000 in
theorem b_X5_init_0 {Z : Zt} {d : Nat} {p : Program} {e : Env} {R : Room} {s : State} {m : MethodId} {args : Array Value} {below : List Frame} {meth : Method} {c : Code} {Rp : RT} (C : Cx Z d jX5_init RX5 p R s m args meth c) : Sd Z jX5_init p e R s m args below meth c (MQ below (QcS Z Rp) args s 0 0 (fun a => Z.2.2.1 < a)) 0 (w_X5_init_0 (MS Z d) (Gw Z 1 p e R s m args below meth c (MQ below (QcS Z Rp) args s 0 0 (fun a => Z.2.2.1 < a))) Rp) := by
  unfold w_X5_init_0
  refine s_aload_n (k := 0) C (by decide +kernel) ?_
  refine s_objI C w_1_193 w_1_28 w_1_29 (by decide +kernel) ?_
  exact s_vret C rfl (by decide +kernel)
theorem ms_X5_init {Z : Zt} {d : Nat} {S : Sh} {μ : Mi} {ρ : Mr} {Rp : RT} (a0 : Nat) (h : ∀ G : Nat → PT, w_X5_init_0 (MS Z d) G Rp [.ref a0] [] S (0, 0) μ ρ) : MS Z (d + 1) jX5_init [.ref a0] S μ ρ Rp :=
  MS_of [.ref a0] (by decide +kernel) rfl rfl (Nat.le_of_ble_eq_true rfl) rfl (fun p e R s m args below meth c C => b_X5_init_0 C _ _ _ _ _ _ (h _ ))
def w_X7_init_0 (M : CT) (G : Nat → PT) (Rp : RT) : PT := tAload 0 <| tObjI <| tAload 0 <| tConst 121 <| tNewa 20 7 148 <| tPutR 7 18 12 <| tAload 0 <| tConst 4 <| tNewa 20 7 148 <| tPutR 7 18 13 <| tAload 0 <| tConst 5 <| tNewa 20 7 148 <| tPutR 7 18 14 <| tAload 0 <| tConst 5 <| tNewa 20 7 148 <| tPutR 7 18 15 <| tAload 0 <| tNew 6 5 7 148 <| tDup <| tCallI M jX6_init 0 7 148 <| tPutR 7 18 16 <| tAload 0 <| tNew 5 4 7 148 <| tDup <| tCallI M jX5_init 0 7 148 <| tPutR 7 18 17 <| tAload 0 <| tIload 1 <| tPutI 7 18 0 <| tVret Rp
set_option maxRecDepth 20000 in
theorem b_X7_init_0 {Z : Zt} {d : Nat} {p : Program} {e : Env} {R : Room} {s : State} {m : MethodId} {args : Array Value} {below : List Frame} {meth : Method} {c : Code} {Rp : RT} (C : Cx Z (d + 1) jX7_init RX7 p R s m args meth c) : Sd Z jX7_init p e R s m args below meth c (MQ below (QcS Z Rp) args s 7 148 (fun a => Z.2.2.1 < a)) 0 (w_X7_init_0 (MS Z (d + 1)) (Gw Z 2 p e R s m args below meth c (MQ below (QcS Z Rp) args s 7 148 (fun a => Z.2.2.1 < a))) Rp) := by
  unfold w_X7_init_0
  refine s_aload_n (k := 0) C (by decide +kernel) ?_
  refine s_objI C w_1_153 w_1_28 w_1_29 (by decide +kernel) ?_
  refine s_aload_n (k := 0) C (by decide +kernel) ?_
  refine s_bipush (n := 121) C (by decide +kernel) (by decide) ?_
  refine s_newa (aty := .int) C rfl w_1_117 (fun _ _ h => h) (by decide +kernel) ?_
  refine s_putR C w_2_20 (by decide +kernel) rfl (Or.inr ⟨rfl, rfl, rfl⟩) ?_
  refine s_aload_n (k := 0) C (by decide +kernel) ?_
  refine s_iconst (n := 4) C (by decide +kernel) (by decide) ?_
  refine s_newa (aty := .int) C rfl w_1_117 (fun _ _ h => h) (by decide +kernel) ?_
  refine s_putR C w_2_23 (by decide +kernel) rfl (Or.inr ⟨rfl, rfl, rfl⟩) ?_
  refine s_aload_n (k := 0) C (by decide +kernel) ?_
  refine s_iconst (n := 5) C (by decide +kernel) (by decide) ?_
  refine s_newa (aty := .int) C rfl w_1_117 (fun _ _ h => h) (by decide +kernel) ?_
  refine s_putR C w_2_26 (by decide +kernel) rfl (Or.inr ⟨rfl, rfl, rfl⟩) ?_
  refine s_aload_n (k := 0) C (by decide +kernel) ?_
  refine s_iconst (n := 5) C (by decide +kernel) (by decide) ?_
  refine s_newa (aty := .int) C rfl w_1_117 (fun _ _ h => h) (by decide +kernel) ?_
  refine s_putR C w_2_29 (by decide +kernel) rfl (Or.inr ⟨rfl, rfl, rfl⟩) ?_
  refine s_aload_n (k := 0) C (by decide +kernel) ?_
  refine s_new C rfl w_1_154 w_1_155 w_1_6 (by decide +kernel) ?_
  refine s_dup C (by decide +kernel) ?_
  refine s_callIN C (by decide +kernel) ⟨rfl, rfl⟩ w_1_156 w_1_157 w_1_6 w_1_158 (by decide +kernel) ?_
  refine s_putR C w_2_32 (by decide +kernel) rfl (Or.inr ⟨rfl, rfl, rfl⟩) ?_
  refine s_aload_n (k := 0) C (by decide +kernel) ?_
  refine s_new C rfl w_1_188 w_1_189 w_1_7 (by decide +kernel) ?_
  refine s_dup C (by decide +kernel) ?_
  refine s_callIN C (by decide +kernel) ⟨rfl, rfl⟩ w_1_190 w_1_191 w_1_7 w_1_192 (by decide +kernel) ?_
  refine s_putR C w_2_35 (by decide +kernel) rfl (Or.inr ⟨rfl, rfl, rfl⟩) ?_
  refine s_aload_n (k := 0) C (by decide +kernel) ?_
  refine s_iload_n (k := 1) C (by decide +kernel) ?_
  refine s_putI C w_1_219 (by decide +kernel) rfl (Or.inr ⟨rfl, rfl, rfl⟩) ?_
  exact s_vret C rfl (by decide +kernel)
theorem ms_X7_init {Z : Zt} {d : Nat} {S : Sh} {μ : Mi} {ρ : Mr} {Rp : RT} (a0 : Nat) (x1 : Int32) (h : ∀ G : Nat → PT, w_X7_init_0 (MS Z (d + 1)) G Rp [.ref a0, .int x1] [] S (0, 0) μ ρ) : MS Z (d + 2) jX7_init [.ref a0, .int x1] S μ ρ Rp :=
  MS_of [.ref a0, .int x1] (by decide +kernel) rfl rfl (Nat.le_of_ble_eq_true rfl) rfl (fun p e R s m args below meth c C => b_X7_init_0 C _ _ _ _ _ _ (h _ ))
def w_X4_init_0 (M : CT) (G : Nat → PT) (Rp : RT) : PT := tAload 0 <| tObjI <| tAload 0 <| tConst 300 <| tNewa 20 7 1506 <| tPutR 4 10 0 <| tAload 0 <| tConst 300 <| tNewa 20 7 1506 <| tPutR 4 10 1 <| tAload 0 <| tConst 300 <| tNewa 20 7 1506 <| tPutR 4 10 2 <| tAload 0 <| tConst 300 <| tNewa 20 7 1506 <| tPutR 4 10 3 <| tAload 0 <| tConst 300 <| tNewa 20 7 1506 <| tPutR 4 10 4 <| tAload 0 <| tConst 3 <| tNewa 20 7 1506 <| tPutR 4 10 5 <| tAload 0 <| tConst 3 <| tNewa 20 7 1506 <| tPutR 4 10 6 <| tAload 0 <| tConst 0 <| tPutI 4 10 7 <| tAload 0 <| tConst 0 <| tPutI 4 10 8 <| tAload 0 <| tConst 0 <| tPutI 4 10 9 <| tVret Rp
set_option maxRecDepth 20000 in
theorem b_X4_init_0 {Z : Zt} {d : Nat} {p : Program} {e : Env} {R : Room} {s : State} {m : MethodId} {args : Array Value} {below : List Frame} {meth : Method} {c : Code} {Rp : RT} (C : Cx Z d jX4_init RX4 p R s m args meth c) : Sd Z jX4_init p e R s m args below meth c (MQ below (QcS Z Rp) args s 7 1506 (fun a => Z.2.2.1 < a)) 0 (w_X4_init_0 (MS Z d) (Gw Z 1 p e R s m args below meth c (MQ below (QcS Z Rp) args s 7 1506 (fun a => Z.2.2.1 < a))) Rp) := by
  unfold w_X4_init_0
  refine s_aload_n (k := 0) C (by decide +kernel) ?_
  refine s_objI C w_2_195 w_1_28 w_1_29 (by decide +kernel) ?_
  refine s_aload_n (k := 0) C (by decide +kernel) ?_
  refine s_sipush (n := 300) C (by decide +kernel) (by decide) ?_
  refine s_newa (aty := .int) C rfl w_1_117 (fun _ _ h => h) (by decide +kernel) ?_
  refine s_putR C w_2_196 (by decide +kernel) rfl (Or.inr ⟨rfl, rfl, rfl⟩) ?_
  refine s_aload_n (k := 0) C (by decide +kernel) ?_
  refine s_sipush (n := 300) C (by decide +kernel) (by decide) ?_
  refine s_newa (aty := .int) C rfl w_1_117 (fun _ _ h => h) (by decide +kernel) ?_
  refine s_putR C w_2_198 (by decide +kernel) rfl (Or.inr ⟨rfl, rfl, rfl⟩) ?_
  refine s_aload_n (k := 0) C (by decide +kernel) ?_
  refine s_sipush (n := 300) C (by decide +kernel) (by decide) ?_
  refine s_newa (aty := .int) C rfl w_1_117 (fun _ _ h => h) (by decide +kernel) ?_
  refine s_putR C w_2_200 (by decide +kernel) rfl (Or.inr ⟨rfl, rfl, rfl⟩) ?_
  refine s_aload_n (k := 0) C (by decide +kernel) ?_
  refine s_sipush (n := 300) C (by decide +kernel) (by decide) ?_
  refine s_newa (aty := .int) C rfl w_1_117 (fun _ _ h => h) (by decide +kernel) ?_
  refine s_putR C w_2_202 (by decide +kernel) rfl (Or.inr ⟨rfl, rfl, rfl⟩) ?_
  refine s_aload_n (k := 0) C (by decide +kernel) ?_
  refine s_sipush (n := 300) C (by decide +kernel) (by decide) ?_
  refine s_newa (aty := .int) C rfl w_1_117 (fun _ _ h => h) (by decide +kernel) ?_
  refine s_putR C w_2_204 (by decide +kernel) rfl (Or.inr ⟨rfl, rfl, rfl⟩) ?_
  refine s_aload_n (k := 0) C (by decide +kernel) ?_
  refine s_iconst (n := 3) C (by decide +kernel) (by decide) ?_
  refine s_newa (aty := .int) C rfl w_1_117 (fun _ _ h => h) (by decide +kernel) ?_
  refine s_putR C w_2_206 (by decide +kernel) rfl (Or.inr ⟨rfl, rfl, rfl⟩) ?_
  refine s_aload_n (k := 0) C (by decide +kernel) ?_
  refine s_iconst (n := 3) C (by decide +kernel) (by decide) ?_
  refine s_newa (aty := .int) C rfl w_1_117 (fun _ _ h => h) (by decide +kernel) ?_
  refine s_putR C w_2_207 (by decide +kernel) rfl (Or.inr ⟨rfl, rfl, rfl⟩) ?_
  refine s_aload_n (k := 0) C (by decide +kernel) ?_
  refine s_iconst (n := 0) C (by decide +kernel) (by decide) ?_
  refine s_putI C w_2_208 (by decide +kernel) rfl (Or.inl rfl) ?_
  refine s_aload_n (k := 0) C (by decide +kernel) ?_
  refine s_iconst (n := 0) C (by decide +kernel) (by decide) ?_
  refine s_putI C w_2_209 (by decide +kernel) rfl (Or.inl rfl) ?_
  refine s_aload_n (k := 0) C (by decide +kernel) ?_
  refine s_iconst (n := 0) C (by decide +kernel) (by decide) ?_
  refine s_putI C w_2_211 (by decide +kernel) rfl (Or.inl rfl) ?_
  exact s_vret C rfl (by decide +kernel)
theorem ms_X4_init {Z : Zt} {d : Nat} {S : Sh} {μ : Mi} {ρ : Mr} {Rp : RT} (a0 : Nat) (h : ∀ G : Nat → PT, w_X4_init_0 (MS Z d) G Rp [.ref a0] [] S (0, 0) μ ρ) : MS Z (d + 1) jX4_init [.ref a0] S μ ρ Rp :=
  MS_of [.ref a0] (by decide +kernel) rfl rfl (Nat.le_of_ble_eq_true rfl) rfl (fun p e R s m args below meth c C => b_X4_init_0 C _ _ _ _ _ _ (h _ ))
def w_X9_init_0 (M : CT) (G : Nat → PT) (Rp : RT) : PT := tAload 0 <| tObjI <| tAload 0 <| tConst 300 <| tNewa 20 2 303 <| tPutR 9 7 0 <| tAload 0 <| tConst 3 <| tNewa 20 2 303 <| tPutR 9 7 1 <| tAload 0 <| tConst 0 <| tPutI 9 7 2 <| tAload 0 <| tConst 0 <| tPutI 9 7 3 <| tAload 0 <| tConst (-1) <| tPutI 9 7 4 <| tAload 0 <| tConst 0 <| tPutI 9 7 5 <| tAload 0 <| tConst 0 <| tPutI 9 7 6 <| tVret Rp
set_option maxRecDepth 20000 in
theorem b_X9_init_0 {Z : Zt} {d : Nat} {p : Program} {e : Env} {R : Room} {s : State} {m : MethodId} {args : Array Value} {below : List Frame} {meth : Method} {c : Code} {Rp : RT} (C : Cx Z d jX9_init RX9 p R s m args meth c) : Sd Z jX9_init p e R s m args below meth c (MQ below (QcS Z Rp) args s 2 303 (fun a => Z.2.2.1 < a)) 0 (w_X9_init_0 (MS Z d) (Gw Z 1 p e R s m args below meth c (MQ below (QcS Z Rp) args s 2 303 (fun a => Z.2.2.1 < a))) Rp) := by
  unfold w_X9_init_0
  refine s_aload_n (k := 0) C (by decide +kernel) ?_
  refine s_objI C w_2_164 w_1_28 w_1_29 (by decide +kernel) ?_
  refine s_aload_n (k := 0) C (by decide +kernel) ?_
  refine s_sipush (n := 300) C (by decide +kernel) (by decide) ?_
  refine s_newa (aty := .int) C rfl w_1_117 (fun _ _ h => h) (by decide +kernel) ?_
  refine s_putR C w_2_165 (by decide +kernel) rfl (Or.inr ⟨rfl, rfl, rfl⟩) ?_
  refine s_aload_n (k := 0) C (by decide +kernel) ?_
  refine s_iconst (n := 3) C (by decide +kernel) (by decide) ?_
  refine s_newa (aty := .int) C rfl w_1_117 (fun _ _ h => h) (by decide +kernel) ?_
  refine s_putR C w_2_166 (by decide +kernel) rfl (Or.inr ⟨rfl, rfl, rfl⟩) ?_
  refine s_aload_n (k := 0) C (by decide +kernel) ?_
  refine s_iconst (n := 0) C (by decide +kernel) (by decide) ?_
  refine s_putI C w_2_167 (by decide +kernel) rfl (Or.inl rfl) ?_
  refine s_aload_n (k := 0) C (by decide +kernel) ?_
  refine s_iconst (n := 0) C (by decide +kernel) (by decide) ?_
  refine s_putI C w_2_169 (by decide +kernel) rfl (Or.inl rfl) ?_
  refine s_aload_n (k := 0) C (by decide +kernel) ?_
  refine s_iconst (n := (-1)) C (by decide +kernel) (by decide) ?_
  refine s_putI C w_2_171 (by decide +kernel) rfl (Or.inl rfl) ?_
  refine s_aload_n (k := 0) C (by decide +kernel) ?_
  refine s_iconst (n := 0) C (by decide +kernel) (by decide) ?_
  refine s_putI C w_2_173 (by decide +kernel) rfl (Or.inl rfl) ?_
  refine s_aload_n (k := 0) C (by decide +kernel) ?_
  refine s_iconst (n := 0) C (by decide +kernel) (by decide) ?_
  refine s_putI C w_2_174 (by decide +kernel) rfl (Or.inl rfl) ?_
  exact s_vret C rfl (by decide +kernel)
theorem ms_X9_init {Z : Zt} {d : Nat} {S : Sh} {μ : Mi} {ρ : Mr} {Rp : RT} (a0 : Nat) (h : ∀ G : Nat → PT, w_X9_init_0 (MS Z d) G Rp [.ref a0] [] S (0, 0) μ ρ) : MS Z (d + 1) jX9_init [.ref a0] S μ ρ Rp :=
  MS_of [.ref a0] (by decide +kernel) rfl rfl (Nat.le_of_ble_eq_true rfl) rfl (fun p e R s m args below meth c C => b_X9_init_0 C _ _ _ _ _ _ (h _ ))
section Mk
variable {Z : Zt} {d : Nat} {S : Sh} {μ : Mi} {ρ : Mr} {Rp : RT}
theorem nzA {x : Nat} (h : 1 ≤ x) : ¬ x = 0 := by omega
theorem upK_at {K : Nat → Nat × Nat} {a : Nat} {x : Nat × Nat} : upK K a x a = x := by simp [upK]
theorem upK_ne {K : Nat → Nat × Nat} {a b : Nat} {x : Nat × Nat} (h : b ≠ a) : upK K a x b = K b := by simp [upK, h]
theorem upR_at {ρ : Mr} {a k x : Nat} : upR ρ a k x a k = x := by simp [upR]
theorem upR_k {ρ : Mr} {a k x i : Nat} (h : i ≠ k) : upR ρ a k x a i = ρ a i := by simp [upR, h]
theorem upFr_ne {ρ : Mr} {a b : Nat} {f : Nat → Nat} (h : b ≠ a) : upF ρ a f b = ρ b := by simp [upF, h]
/-- the heap has grown by N, and only what is at a changed below -/
def Grw (N a : Nat) (S : Sh) (μ : Mi) (ρ : Mr) (S' : Sh) (μ' : Mi) (ρ' : Mr) : Prop := S'.1 = S.1 + N ∧ (∀ y, y < S.1 → S'.2 y = S.2 y) ∧ (∀ y, y < S.1 → y ≠ a → μ' y = μ y) ∧ ∀ y, y < S.1 → y ≠ a → ρ' y = ρ y
theorem f_X2_init {a : Nat} (h1 : S.1 = a + 1) (hS : S.2 a = (2, 10)) (h : ∀ S' μ' ρ', Grw 1 a S μ ρ S' μ' ρ' → S'.2 (a + 1) = (20, 6) → ρ' a 9 = a + 1 → Rp none S' μ' ρ') : MS Z (d + 1) jX2_init [.ref a] S μ ρ Rp := by
  refine ms_X2_init _ (fun G => ?_)
  simp only [w_X2_init_0, tAload, tIload, nth, tGetI, tGetR, tConst, tLconst, tBin, tUn, tI2l, tAld, tAldR, tAlen, tIast, tBast, tZast, tAast, tIret, tZret, tVret, tAret, tIf, tIf2, tGoto, tIstore, tAstore, sset, tIinc, tDup, tDup2, tPop, tPutI, tPutZ, tPutR, tCallV, tCallS, popN, tFn, tCopy, tMax, tMin, tSw, swc, tRem, tObjI, Option.toList, List.nil_append, List.cons_append, okR, true_and, and_true, true_or, or_true, Nat.zero_le, ne_eq, not_false_eq_true, Nat.reduceEqDiff, tNew, tNewa, tAnew, tCallI, cl_6]
  refine ⟨by decide, by decide, by decide, by decide, by rw [upK_ne (by omega)]; exact hS, nzA (by omega), h _ _ _ ⟨rfl, fun y hy => upK_ne (by omega), fun y hy hya => upF_ne (by omega), fun y hy hya => by rw [upR_ne hya, upFr_ne (by omega)]⟩ ?_ ?_⟩
  · rw [← h1]; exact upK_at
  · rw [upR_at, h1]
theorem f_X6_init {a : Nat} (h1 : S.1 = a + 1) (hS : S.2 a = (6, 5)) (h : ∀ S' μ' ρ', Grw 1 a S μ ρ S' μ' ρ' → S'.2 (a + 1) = (20, 4) → ρ' a 4 = a + 1 → Rp none S' μ' ρ') : MS Z (d + 1) jX6_init [.ref a] S μ ρ Rp := by
  refine ms_X6_init _ (fun G => ?_)
  simp only [w_X6_init_0, tAload, tIload, nth, tGetI, tGetR, tConst, tLconst, tBin, tUn, tI2l, tAld, tAldR, tAlen, tIast, tBast, tZast, tAast, tIret, tZret, tVret, tAret, tIf, tIf2, tGoto, tIstore, tAstore, sset, tIinc, tDup, tDup2, tPop, tPutI, tPutZ, tPutR, tCallV, tCallS, popN, tFn, tCopy, tMax, tMin, tSw, swc, tRem, tObjI, Option.toList, List.nil_append, List.cons_append, okR, true_and, and_true, true_or, or_true, Nat.zero_le, ne_eq, not_false_eq_true, Nat.reduceEqDiff, tNew, tNewa, tAnew, tCallI, show Int32.toNatClampNeg 4 = 4 from by decide]
  refine ⟨by decide, by decide, by decide, by decide, by rw [upK_ne (by omega)]; exact hS, nzA (by omega), h _ _ _ ⟨rfl, fun y hy => upK_ne (by omega), fun y hy hya => upF_ne (by omega), fun y hy hya => by rw [upR_ne hya, upFr_ne (by omega)]⟩ ?_ ?_⟩
  · rw [← h1]; exact upK_at
  · rw [upR_at, h1]
theorem f_X5_init {a : Nat} (h : Rp none S μ ρ) : MS Z (d + 1) jX5_init [.ref a] S μ ρ Rp := by
  refine ms_X5_init _ (fun G => ?_)
  simp only [w_X5_init_0, tAload, tIload, nth, tGetI, tGetR, tConst, tLconst, tBin, tUn, tI2l, tAld, tAldR, tAlen, tIast, tBast, tZast, tAast, tIret, tZret, tVret, tAret, tIf, tIf2, tGoto, tIstore, tAstore, sset, tIinc, tDup, tDup2, tPop, tPutI, tPutZ, tPutR, tCallV, tCallS, popN, tFn, tCopy, tMax, tMin, tSw, swc, tRem, tObjI, Option.toList, List.nil_append, List.cons_append, okR, true_and, and_true, true_or, or_true, Nat.zero_le, ne_eq, not_false_eq_true, Nat.reduceEqDiff]
  exact h
theorem f_X7_init {a : Nat} {x : Int32} (h1 : S.1 = a + 1) (hS : S.2 a = (7, 18)) (h : ∀ S' μ' ρ', Grw 7 a S μ ρ S' μ' ρ' → StS S' ρ' a → μ' a 0 = x → Rp none S' μ' ρ') : MS Z (d + 2) jX7_init [.ref a, .int x] S μ ρ Rp := by
  obtain ⟨n, K⟩ := S
  dsimp only at h1 hS
  subst h1
  refine ms_X7_init _ _ (fun G => ?_)
  simp only [w_X7_init_0, tAload, tIload, nth, tGetI, tGetR, tConst, tLconst, tBin, tUn, tI2l, tAld, tAldR, tAlen, tIast, tBast, tZast, tAast, tIret, tZret, tVret, tAret, tIf, tIf2, tGoto, tIstore, tAstore, sset, tIinc, tDup, tDup2, tPop, tPutI, tPutZ, tPutR, tCallV, tCallS, popN, tFn, tCopy, tMax, tMin, tSw, swc, tRem, tObjI, Option.toList, List.nil_append, List.cons_append, okR, true_and, and_true, true_or, or_true, Nat.zero_le, ne_eq, not_false_eq_true, Nat.reduceEqDiff, tNew, tNewa, tAnew, tCallI, show Int32.toNatClampNeg 121 = 121 from by decide, show Int32.toNatClampNeg 4 = 4 from by decide, show Int32.toNatClampNeg 5 = 5 from by decide]
  refine ⟨by decide, by decide, by decide, by decide, by rw [upK_ne (by omega)]; exact hS, by decide, by decide, by decide, by decide, by rw [upK_ne (by omega), upK_ne (by omega)]; exact hS, by decide, by decide, by decide, by decide, by rw [upK_ne (by omega), upK_ne (by omega), upK_ne (by omega)]; exact hS, by decide, by decide, by decide, by decide, by rw [upK_ne (by omega), upK_ne (by omega), upK_ne (by omega), upK_ne (by omega)]; exact hS, by decide, by decide, by decide, by decide, ?_⟩
  generalize hμ5 : upF (upF (upF (upF (upF μ (a + 1) fun x => 0) (a + 1 + 1) fun x => 0) (a + 1 + 1 + 1) fun x => 0) (a + 1 + 1 + 1 + 1) fun x => 0) (a + 1 + 1 + 1 + 1 + 1) (fun x => (0 : Int32)) = μ5
  generalize hK5 : upK (upK (upK (upK (upK K (a + 1) (20, 121)) (a + 1 + 1) (20, 4)) (a + 1 + 1 + 1) (20, 5)) (a + 1 + 1 + 1 + 1) (20, 5)) (a + 1 + 1 + 1 + 1 + 1) (6, 5) = K5
  generalize hρ5 : upF (upR (upF (upR (upF (upR (upF (upR (upF ρ (a + 1) fun x => 0) a 12 (a + 1)) (a + 1 + 1) fun x => 0) a 13 (a + 1 + 1)) (a + 1 + 1 + 1) fun x => 0) a 14 (a + 1 + 1 + 1)) (a + 1 + 1 + 1 + 1) fun x => 0) a 15 (a + 1 + 1 + 1 + 1)) (a + 1 + 1 + 1 + 1 + 1) (fun x => (0 : Nat)) = ρ5
  have ka : K5 a = (7, 18) := by rw [← hK5, upK_ne (by omega), upK_ne (by omega), upK_ne (by omega), upK_ne (by omega), upK_ne (by omega)]; exact hS
  have klo : ∀ y, y < a + 1 → K5 y = K y := fun y hy => by rw [← hK5, upK_ne (by omega), upK_ne (by omega), upK_ne (by omega), upK_ne (by omega), upK_ne (by omega)]
  have mlo : ∀ y, y < a + 1 → y ≠ a → μ5 y = μ y := fun y hy _ => by rw [← hμ5, upF_ne (by omega), upF_ne (by omega), upF_ne (by omega), upF_ne (by omega), upF_ne (by omega)]
  have rlo : ∀ y, y < a + 1 → y ≠ a → ρ5 y = ρ y := fun y hy hya => by rw [← hρ5, upFr_ne (by omega), upR_ne hya, upFr_ne (by omega), upR_ne hya, upFr_ne (by omega), upR_ne hya, upFr_ne (by omega), upR_ne hya, upFr_ne (by omega)]
  have k1 : K5 (a + 1) = (20, 121) ∧ K5 (a + 2) = (20, 4) ∧ K5 (a + 3) = (20, 5) ∧ K5 (a + 4) = (20, 5) ∧ K5 (a + 5) = (6, 5) := by
    rw [← hK5]
    refine ⟨?_, ?_, ?_, ?_, ?_⟩ <;> simp [upK]
  have r1 : ρ5 a 12 = a + 1 ∧ ρ5 a 13 = a + 2 ∧ ρ5 a 14 = a + 3 ∧ ρ5 a 15 = a + 4 := by
    rw [← hρ5]
    refine ⟨?_, ?_, ?_, ?_⟩
    · rw [upFr_ne (by omega), upR_k (by omega), upFr_ne (by omega), upR_k (by omega), upFr_ne (by omega), upR_k (by omega), upFr_ne (by omega), upR_at]
    · rw [upFr_ne (by omega), upR_k (by omega), upFr_ne (by omega), upR_k (by omega), upFr_ne (by omega), upR_at]
    · rw [upFr_ne (by omega), upR_k (by omega), upFr_ne (by omega), upR_at]
    · rw [upFr_ne (by omega), upR_at]
  refine f_X6_init rfl k1.2.2.2.2 (fun S' μ' ρ' g e1 e2 => ?_)
  obtain ⟨g1, g2, g3, g4⟩ := g
  dsimp only at g1 g2 g3 g4
  have sa : S'.2 a = (7, 18) := (g2 a (by omega)).trans ka
  simp only [tAload, tIload, nth, tGetI, tGetR, tConst, tLconst, tBin, tUn, tI2l, tAld, tAldR, tAlen, tIast, tBast, tZast, tAast, tIret, tZret, tVret, tAret, tIf, tIf2, tGoto, tIstore, tAstore, sset, tIinc, tDup, tDup2, tPop, tPutI, tPutZ, tPutR, tCallV, tCallS, popN, tFn, tCopy, tMax, tMin, tSw, swc, tRem, tObjI, Option.toList, List.nil_append, List.cons_append, okR, true_and, and_true, true_or, or_true, Nat.zero_le, ne_eq, not_false_eq_true, Nat.reduceEqDiff, tNew, tNewa, tAnew, tCallI]
  refine ⟨sa, by decide, by decide, by decide, by decide, ?_⟩
  refine f_X5_init ?_
  simp only [tAload, tIload, nth, tGetI, tGetR, tConst, tLconst, tBin, tUn, tI2l, tAld, tAldR, tAlen, tIast, tBast, tZast, tAast, tIret, tZret, tVret, tAret, tIf, tIf2, tGoto, tIstore, tAstore, sset, tIinc, tDup, tDup2, tPop, tPutI, tPutZ, tPutR, tCallV, tCallS, popN, tFn, tCopy, tMax, tMin, tSw, swc, tRem, tObjI, Option.toList, List.nil_append, List.cons_append, okR, true_and, and_true, true_or, or_true, Nat.zero_le, ne_eq, not_false_eq_true, Nat.reduceEqDiff]
  refine ⟨by rw [upK_ne (by omega)]; exact sa, nzA (by omega), by rw [upK_ne (by omega)]; exact sa, h _ _ _ ⟨?_, fun y hy => ?_, fun y hy hya => ?_, fun y hy hya => ?_⟩ ?_ upI_at⟩
  · show S'.1 + 1 = _
    rw [g1]
  · show upK S'.2 S'.1 (5, 4) y = K y
    rw [upK_ne (by rw [g1]; dsimp only at hy; omega), g2 y (by dsimp only at hy; omega)]
    exact klo y hy
  · rw [upI_ne hya, upF_ne (by rw [g1]; dsimp only at hy; omega), g3 y (by dsimp only at hy; omega) (by dsimp only at hy; omega)]
    exact mlo y hy hya
  · rw [upR_ne hya, upFr_ne (by rw [g1]; dsimp only at hy; omega), upR_ne hya, g4 y (by dsimp only at hy; omega) (by dsimp only at hy; omega)]
    exact rlo y hy hya
  · have q5 : ∀ y, a + 1 ≤ y → y ≤ a + 5 → upK S'.2 S'.1 (5, 4) y = K5 y := fun y y1 y2 => by
      rw [upK_ne (by omega), g2 y (by omega)]
    have qa : ρ' a = ρ5 a := g4 a (by omega) (by omega)
    refine ⟨(q5 _ (by omega) (by omega)).trans k1.1, (q5 _ (by omega) (by omega)).trans k1.2.1, (q5 _ (by omega) (by omega)).trans k1.2.2.1, (q5 _ (by omega) (by omega)).trans k1.2.2.2.1, (q5 _ (by omega) (by omega)).trans k1.2.2.2.2, ?_, ?_, ?_, ?_, ?_, ?_, ?_, ?_, ?_⟩
    · show upK S'.2 S'.1 (5, 4) (a + 6) = _
      rw [upK_ne (by omega)]; exact e1
    · show upK S'.2 S'.1 (5, 4) (a + 7) = _
      rw [show a + 7 = S'.1 by omega]; exact upK_at
    · rw [upR_k (by omega), upFr_ne (by omega), upR_k (by omega), qa]; exact r1.1
    · rw [upR_k (by omega), upFr_ne (by omega), upR_k (by omega), qa]; exact r1.2.1
    · rw [upR_k (by omega), upFr_ne (by omega), upR_k (by omega), qa]; exact r1.2.2.1
    · rw [upR_k (by omega), upFr_ne (by omega), upR_k (by omega), qa]; exact r1.2.2.2
    · rw [upR_k (by omega), upFr_ne (by omega), upR_at]
    · rw [upR_at]; omega
    · rw [upR_ne (by omega), upFr_ne (by omega), upR_ne (by omega)]; exact e2
end Mk
