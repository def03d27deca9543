/-! ===== the class: words ===== -/
def byT (T : Rw) (n : Nat) : Prop := ∀ i, i < n → rg (T i) (-128) 127
theorem by_all : ∀ k : Fin 256, (Int32.ofInt ((k.val : Int) - 128) &&& 255).toInt ≤ 127 → Int32.ofInt ((k.val : Int) - 128) &&& 255 = Int32.ofInt ((k.val : Int) - 128) := by decide +kernel
theorem by_and {x : Int32} (h : rg x (-128) 127) (hx : (x &&& 255).toInt ≤ 127) : x &&& 255 = x := by
  have e : x = Int32.ofInt (((x.toInt + 128).toNat : Int) - 128) := by
    have h1 := h.1
    rw [Int.toNat_of_nonneg (by omega), show x.toInt + 128 - 128 = x.toInt by omega, Int32.ofInt_toInt]
  have h2 := h.2
  have h1 := h.1
  have := by_all ⟨(x.toInt + 128).toNat, by omega⟩
  dsimp only at this
  rw [← e] at this
  exact this hx
theorem wd_wr : ∀ j, j < 18 → ∀ i, i < lnW j → wdT (frW j + i) = wr (frW j + i) ∧ ¬ wdT (frW j + i) = 32 ∧ (wr (frW j + i)).toInt ≤ 127 ∧ 0 ≤ (wr (frW j + i)).toInt := by decide
theorem wd_sp : ∀ j, j < 18 → wdT (frW j + lnW j) = 32 := by decide
theorem ln_1 : ∀ j, j < 18 → 1 ≤ lnW j := by decide
def w_X9_isWord_51 (M : CT) (G : Nat → PT) (Rp : RT) : PT := tConst 1 <| tZret Rp
def w_X9_isWord_45 (M : CT) (G : Nat → PT) (Rp : RT) : PT := tIinc 4 1 <| tGoto (G 3)
def w_X9_isWord_43 (M : CT) (G : Nat → PT) (Rp : RT) : PT := tConst 0 <| tZret Rp
def w_X9_isWord_3 (M : CT) (G : Nat → PT) (Rp : RT) : PT := tIload 4 <| tIload 3 <| tIf2 (fun x y => y ≤ x) (w_X9_isWord_51 M G Rp) <| tIload 1 <| tIload 4 <| tBin (fun x y => x + y) <| tIload 2 <| tBin (fun x y => x - y) <| tIstore 5 <| tIload 5 <| tAload 0 <| tGetI 9 7 5 <| tIf2 (fun x y => y ≤ x) (w_X9_isWord_43 M G Rp) <| tAload 0 <| tGetR 9 7 0 <| tIload 5 <| tAld 20 <| tPush (.float 1) <| tIload 4 <| tCallX M jJ0_charAt_5068e 1 <| tIf2 (fun x y => x = y) (w_X9_isWord_45 M G Rp) <| w_X9_isWord_43 M G Rp
def w_X9_isWord_0 (M : CT) (G : Nat → PT) (Rp : RT) : PT := tIload 2 <| tIstore 4 <| G 3
set_option maxRecDepth 20000 in
theorem b_X9_isWord_51 {Z : Zt} {d : Nat} {p : Program} {e : Env} {R : Room} {s : State} {m : MethodId} {args : Array Value} {below : List Frame} {meth : Method} {c : Code} {Rp : RT} (hZ : ZX Z) (C : Cx Z (d + 5) jX9_isWord RX9 p R s m args meth c) : Sd Z jX9_isWord p e R s m args below meth c (MQ below (QcS Z Rp) args s 0 0 (fun a => Z.2.2.1 < a)) 51 (w_X9_isWord_51 (MS Z (d + 5)) (Gw Z 6 p e R s m args below meth c (MQ below (QcS Z Rp) args s 0 0 (fun a => Z.2.2.1 < a))) Rp) := by
  unfold w_X9_isWord_51
  refine s_iconst (n := 1) C (by decide +kernel) (by decide) ?_
  exact s_zret C rfl (by decide +kernel)
set_option maxRecDepth 20000 in
theorem b_X9_isWord_45 {Z : Zt} {d : Nat} {p : Program} {e : Env} {R : Room} {s : State} {m : MethodId} {args : Array Value} {below : List Frame} {meth : Method} {c : Code} {Rp : RT} (hZ : ZX Z) (C : Cx Z (d + 5) jX9_isWord RX9 p R s m args meth c) : Sd Z jX9_isWord p e R s m args below meth c (MQ below (QcS Z Rp) args s 0 0 (fun a => Z.2.2.1 < a)) 45 (w_X9_isWord_45 (MS Z (d + 5)) (Gw Z 6 p e R s m args below meth c (MQ below (QcS Z Rp) args s 0 0 (fun a => Z.2.2.1 < a))) Rp) := by
  unfold w_X9_isWord_45
  refine s_iinc (n := 1) C (by decide +kernel) (by decide) ?_
  exact s_goto (off := (-45)) (tgt := 3) C (by decide +kernel) (by decide) (fun _ _ _ _ _ _ h => h)
set_option maxRecDepth 20000 in
theorem b_X9_isWord_43 {Z : Zt} {d : Nat} {p : Program} {e : Env} {R : Room} {s : State} {m : MethodId} {args : Array Value} {below : List Frame} {meth : Method} {c : Code} {Rp : RT} (hZ : ZX Z) (C : Cx Z (d + 5) jX9_isWord RX9 p R s m args meth c) : Sd Z jX9_isWord p e R s m args below meth c (MQ below (QcS Z Rp) args s 0 0 (fun a => Z.2.2.1 < a)) 43 (w_X9_isWord_43 (MS Z (d + 5)) (Gw Z 6 p e R s m args below meth c (MQ below (QcS Z Rp) args s 0 0 (fun a => Z.2.2.1 < a))) Rp) := by
  unfold w_X9_isWord_43
  refine s_iconst (n := 0) C (by decide +kernel) (by decide) ?_
  exact s_zret C rfl (by decide +kernel)
set_option maxRecDepth 20000 in
theorem b_X9_isWord_3 {Z : Zt} {d : Nat} {p : Program} {e : Env} {R : Room} {s : State} {m : MethodId} {args : Array Value} {below : List Frame} {meth : Method} {c : Code} {Rp : RT} (hZ : ZX Z) (C : Cx Z (d + 5) jX9_isWord RX9 p R s m args meth c) : Sd Z jX9_isWord p e R s m args below meth c (MQ below (QcS Z Rp) args s 0 0 (fun a => Z.2.2.1 < a)) 3 (w_X9_isWord_3 (MS Z (d + 5)) (Gw Z 6 p e R s m args below meth c (MQ below (QcS Z Rp) args s 0 0 (fun a => Z.2.2.1 < a))) Rp) := by
  unfold w_X9_isWord_3
  refine s_iload (k := 4) C (by decide +kernel) ?_
  refine s_iload_n (k := 3) C (by decide +kernel) ?_
  refine s_icmp_ge (off := 45) (tgt := 51) C (by decide +kernel) (by decide) (b_X9_isWord_51 hZ C) ?_
  refine s_iload_n (k := 1) C (by decide +kernel) ?_
  refine s_iload (k := 4) C (by decide +kernel) ?_
  refine s_iadd C (by decide +kernel) ?_
  refine s_iload_n (k := 2) C (by decide +kernel) ?_
  refine s_isub C (by decide +kernel) ?_
  refine s_istore (k := 5) C (by decide +kernel) ?_
  refine s_iload (k := 5) C (by decide +kernel) ?_
  refine s_aload_n (k := 0) C (by decide +kernel) ?_
  refine s_getI C w_2_173 (by decide +kernel) rfl ?_
  refine s_icmp_ge (off := 20) (tgt := 43) C (by decide +kernel) (by decide) (b_X9_isWord_43 hZ C) ?_
  refine s_aload_n (k := 0) C (by decide +kernel) ?_
  refine s_getR C w_2_165 (by decide +kernel) rfl ?_
  refine s_iload (k := 5) C (by decide +kernel) ?_
  refine s_iald C (by decide +kernel) ?_
  refine s_ldcS C hZ (by decide +kernel) ?_
  refine s_iload (k := 4) C (by decide +kernel) ?_
  refine s_callX C hZ rfl (by decide +kernel) rfl w_4_219 w_4_220 w_4_221 w_1_17 w_4_222 (by decide +kernel) ?_
  refine s_icmp_eq (off := 5) (tgt := 45) C (by decide +kernel) (by decide) (b_X9_isWord_45 hZ C) ?_
  exact (b_X9_isWord_43 hZ C)
set_option maxRecDepth 20000 in
theorem b_X9_isWord_0 {Z : Zt} {d : Nat} {p : Program} {e : Env} {R : Room} {s : State} {m : MethodId} {args : Array Value} {below : List Frame} {meth : Method} {c : Code} {Rp : RT} (hZ : ZX Z) (C : Cx Z (d + 5) jX9_isWord RX9 p R s m args meth c) : Sd Z jX9_isWord p e R s m args below meth c (MQ below (QcS Z Rp) args s 0 0 (fun a => Z.2.2.1 < a)) 0 (w_X9_isWord_0 (MS Z (d + 5)) (Gw Z 6 p e R s m args below meth c (MQ below (QcS Z Rp) args s 0 0 (fun a => Z.2.2.1 < a))) Rp) := by
  unfold w_X9_isWord_0
  refine s_iload_n (k := 2) C (by decide +kernel) ?_
  refine s_istore (k := 4) C (by decide +kernel) ?_
  exact (fun _ _ _ _ _ _ h => h)
theorem ms_X9_isWord {Z : Zt} {d : Nat} {S : Sh} {μ : Mi} {ρ : Mr} {Rp : RT} (hZ : ZX Z) (a0 : Nat) (x1 : Int32) (x2 : Int32) (x3 : Int32) (h : ∀ G : Nat → PT, (∀ (L st : List Value) (S : Sh) (q : Nat × Nat) (μ : Mi) (ρ : Mr), w_X9_isWord_3 (MS Z (d + 5)) G Rp L st S q μ ρ → G 3 L st S q μ ρ) → w_X9_isWord_0 (MS Z (d + 5)) G Rp [.ref a0, .int x1, .int x2, .int x3, .null, .null] [] S (0, 0) μ ρ) : MS Z (d + 6) jX9_isWord [.ref a0, .int x1, .int x2, .int x3] S μ ρ Rp :=
  MS_of [.ref a0, .int x1, .int x2, .int x3, .null, .null] (by decide +kernel) rfl rfl (Nat.le_of_ble_eq_true rfl) rfl (fun p e R s m args below meth c C => b_X9_isWord_0 hZ C _ _ _ _ _ _ (h _ (b_X9_isWord_3 hZ C)))
def w_X9_parseWord_126 (M : CT) (G : Nat → PT) (Rp : RT) : PT := tConst (-1) <| tIret Rp
def w_X9_parseWord_120 (M : CT) (G : Nat → PT) (Rp : RT) : PT := tIinc 4 1 <| tGoto (G 64)
def w_X9_parseWord_112 (M : CT) (G : Nat → PT) (Rp : RT) : PT := tIinc 2 1 <| tIload 4 <| tConst 1 <| tBin (fun x y => x + y) <| tIstore 3 <| w_X9_parseWord_120 M G Rp
def w_X9_parseWord_64 (M : CT) (G : Nat → PT) (Rp : RT) : PT := tIload 4 <| tPush (.float 1) <| tCallX M jJ0_length_8abf5 0 <| tIf2 (fun x y => y ≤ x) (w_X9_parseWord_126 M G Rp) <| tPush (.float 1) <| tIload 4 <| tCallX M jJ0_charAt_5068e 1 <| tConst 32 <| tIf2 (fun x y => x ≠ y) (w_X9_parseWord_120 M G Rp) <| tIload 4 <| tIload 3 <| tBin (fun x y => x - y) <| tAload 0 <| tGetI 9 7 6 <| tIload 1 <| tBin (fun x y => x - y) <| tIf2 (fun x y => x ≠ y) (w_X9_parseWord_112 M G Rp) <| tAload 0 <| tIload 1 <| tIload 3 <| tIload 4 <| tCallV M jX9_isWord 9 7 3 <| tIf (fun x => x = 0) (w_X9_parseWord_112 M G Rp) <| tIload 2 <| tIret Rp
def w_X9_parseWord_57 (M : CT) (G : Nat → PT) (Rp : RT) : PT := tConst 0 <| tIstore 2 <| tConst 0 <| tIstore 3 <| tConst 0 <| tIstore 4 <| G 64
def w_X9_parseWord_5 (M : CT) (G : Nat → PT) (Rp : RT) : PT := tAload 0 <| tGetI 9 7 6 <| tAload 0 <| tGetI 9 7 5 <| tIf2 (fun x y => y ≤ x) (w_X9_parseWord_57 M G Rp) <| tAload 0 <| tGetR 9 7 0 <| tAload 0 <| tGetI 9 7 6 <| tAld 20 <| tConst 97 <| tIf2 (fun x y => x < y) (w_X9_parseWord_57 M G Rp) <| tAload 0 <| tGetR 9 7 0 <| tAload 0 <| tGetI 9 7 6 <| tAld 20 <| tConst 122 <| tIf2 (fun x y => y < x) (w_X9_parseWord_57 M G Rp) <| tAload 0 <| tDup <| tGetI 9 7 6 <| tConst 1 <| tBin (fun x y => x + y) <| tPutI 9 7 6 <| tGoto (G 5)
def w_X9_parseWord_0 (M : CT) (G : Nat → PT) (Rp : RT) : PT := tAload 0 <| tGetI 9 7 6 <| tIstore 1 <| G 5
set_option maxRecDepth 20000 in
theorem b_X9_parseWord_126 {Z : Zt} {d : Nat} {p : Program} {e : Env} {R : Room} {s : State} {m : MethodId} {args : Array Value} {below : List Frame} {meth : Method} {c : Code} {Rp : RT} (hZ : ZX Z) (C : Cx Z (d + 6) jX9_parseWord RX9 p R s m args meth c) : Sd Z jX9_parseWord p e R s m args below meth c (MQ below (QcS Z Rp) args s 0 0 (fun a => Z.2.2.1 < a)) 126 (w_X9_parseWord_126 (MS Z (d + 6)) (Gw Z 5 p e R s m args below meth c (MQ below (QcS Z Rp) args s 0 0 (fun a => Z.2.2.1 < a))) Rp) := by
  unfold w_X9_parseWord_126
  refine s_iconst (n := (-1)) C (by decide +kernel) (by decide) ?_
  exact s_iret C rfl (by decide +kernel)
set_option maxRecDepth 20000 in
theorem b_X9_parseWord_120 {Z : Zt} {d : Nat} {p : Program} {e : Env} {R : Room} {s : State} {m : MethodId} {args : Array Value} {below : List Frame} {meth : Method} {c : Code} {Rp : RT} (hZ : ZX Z) (C : Cx Z (d + 6) jX9_parseWord RX9 p R s m args meth c) : Sd Z jX9_parseWord p e R s m args below meth c (MQ below (QcS Z Rp) args s 0 0 (fun a => Z.2.2.1 < a)) 120 (w_X9_parseWord_120 (MS Z (d + 6)) (Gw Z 5 p e R s m args below meth c (MQ below (QcS Z Rp) args s 0 0 (fun a => Z.2.2.1 < a))) Rp) := by
  unfold w_X9_parseWord_120
  refine s_iinc (n := 1) C (by decide +kernel) (by decide) ?_
  exact s_goto (off := (-59)) (tgt := 64) C (by decide +kernel) (by decide) (fun _ _ _ _ _ _ h => h)
set_option maxRecDepth 20000 in
theorem b_X9_parseWord_112 {Z : Zt} {d : Nat} {p : Program} {e : Env} {R : Room} {s : State} {m : MethodId} {args : Array Value} {below : List Frame} {meth : Method} {c : Code} {Rp : RT} (hZ : ZX Z) (C : Cx Z (d + 6) jX9_parseWord RX9 p R s m args meth c) : Sd Z jX9_parseWord p e R s m args below meth c (MQ below (QcS Z Rp) args s 0 0 (fun a => Z.2.2.1 < a)) 112 (w_X9_parseWord_112 (MS Z (d + 6)) (Gw Z 5 p e R s m args below meth c (MQ below (QcS Z Rp) args s 0 0 (fun a => Z.2.2.1 < a))) Rp) := by
  unfold w_X9_parseWord_112
  refine s_iinc (n := 1) C (by decide +kernel) (by decide) ?_
  refine s_iload (k := 4) C (by decide +kernel) ?_
  refine s_iconst (n := 1) C (by decide +kernel) (by decide) ?_
  refine s_iadd C (by decide +kernel) ?_
  refine s_istore_n (k := 3) C (by decide +kernel) ?_
  exact (b_X9_parseWord_120 hZ C)
set_option maxRecDepth 20000 in
theorem b_X9_parseWord_64 {Z : Zt} {d : Nat} {p : Program} {e : Env} {R : Room} {s : State} {m : MethodId} {args : Array Value} {below : List Frame} {meth : Method} {c : Code} {Rp : RT} (hZ : ZX Z) (C : Cx Z (d + 6) jX9_parseWord RX9 p R s m args meth c) : Sd Z jX9_parseWord p e R s m args below meth c (MQ below (QcS Z Rp) args s 0 0 (fun a => Z.2.2.1 < a)) 64 (w_X9_parseWord_64 (MS Z (d + 6)) (Gw Z 5 p e R s m args below meth c (MQ below (QcS Z Rp) args s 0 0 (fun a => Z.2.2.1 < a))) Rp) := by
  unfold w_X9_parseWord_64
  refine s_iload (k := 4) C (by decide +kernel) ?_
  refine s_ldcS C hZ (by decide +kernel) ?_
  refine s_callX C hZ rfl (by decide +kernel) rfl w_4_209 w_4_210 w_4_211 w_1_17 w_4_212 (by decide +kernel) ?_
  refine s_icmp_ge (off := 55) (tgt := 126) C (by decide +kernel) (by decide) (b_X9_parseWord_126 hZ C) ?_
  refine s_ldcS C hZ (by decide +kernel) ?_
  refine s_iload (k := 4) C (by decide +kernel) ?_
  refine s_callX C hZ rfl (by decide +kernel) rfl w_4_219 w_4_220 w_4_221 w_1_17 w_4_222 (by decide +kernel) ?_
  refine s_bipush (n := 32) C (by decide +kernel) (by decide) ?_
  refine s_icmp_ne (off := 37) (tgt := 120) C (by decide +kernel) (by decide) (b_X9_parseWord_120 hZ C) ?_
  refine s_iload (k := 4) C (by decide +kernel) ?_
  refine s_iload_n (k := 3) C (by decide +kernel) ?_
  refine s_isub C (by decide +kernel) ?_
  refine s_aload_n (k := 0) C (by decide +kernel) ?_
  refine s_getI C w_2_174 (by decide +kernel) rfl ?_
  refine s_iload_n (k := 1) C (by decide +kernel) ?_
  refine s_isub C (by decide +kernel) ?_
  refine s_icmp_ne (off := 16) (tgt := 112) C (by decide +kernel) (by decide) (b_X9_parseWord_112 hZ C) ?_
  refine s_aload_n (k := 0) C (by decide +kernel) ?_
  refine s_iload_n (k := 1) C (by decide +kernel) ?_
  refine s_iload_n (k := 3) C (by decide +kernel) ?_
  refine s_iload (k := 4) C (by decide +kernel) ?_
  refine s_callV C rfl rfl (by decide +kernel) rfl w_5_17 w_5_19 w_p2_12 w_1_11 w_5_20 (by decide +kernel) ?_
  refine s_if_eq (off := 5) (tgt := 112) C (by decide +kernel) (by decide) (b_X9_parseWord_112 hZ C) ?_
  refine s_iload_n (k := 2) C (by decide +kernel) ?_
  exact s_iret C rfl (by decide +kernel)
set_option maxRecDepth 20000 in
theorem b_X9_parseWord_57 {Z : Zt} {d : Nat} {p : Program} {e : Env} {R : Room} {s : State} {m : MethodId} {args : Array Value} {below : List Frame} {meth : Method} {c : Code} {Rp : RT} (hZ : ZX Z) (C : Cx Z (d + 6) jX9_parseWord RX9 p R s m args meth c) : Sd Z jX9_parseWord p e R s m args below meth c (MQ below (QcS Z Rp) args s 0 0 (fun a => Z.2.2.1 < a)) 57 (w_X9_parseWord_57 (MS Z (d + 6)) (Gw Z 5 p e R s m args below meth c (MQ below (QcS Z Rp) args s 0 0 (fun a => Z.2.2.1 < a))) Rp) := by
  unfold w_X9_parseWord_57
  refine s_iconst (n := 0) C (by decide +kernel) (by decide) ?_
  refine s_istore_n (k := 2) C (by decide +kernel) ?_
  refine s_iconst (n := 0) C (by decide +kernel) (by decide) ?_
  refine s_istore_n (k := 3) C (by decide +kernel) ?_
  refine s_iconst (n := 0) C (by decide +kernel) (by decide) ?_
  refine s_istore (k := 4) C (by decide +kernel) ?_
  exact (fun _ _ _ _ _ _ h => h)
set_option maxRecDepth 20000 in
theorem b_X9_parseWord_5 {Z : Zt} {d : Nat} {p : Program} {e : Env} {R : Room} {s : State} {m : MethodId} {args : Array Value} {below : List Frame} {meth : Method} {c : Code} {Rp : RT} (hZ : ZX Z) (C : Cx Z (d + 6) jX9_parseWord RX9 p R s m args meth c) : Sd Z jX9_parseWord p e R s m args below meth c (MQ below (QcS Z Rp) args s 0 0 (fun a => Z.2.2.1 < a)) 5 (w_X9_parseWord_5 (MS Z (d + 6)) (Gw Z 5 p e R s m args below meth c (MQ below (QcS Z Rp) args s 0 0 (fun a => Z.2.2.1 < a))) Rp) := by
  unfold w_X9_parseWord_5
  refine s_aload_n (k := 0) C (by decide +kernel) ?_
  refine s_getI C w_2_174 (by decide +kernel) rfl ?_
  refine s_aload_n (k := 0) C (by decide +kernel) ?_
  refine s_getI C w_2_173 (by decide +kernel) rfl ?_
  refine s_icmp_ge (off := 44) (tgt := 57) C (by decide +kernel) (by decide) (b_X9_parseWord_57 hZ C) ?_
  refine s_aload_n (k := 0) C (by decide +kernel) ?_
  refine s_getR C w_2_165 (by decide +kernel) rfl ?_
  refine s_aload_n (k := 0) C (by decide +kernel) ?_
  refine s_getI C w_2_174 (by decide +kernel) rfl ?_
  refine s_iald C (by decide +kernel) ?_
  refine s_bipush (n := 97) C (by decide +kernel) (by decide) ?_
  refine s_icmp_lt (off := 30) (tgt := 57) C (by decide +kernel) (by decide) (b_X9_parseWord_57 hZ C) ?_
  refine s_aload_n (k := 0) C (by decide +kernel) ?_
  refine s_getR C w_2_165 (by decide +kernel) rfl ?_
  refine s_aload_n (k := 0) C (by decide +kernel) ?_
  refine s_getI C w_2_174 (by decide +kernel) rfl ?_
  refine s_iald C (by decide +kernel) ?_
  refine s_bipush (n := 122) C (by decide +kernel) (by decide) ?_
  refine s_icmp_gt (off := 16) (tgt := 57) C (by decide +kernel) (by decide) (b_X9_parseWord_57 hZ C) ?_
  refine s_aload_n (k := 0) C (by decide +kernel) ?_
  refine s_dup C (by decide +kernel) ?_
  refine s_getI C w_2_174 (by decide +kernel) rfl ?_
  refine s_iconst (n := 1) C (by decide +kernel) (by decide) ?_
  refine s_iadd C (by decide +kernel) ?_
  refine s_putI C w_2_174 (by decide +kernel) rfl (Or.inl rfl) ?_
  exact s_goto (off := (-49)) (tgt := 5) C (by decide +kernel) (by decide) (fun _ _ _ _ _ _ h => h)
set_option maxRecDepth 20000 in
theorem b_X9_parseWord_0 {Z : Zt} {d : Nat} {p : Program} {e : Env} {R : Room} {s : State} {m : MethodId} {args : Array Value} {below : List Frame} {meth : Method} {c : Code} {Rp : RT} (hZ : ZX Z) (C : Cx Z (d + 6) jX9_parseWord RX9 p R s m args meth c) : Sd Z jX9_parseWord p e R s m args below meth c (MQ below (QcS Z Rp) args s 0 0 (fun a => Z.2.2.1 < a)) 0 (w_X9_parseWord_0 (MS Z (d + 6)) (Gw Z 5 p e R s m args below meth c (MQ below (QcS Z Rp) args s 0 0 (fun a => Z.2.2.1 < a))) Rp) := by
  unfold w_X9_parseWord_0
  refine s_aload_n (k := 0) C (by decide +kernel) ?_
  refine s_getI C w_2_174 (by decide +kernel) rfl ?_
  refine s_istore_n (k := 1) C (by decide +kernel) ?_
  exact (fun _ _ _ _ _ _ h => h)
theorem ms_X9_parseWord {Z : Zt} {d : Nat} {S : Sh} {μ : Mi} {ρ : Mr} {Rp : RT} (hZ : ZX Z) (a0 : Nat) (h : ∀ G : Nat → PT, (∀ (L st : List Value) (S : Sh) (q : Nat × Nat) (μ : Mi) (ρ : Mr), w_X9_parseWord_5 (MS Z (d + 6)) G Rp L st S q μ ρ → G 5 L st S q μ ρ) → (∀ (L st : List Value) (S : Sh) (q : Nat × Nat) (μ : Mi) (ρ : Mr), w_X9_parseWord_64 (MS Z (d + 6)) G Rp L st S q μ ρ → G 64 L st S q μ ρ) → w_X9_parseWord_0 (MS Z (d + 6)) G Rp [.ref a0, .null, .null, .null, .null] [] S (0, 0) μ ρ) : MS Z (d + 7) jX9_parseWord [.ref a0] S μ ρ Rp :=
  MS_of [.ref a0, .null, .null, .null, .null] (by decide +kernel) rfl rfl (Nat.le_of_ble_eq_true rfl) rfl (fun p e R s m args below meth c C => b_X9_parseWord_0 hZ C _ _ _ _ _ _ (h _ (b_X9_parseWord_5 hZ C) (b_X9_parseWord_64 hZ C)))
section Wo
variable {Z : Zt} {d : Nat} {S : Sh} {μ : Mi} {ρ : Mr} {Rp : RT}
theorem by_eq {T : Rw} {k : Nat} {w : Int32} (h : rg (T k) (-128) 127) (hw : w.toInt ≤ 127) (h0 : 0 ≤ w.toInt) : (T k &&& 255 = w) ↔ (w = T k) := by
  constructor
  · intro e
    have := by_and h (by rw [e]; exact hw)
    rw [← e, this]
  · intro e
    rw [e] at hw h0
    rw [e]
    have h2 : ∀ k : Fin 128, nI k.val &&& 255 = nI k.val := by decide +kernel
    obtain ⟨m, em, m0, -, m1⟩ := rg_ex (x := T k) (lo := 0) (hi := 127) ⟨h0, hw⟩
    rw [em]
    exact h2 ⟨m, by omega⟩
theorem f_X9_isWord (hZ : ZX Z) {T : Rw} {n p b j : Nat} (hT : TpR T n p S μ ρ) (hby : byT T n) (hj : j < 18) (hb : b + lnW j ≤ n) (h : Rp (some (.int (eqI T (frW j) b (lnW j) 0 1))) S μ ρ) : MS Z (d + 6) jX9_isWord [.ref 856, .int (nI b), .int (nI (frW j)), .int (nI (frW j + lnW j))] S μ ρ Rp := by
  obtain ⟨⟨t1, t2, t3, t4, t5⟩, en, hn, ep, hp, hbt⟩ := hT
  obtain ⟨f1, f2⟩ := fr_b j hj
  refine ms_X9_isWord hZ _ _ _ _ (fun G g3 => ?_)
  have loop : ∀ (m t : Nat) (v : Value), t + m = lnW j → Rp (some (.int (eqI T (frW j) b m t 1))) S μ ρ → G 3 [.ref 856, .int (nI b), .int (nI (frW j)), .int (nI (frW j + lnW j)), .int (nI (frW j + t)), v] [] S (0, 0) μ ρ := by
    intro m
    induction m with
    | zero =>
      intro t v ht hq
      apply g3
      simp only [w_X9_isWord_3, w_X9_isWord_51, tAload, tIload, nth, tGetI, tGetR, tConst, tLconst, tBin, tUn, tI2l, tAld, tAldR, tAlen, tIast, tBast, tZast, tAast, tIret, tZret, tVret, tAret, tIf, tIf2, tGoto, tIstore, tAstore, sset, tIinc, tDup, tDup2, tPop, tPutI, tPutZ, tPutR, tCallV, tCallS, popN, tFn, tCopy, tMax, tMin, tSw, swc, tRem, tObjI, Option.toList, List.nil_append, List.cons_append, okR, true_and, and_true, true_or, or_true, Nat.zero_le, ne_eq, not_false_eq_true, Nat.reduceEqDiff]
      exact ⟨fun _ => hq, fun c => absurd (by rw [nI_leI (by omega) (by omega)]; omega) c⟩
    | succ m ih =>
      intro t v ht hq
      have e1 : nI b + nI (frW j + t) - nI (frW j) = nI (b + t) := by rw [nI_add, pk_sub (by omega)]; congr 1; omega
      obtain ⟨w1, w2, w3, w4⟩ := wd_wr j hj t (by omega)
      rw [eqI_s, if_neg (by decide)] at hq
      apply g3
      simp only [w_X9_isWord_3, w_X9_isWord_45, w_X9_isWord_43, tAload, tIload, nth, tGetI, tGetR, tConst, tLconst, tBin, tUn, tI2l, tAld, tAldR, tAlen, tIast, tBast, tZast, tAast, tIret, tZret, tVret, tAret, tIf, tIf2, tGoto, tIstore, tAstore, sset, tIinc, tDup, tDup2, tPop, tPutI, tPutZ, tPutR, tCallV, tCallS, popN, tFn, tCopy, tMax, tMin, tSw, swc, tRem, tObjI, Option.toList, List.nil_append, List.cons_append, okR, true_and, and_true, true_or, or_true, Nat.zero_le, ne_eq, not_false_eq_true, Nat.reduceEqDiff, tPush, tCallX, t1, t2, t4, en, e1, nI_clamp (show b + t < 2 ^ 31 by omega), hbt (b + t) (by omega), nI_s1]
      refine ⟨fun c => absurd c (by rw [nI_leI (by omega) (by omega)]; omega), fun _ => ⟨fun c => absurd c (by rw [nI_leI (by omega) (by omega)]; omega), fun _ => ⟨inb_nI (by omega) (by decide), f_J0_charAt (d := d) hZ (i := frW j + t) (by omega) ⟨fun c => ?_, fun c => ?_⟩⟩⟩⟩
      · rw [w1] at c
        have c2 := (by_eq (hby _ (by omega)) w3 w4).mp c
        rw [if_neg (fun z => z c2)] at hq
        exact ih (t + 1) _ (by omega) hq
      · rw [w1] at c
        rw [if_pos (fun z => c ((by_eq (hby _ (by omega)) w3 w4).mpr z))] at hq
        have e0 : eqI T (frW j) b m (t + 1) 0 = 0 := by
          cases m with
          | zero => rfl
          | succ m => rw [eqI_s, if_pos rfl]
        rw [e0] at hq
        exact ⟨Or.inl rfl, hq⟩
  simp only [w_X9_isWord_0, tAload, tIload, nth, tGetI, tGetR, tConst, tLconst, tBin, tUn, tI2l, tAld, tAldR, tAlen, tIast, tBast, tZast, tAast, tIret, tZret, tVret, tAret, tIf, tIf2, tGoto, tIstore, tAstore, sset, tIinc, tDup, tDup2, tPop, tPutI, tPutZ, tPutR, tCallV, tCallS, popN, tFn, tCopy, tMax, tMin, tSw, swc, tRem, tObjI, Option.toList, List.nil_append, List.cons_append, okR, true_and, and_true, true_or, or_true, Nat.zero_le, ne_eq, not_false_eq_true, Nat.reduceEqDiff]
  exact loop (lnW j) 0 _ (by omega) h
theorem eqI_0 {T : Rw} {f b m i : Nat} : eqI T f b m i 0 = 0 := by
  cases m with
  | zero => rfl
  | succ m => rw [eqI_s, if_pos rfl]
theorem f_X9_parseWord (hZ : ZX Z) {T : Rw} {n p : Nat} (hT : TpR T n p S μ ρ) (hby : byT T n) (hpn : p ≤ n) (h : Rp (some (.int (qWordFrom T p (ltr T n p)))) S (upI μ 856 6 (nI (ltr T n p))) ρ) : MS Z (d + 7) jX9_parseWord [.ref 856] S μ ρ Rp := by
  have hT' := hT
  obtain ⟨⟨t1, t2, t3, t4, t5⟩, en, hn, ep, hp, hbt⟩ := hT
  obtain ⟨l1, l2⟩ := ltr_le (T := T) hpn
  refine ms_X9_parseWord hZ _ (fun G g5 g64 => ?_)
  have e6 : upI μ 856 6 (nI (ltr T n p)) 856 6 = nI (ltr T n p) := upI_at
  have hT2 : TpR T n (ltr T n p) S (upI μ 856 6 (nI (ltr T n p))) ρ := ⟨⟨t1, t2, t3, t4, t5⟩, by rw [upI_k (by omega)]; exact en, hn, upI_at, by omega, fun i hi => by rw [upI_ne (by omega)]; exact hbt i hi⟩
  have scan : ∀ (m j : Nat), j + m = 18 → Rp (some (.int (wfF T p (ltr T n p) m j))) S (upI μ 856 6 (nI (ltr T n p))) ρ → G 64 [.ref 856, .int (nI p), .int (nI j), .int (nI (if j < 18 then frW j else 103)), .int (nI (if j < 18 then frW j else 103))] [] S (0, 0) (upI μ 856 6 (nI (ltr T n p))) ρ := by
    intro m
    induction m with
    | zero =>
      intro j hj hq
      have e : j = 18 := by omega
      subst e
      apply g64
      simp only [w_X9_parseWord_64, w_X9_parseWord_126, tAload, tIload, nth, tGetI, tGetR, tConst, tLconst, tBin, tUn, tI2l, tAld, tAldR, tAlen, tIast, tBast, tZast, tAast, tIret, tZret, tVret, tAret, tIf, tIf2, tGoto, tIstore, tAstore, sset, tIinc, tDup, tDup2, tPop, tPutI, tPutZ, tPutR, tCallV, tCallS, popN, tFn, tCopy, tMax, tMin, tSw, swc, tRem, tObjI, Option.toList, List.nil_append, List.cons_append, okR, true_and, and_true, true_or, or_true, Nat.zero_le, ne_eq, not_false_eq_true, Nat.reduceEqDiff, tPush, tCallX]
      refine f_J0_length (d := d + 4) hZ ⟨fun _ => hq, fun c => absurd (by decide) c⟩
    | succ m ih =>
      intro j hj hq
      have hj18 : j < 18 := by omega
      obtain ⟨f1, f2⟩ := fr_b j hj18
      have l0 := ln_1 j hj18
      rw [if_pos hj18]
      rw [wfF_s] at hq
      have nxt : wfF T p (ltr T n p) (m + 1) j = wfF T p (ltr T n p) m (j + 1) → w_X9_parseWord_112 (MS Z (d + 6)) G Rp [.ref 856, .int (nI p), .int (nI j), .int (nI (frW j)), .int (nI (frW j + lnW j))] [] S (0, 0) (upI μ 856 6 (nI (ltr T n p))) ρ := by
        intro e
        rw [wfF_s] at e
        rw [e] at hq
        have := ih (j + 1) (by omega) hq
        have e2 : (if j + 1 < 18 then frW (j + 1) else 103) = frW j + lnW j + 1 := by
          by_cases c : j + 1 < 18
          · rw [if_pos c]; exact fr_s j (by omega)
          · rw [if_neg c]
            have : j = 17 := by omega
            subst this
            decide
        rw [e2] at this
        simp only [w_X9_parseWord_112, w_X9_parseWord_120, tAload, tIload, nth, tGetI, tGetR, tConst, tLconst, tBin, tUn, tI2l, tAld, tAldR, tAlen, tIast, tBast, tZast, tAast, tIret, tZret, tVret, tAret, tIf, tIf2, tGoto, tIstore, tAstore, sset, tIinc, tDup, tDup2, tPop, tPutI, tPutZ, tPutR, tCallV, tCallS, popN, tFn, tCopy, tMax, tMin, tSw, swc, tRem, tObjI, Option.toList, List.nil_append, List.cons_append, okR, true_and, and_true, true_or, or_true, Nat.zero_le, ne_eq, not_false_eq_true, Nat.reduceEqDiff, nI_s1]
        exact this
      have inner : ∀ (r t : Nat), t + r = lnW j → G 64 [.ref 856, .int (nI p), .int (nI j), .int (nI (frW j)), .int (nI (frW j + t))] [] S (0, 0) (upI μ 856 6 (nI (ltr T n p))) ρ := by
        intro r
        induction r with
        | zero =>
          intro t ht
          have ht' : t = lnW j := by omega
          subst ht'
          apply g64
          have es : nI (frW j + lnW j) - nI (frW j) = nI (lnW j) := by rw [pk_sub (by omega)]; congr 1; omega
          have ea : nI (ltr T n p) - nI p = nI (ltr T n p - p) := by rw [pk_sub (by omega)]
          simp only [w_X9_parseWord_64, tAload, tIload, nth, tGetI, tGetR, tConst, tLconst, tBin, tUn, tI2l, tAld, tAldR, tAlen, tIast, tBast, tZast, tAast, tIret, tZret, tVret, tAret, tIf, tIf2, tGoto, tIstore, tAstore, sset, tIinc, tDup, tDup2, tPop, tPutI, tPutZ, tPutR, tCallV, tCallS, popN, tFn, tCopy, tMax, tMin, tSw, swc, tRem, tObjI, Option.toList, List.nil_append, List.cons_append, okR, true_and, and_true, true_or, or_true, Nat.zero_le, ne_eq, not_false_eq_true, Nat.reduceEqDiff, tPush, tCallX, t1, e6, es, ea]
          refine f_J0_length (d := d + 4) hZ ⟨fun c => absurd c (by rw [nI_leI (by decide) (by omega)]; omega), fun _ => ?_⟩
          refine ⟨trivial, f_J0_charAt (d := d + 1) hZ (i := frW j + lnW j) (by omega) ?_⟩
          rw [wd_sp j hj18]
          refine ⟨fun c => absurd rfl c, fun _ => ⟨t1, fun c => ?_, fun c => ?_⟩⟩
          · rw [e6, ea, nI_eq (by omega) (by omega)] at c
            refine nxt ?_
            rw [wfF_s]
            unfold mtW
            rw [if_pos c, eqI_0, if_pos rfl]
          · rw [e6, ea] at c
            have c' : lnW j = ltr T n p - p := (nI_eq (by omega) (by omega)).mp (Classical.not_not.mp c)
            have em : mtW T p (ltr T n p) j = eqI T (frW j) p (lnW j) 0 1 := by unfold mtW; rw [if_neg (fun z => z c')]
            refine ⟨t1, trivial, f_X9_isWord (p := ltr T n p) (b := p) hZ hT2 hby hj18 (by omega) ⟨fun c2 => ?_, fun c2 => ?_⟩⟩
            · refine nxt ?_
              rw [wfF_s, em, if_pos c2]
            · rw [em, if_neg c2] at hq
              exact hq
        | succ r ihr =>
          intro t ht
          obtain ⟨w1, w2, w3, w4⟩ := wd_wr j hj18 t (by omega)
          apply g64
          simp only [w_X9_parseWord_64, w_X9_parseWord_120, tAload, tIload, nth, tGetI, tGetR, tConst, tLconst, tBin, tUn, tI2l, tAld, tAldR, tAlen, tIast, tBast, tZast, tAast, tIret, tZret, tVret, tAret, tIf, tIf2, tGoto, tIstore, tAstore, sset, tIinc, tDup, tDup2, tPop, tPutI, tPutZ, tPutR, tCallV, tCallS, popN, tFn, tCopy, tMax, tMin, tSw, swc, tRem, tObjI, Option.toList, List.nil_append, List.cons_append, okR, true_and, and_true, true_or, or_true, Nat.zero_le, ne_eq, not_false_eq_true, Nat.reduceEqDiff, tPush, tCallX]
          refine f_J0_length (d := d + 4) hZ ⟨fun c => absurd c (by rw [nI_leI (by decide) (by omega)]; omega), fun _ => ?_⟩
          refine ⟨trivial, f_J0_charAt (d := d + 1) hZ (i := frW j + t) (by omega) ⟨fun _ => ?_, fun c => absurd w2 c⟩⟩
          rw [nI_s1]
          exact ihr (t + 1) (by omega)
      exact inner (lnW j) 0 (by omega)
  have fin : ∀ (ν : Mi) (v2 v3 v4 : Value), ν = upI μ 856 6 (nI (ltr T n p)) → w_X9_parseWord_57 (MS Z (d + 6)) G Rp [.ref 856, .int (nI p), v2, v3, v4] [] S (0, 0) ν ρ := by
    intro ν v2 v3 v4 hν
    rw [hν]
    simp only [w_X9_parseWord_57, tAload, tIload, nth, tGetI, tGetR, tConst, tLconst, tBin, tUn, tI2l, tAld, tAldR, tAlen, tIast, tBast, tZast, tAast, tIret, tZret, tVret, tAret, tIf, tIf2, tGoto, tIstore, tAstore, sset, tIinc, tDup, tDup2, tPop, tPutI, tPutZ, tPutR, tCallV, tCallS, popN, tFn, tCopy, tMax, tMin, tSw, swc, tRem, tObjI, Option.toList, List.nil_append, List.cons_append, okR, true_and, and_true, true_or, or_true, Nat.zero_le, ne_eq, not_false_eq_true, Nat.reduceEqDiff]
    exact scan 18 0 (by omega) h
  have lets : ∀ (m q : Nat) (ν : Mi) (v2 v3 v4 : Value), q + m = n → p ≤ q → ltr T n q = ltr T n p → ν = upI μ 856 6 (nI q) → G 5 [.ref 856, .int (nI p), v2, v3, v4] [] S (0, 0) ν ρ := by
    intro m
    induction m with
    | zero =>
      intro q ν v2 v3 v4 hm hq hl hν
      have e5 : ν 856 5 = nI n := by rw [hν, upI_k (by omega)]; exact en
      have e6 : ν 856 6 = nI q := by rw [hν, upI_at]
      have el : ltr T n q = q := ltr_e (by rw [seeT_hi (by omega)]; decide)
      apply g5
      simp only [w_X9_parseWord_5, tAload, tIload, nth, tGetI, tGetR, tConst, tLconst, tBin, tUn, tI2l, tAld, tAldR, tAlen, tIast, tBast, tZast, tAast, tIret, tZret, tVret, tAret, tIf, tIf2, tGoto, tIstore, tAstore, sset, tIinc, tDup, tDup2, tPop, tPutI, tPutZ, tPutR, tCallV, tCallS, popN, tFn, tCopy, tMax, tMin, tSw, swc, tRem, tObjI, Option.toList, List.nil_append, List.cons_append, okR, true_and, and_true, true_or, or_true, Nat.zero_le, ne_eq, not_false_eq_true, Nat.reduceEqDiff, t1, e5, e6]
      exact ⟨fun _ => fin ν _ _ _ (by rw [hν, ← hl, el]), fun c => absurd (by rw [nI_leI (by omega) (by omega)]; omega) c⟩
    | succ m ih =>
      intro q ν v2 v3 v4 hm hq hl hν
      have e5 : ν 856 5 = nI n := by rw [hν, upI_k (by omega)]; exact en
      have e6 : ν 856 6 = nI q := by rw [hν, upI_at]
      have hv : ν 857 q = seeT T n q := by rw [hν, upI_ne (by omega), hbt q (by omega)]; unfold seeT; rw [if_pos (by omega)]
      have er := rg_05 (x := seeT T n q) (lo := 97) (hi := 122) (l := 97) (h := 122) (by decide) (by decide)
      have stop : ¬ rgd (seeT T n q) 97 122 → w_X9_parseWord_57 (MS Z (d + 6)) G Rp [.ref 856, .int (nI p), v2, v3, v4] [] S (0, 0) ν ρ := fun c => fin ν _ _ _ (by rw [hν, ← hl, ltr_e c])
      apply g5
      simp only [w_X9_parseWord_5, tAload, tIload, nth, tGetI, tGetR, tConst, tLconst, tBin, tUn, tI2l, tAld, tAldR, tAlen, tIast, tBast, tZast, tAast, tIret, tZret, tVret, tAret, tIf, tIf2, tGoto, tIstore, tAstore, sset, tIinc, tDup, tDup2, tPop, tPutI, tPutZ, tPutR, tCallV, tCallS, popN, tFn, tCopy, tMax, tMin, tSw, swc, tRem, tObjI, Option.toList, List.nil_append, List.cons_append, okR, true_and, and_true, true_or, or_true, Nat.zero_le, ne_eq, not_false_eq_true, Nat.reduceEqDiff, t1, t2, t4, e5, e6, nI_clamp (show q < 2 ^ 31 by omega), hv, nI_s1]
      refine ⟨fun c => absurd c (by rw [nI_leI (by omega) (by omega)]; omega), fun _ => ⟨inb_nI (by omega) (by decide), fun c => stop (fun z => (er.mpr z).1 c), fun c => ⟨inb_nI (by omega) (by decide), fun c2 => stop (fun z => absurd (er.mpr z).2 (Int32.not_le.mpr c2)), fun c2 => ?_⟩⟩⟩
      have cr := er.mp ⟨c, Int32.not_lt.mp c2⟩
      exact ih (q + 1) _ _ _ _ (by omega) (by omega) (by rw [← hl, ltr_s cr]) (by rw [hν, upI_6])
  simp only [w_X9_parseWord_0, tAload, tIload, nth, tGetI, tGetR, tConst, tLconst, tBin, tUn, tI2l, tAld, tAldR, tAlen, tIast, tBast, tZast, tAast, tIret, tZret, tVret, tAret, tIf, tIf2, tGoto, tIstore, tAstore, sset, tIinc, tDup, tDup2, tPop, tPutI, tPutZ, tPutR, tCallV, tCallS, popN, tFn, tCopy, tMax, tMin, tSw, swc, tRem, tObjI, Option.toList, List.nil_append, List.cons_append, okR, true_and, and_true, true_or, or_true, Nat.zero_le, ne_eq, not_false_eq_true, Nat.reduceEqDiff, t1, ep]
  exact lets (n - p) p μ _ _ _ (by omega) (Nat.le_refl _) rfl (by rw [← ep, upI_self])
end Wo
