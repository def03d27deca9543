/-! ===== the class: what may help ===== -/
def mayJ (f t k s n : Int32) : Prop := if n = 1 then t = s ∧ elK k else if n = 2 then t = s ∨ (f = s ∧ (k = 0 ∨ k = 7)) else True
def w_X3_mayHelp_129 (M : CT) (G : Nat → PT) (Rp : RT) : PT := tConst 1 <| tZret Rp
def w_X3_mayHelp_128 (M : CT) (G : Nat → PT) (Rp : RT) : PT := tZret Rp
def w_X3_mayHelp_127 (M : CT) (G : Nat → PT) (Rp : RT) : PT := tConst 0 <| w_X3_mayHelp_128 M G Rp
def w_X3_mayHelp_123 (M : CT) (G : Nat → PT) (Rp : RT) : PT := tConst 1 <| tGoto (w_X3_mayHelp_128 M G Rp)
def w_X3_mayHelp_103 (M : CT) (G : Nat → PT) (Rp : RT) : PT := tAload 0 <| tGetI 2 10 1 <| tIload 1 <| tIf2 (fun x y => x = y) (w_X3_mayHelp_123 M G Rp) <| tAload 0 <| tGetI 2 10 0 <| tIload 1 <| tIf2 (fun x y => x ≠ y) (w_X3_mayHelp_127 M G Rp) <| tIload 3 <| tIf (fun x => x = 0) (w_X3_mayHelp_127 M G Rp) <| w_X3_mayHelp_123 M G Rp
def w_X3_mayHelp_102 (M : CT) (G : Nat → PT) (Rp : RT) : PT := tZret Rp
def w_X3_mayHelp_101 (M : CT) (G : Nat → PT) (Rp : RT) : PT := tConst 0 <| w_X3_mayHelp_102 M G Rp
def w_X3_mayHelp_84 (M : CT) (G : Nat → PT) (Rp : RT) : PT := tAload 0 <| tGetI 2 10 1 <| tIload 1 <| tIf2 (fun x y => x ≠ y) (w_X3_mayHelp_101 M G Rp) <| tIload 4 <| tIf (fun x => x = 0) (w_X3_mayHelp_101 M G Rp) <| tConst 1 <| tGoto (w_X3_mayHelp_102 M G Rp)
def w_X3_mayHelp_53 (M : CT) (G : Nat → PT) (Rp : RT) : PT := tIstore 4 <| tIload 2 <| tSw [(1, w_X3_mayHelp_84 M G Rp), (2, w_X3_mayHelp_103 M G Rp)] (w_X3_mayHelp_129 M G Rp)
def w_X3_mayHelp_52 (M : CT) (G : Nat → PT) (Rp : RT) : PT := tConst 0 <| w_X3_mayHelp_53 M G Rp
def w_X3_mayHelp_48 (M : CT) (G : Nat → PT) (Rp : RT) : PT := tConst 1 <| tGoto (w_X3_mayHelp_53 M G Rp)
def w_X3_mayHelp_21 (M : CT) (G : Nat → PT) (Rp : RT) : PT := tIstore 3 <| tAload 0 <| tGetI 2 10 2 <| tConst 1 <| tIf2 (fun x y => x = y) (w_X3_mayHelp_48 M G Rp) <| tAload 0 <| tGetI 2 10 2 <| tConst 6 <| tIf2 (fun x y => x = y) (w_X3_mayHelp_48 M G Rp) <| tAload 0 <| tGetI 2 10 2 <| tConst 8 <| tIf2 (fun x y => x ≠ y) (w_X3_mayHelp_52 M G Rp) <| w_X3_mayHelp_48 M G Rp
def w_X3_mayHelp_20 (M : CT) (G : Nat → PT) (Rp : RT) : PT := tConst 0 <| w_X3_mayHelp_21 M G Rp
def w_X3_mayHelp_16 (M : CT) (G : Nat → PT) (Rp : RT) : PT := tConst 1 <| tGoto (w_X3_mayHelp_21 M G Rp)
def w_X3_mayHelp_0 (M : CT) (G : Nat → PT) (Rp : RT) : PT := tAload 0 <| tGetI 2 10 2 <| tIf (fun x => x = 0) (w_X3_mayHelp_16 M G Rp) <| tAload 0 <| tGetI 2 10 2 <| tConst 7 <| tIf2 (fun x y => x ≠ y) (w_X3_mayHelp_20 M G Rp) <| w_X3_mayHelp_16 M G Rp
set_option maxRecDepth 20000 in
theorem b_X3_mayHelp_129 {Z : Zt} {d : Nat} {p : Program} {e : Env} {R : Room} {s : State} {m : MethodId} {args : Array Value} {below : List Frame} {meth : Method} {c : Code} {Rp : RT} (C : Cx Z d jX3_mayHelp RX3 p R s m args meth c) : Sd Z jX3_mayHelp p e R s m args below meth c (MQ below (QcS Z Rp) args s 0 0 (fun a => Z.2.2.1 < a)) 129 (w_X3_mayHelp_129 (MS Z d) (Gw Z 5 p e R s m args below meth c (MQ below (QcS Z Rp) args s 0 0 (fun a => Z.2.2.1 < a))) Rp) := by
  unfold w_X3_mayHelp_129
  refine s_iconst (n := 1) C (by decide +kernel) (by decide) ?_
  exact s_zret C rfl (by decide +kernel)
set_option maxRecDepth 20000 in
theorem b_X3_mayHelp_128 {Z : Zt} {d : Nat} {p : Program} {e : Env} {R : Room} {s : State} {m : MethodId} {args : Array Value} {below : List Frame} {meth : Method} {c : Code} {Rp : RT} (C : Cx Z d jX3_mayHelp RX3 p R s m args meth c) : Sd Z jX3_mayHelp p e R s m args below meth c (MQ below (QcS Z Rp) args s 0 0 (fun a => Z.2.2.1 < a)) 128 (w_X3_mayHelp_128 (MS Z d) (Gw Z 5 p e R s m args below meth c (MQ below (QcS Z Rp) args s 0 0 (fun a => Z.2.2.1 < a))) Rp) := by
  unfold w_X3_mayHelp_128
  exact s_zret C rfl (by decide +kernel)
set_option maxRecDepth 20000 in
theorem b_X3_mayHelp_127 {Z : Zt} {d : Nat} {p : Program} {e : Env} {R : Room} {s : State} {m : MethodId} {args : Array Value} {below : List Frame} {meth : Method} {c : Code} {Rp : RT} (C : Cx Z d jX3_mayHelp RX3 p R s m args meth c) : Sd Z jX3_mayHelp p e R s m args below meth c (MQ below (QcS Z Rp) args s 0 0 (fun a => Z.2.2.1 < a)) 127 (w_X3_mayHelp_127 (MS Z d) (Gw Z 5 p e R s m args below meth c (MQ below (QcS Z Rp) args s 0 0 (fun a => Z.2.2.1 < a))) Rp) := by
  unfold w_X3_mayHelp_127
  refine s_iconst (n := 0) C (by decide +kernel) (by decide) ?_
  exact (b_X3_mayHelp_128 C)
set_option maxRecDepth 20000 in
theorem b_X3_mayHelp_123 {Z : Zt} {d : Nat} {p : Program} {e : Env} {R : Room} {s : State} {m : MethodId} {args : Array Value} {below : List Frame} {meth : Method} {c : Code} {Rp : RT} (C : Cx Z d jX3_mayHelp RX3 p R s m args meth c) : Sd Z jX3_mayHelp p e R s m args below meth c (MQ below (QcS Z Rp) args s 0 0 (fun a => Z.2.2.1 < a)) 123 (w_X3_mayHelp_123 (MS Z d) (Gw Z 5 p e R s m args below meth c (MQ below (QcS Z Rp) args s 0 0 (fun a => Z.2.2.1 < a))) Rp) := by
  unfold w_X3_mayHelp_123
  refine s_iconst (n := 1) C (by decide +kernel) (by decide) ?_
  exact s_goto (off := 4) (tgt := 128) C (by decide +kernel) (by decide) (b_X3_mayHelp_128 C)
set_option maxRecDepth 20000 in
theorem b_X3_mayHelp_103 {Z : Zt} {d : Nat} {p : Program} {e : Env} {R : Room} {s : State} {m : MethodId} {args : Array Value} {below : List Frame} {meth : Method} {c : Code} {Rp : RT} (C : Cx Z d jX3_mayHelp RX3 p R s m args meth c) : Sd Z jX3_mayHelp p e R s m args below meth c (MQ below (QcS Z Rp) args s 0 0 (fun a => Z.2.2.1 < a)) 103 (w_X3_mayHelp_103 (MS Z d) (Gw Z 5 p e R s m args below meth c (MQ below (QcS Z Rp) args s 0 0 (fun a => Z.2.2.1 < a))) Rp) := by
  unfold w_X3_mayHelp_103
  refine s_aload_n (k := 0) C (by decide +kernel) ?_
  refine s_getI C w_1_59 (by decide +kernel) rfl ?_
  refine s_iload_n (k := 1) C (by decide +kernel) ?_
  refine s_icmp_eq (off := 15) (tgt := 123) C (by decide +kernel) (by decide) (b_X3_mayHelp_123 C) ?_
  refine s_aload_n (k := 0) C (by decide +kernel) ?_
  refine s_getI C w_1_54 (by decide +kernel) rfl ?_
  refine s_iload_n (k := 1) C (by decide +kernel) ?_
  refine s_icmp_ne (off := 11) (tgt := 127) C (by decide +kernel) (by decide) (b_X3_mayHelp_127 C) ?_
  refine s_iload_n (k := 3) C (by decide +kernel) ?_
  refine s_if_eq (off := 7) (tgt := 127) C (by decide +kernel) (by decide) (b_X3_mayHelp_127 C) ?_
  exact (b_X3_mayHelp_123 C)
set_option maxRecDepth 20000 in
theorem b_X3_mayHelp_102 {Z : Zt} {d : Nat} {p : Program} {e : Env} {R : Room} {s : State} {m : MethodId} {args : Array Value} {below : List Frame} {meth : Method} {c : Code} {Rp : RT} (C : Cx Z d jX3_mayHelp RX3 p R s m args meth c) : Sd Z jX3_mayHelp p e R s m args below meth c (MQ below (QcS Z Rp) args s 0 0 (fun a => Z.2.2.1 < a)) 102 (w_X3_mayHelp_102 (MS Z d) (Gw Z 5 p e R s m args below meth c (MQ below (QcS Z Rp) args s 0 0 (fun a => Z.2.2.1 < a))) Rp) := by
  unfold w_X3_mayHelp_102
  exact s_zret C rfl (by decide +kernel)
set_option maxRecDepth 20000 in
theorem b_X3_mayHelp_101 {Z : Zt} {d : Nat} {p : Program} {e : Env} {R : Room} {s : State} {m : MethodId} {args : Array Value} {below : List Frame} {meth : Method} {c : Code} {Rp : RT} (C : Cx Z d jX3_mayHelp RX3 p R s m args meth c) : Sd Z jX3_mayHelp p e R s m args below meth c (MQ below (QcS Z Rp) args s 0 0 (fun a => Z.2.2.1 < a)) 101 (w_X3_mayHelp_101 (MS Z d) (Gw Z 5 p e R s m args below meth c (MQ below (QcS Z Rp) args s 0 0 (fun a => Z.2.2.1 < a))) Rp) := by
  unfold w_X3_mayHelp_101
  refine s_iconst (n := 0) C (by decide +kernel) (by decide) ?_
  exact (b_X3_mayHelp_102 C)
set_option maxRecDepth 20000 in
theorem b_X3_mayHelp_84 {Z : Zt} {d : Nat} {p : Program} {e : Env} {R : Room} {s : State} {m : MethodId} {args : Array Value} {below : List Frame} {meth : Method} {c : Code} {Rp : RT} (C : Cx Z d jX3_mayHelp RX3 p R s m args meth c) : Sd Z jX3_mayHelp p e R s m args below meth c (MQ below (QcS Z Rp) args s 0 0 (fun a => Z.2.2.1 < a)) 84 (w_X3_mayHelp_84 (MS Z d) (Gw Z 5 p e R s m args below meth c (MQ below (QcS Z Rp) args s 0 0 (fun a => Z.2.2.1 < a))) Rp) := by
  unfold w_X3_mayHelp_84
  refine s_aload_n (k := 0) C (by decide +kernel) ?_
  refine s_getI C w_1_59 (by decide +kernel) rfl ?_
  refine s_iload_n (k := 1) C (by decide +kernel) ?_
  refine s_icmp_ne (off := 12) (tgt := 101) C (by decide +kernel) (by decide) (b_X3_mayHelp_101 C) ?_
  refine s_iload (k := 4) C (by decide +kernel) ?_
  refine s_if_eq (off := 7) (tgt := 101) C (by decide +kernel) (by decide) (b_X3_mayHelp_101 C) ?_
  refine s_iconst (n := 1) C (by decide +kernel) (by decide) ?_
  exact s_goto (off := 4) (tgt := 102) C (by decide +kernel) (by decide) (b_X3_mayHelp_102 C)
set_option maxRecDepth 20000 in
theorem b_X3_mayHelp_53 {Z : Zt} {d : Nat} {p : Program} {e : Env} {R : Room} {s : State} {m : MethodId} {args : Array Value} {below : List Frame} {meth : Method} {c : Code} {Rp : RT} (C : Cx Z d jX3_mayHelp RX3 p R s m args meth c) : Sd Z jX3_mayHelp p e R s m args below meth c (MQ below (QcS Z Rp) args s 0 0 (fun a => Z.2.2.1 < a)) 53 (w_X3_mayHelp_53 (MS Z d) (Gw Z 5 p e R s m args below meth c (MQ below (QcS Z Rp) args s 0 0 (fun a => Z.2.2.1 < a))) Rp) := by
  unfold w_X3_mayHelp_53
  refine s_istore (k := 4) C (by decide +kernel) ?_
  refine s_iload_n (k := 2) C (by decide +kernel) ?_
  refine s_lsw (df := 73) (ps := #[(1, 28), (2, 47)]) (len := 28) C (by decide +kernel) (by decide) 129 (by decide) (b_X3_mayHelp_129 C) (fun i r h => ?_) (fun x h => ?_)
  · match i, h with
    | 0, h => cases h; dsimp only; exact ⟨28, 84, by decide, by decide, (b_X3_mayHelp_84 C)⟩
    | 1, h => cases h; dsimp only; exact ⟨47, 103, by decide, by decide, (b_X3_mayHelp_103 C)⟩
    | q + 2, h => simp at h
  · refine lsw_out _ _ x (fun a ha => ?_)
    simp at ha h
    rcases ha with ⟨rfl, _⟩ | ⟨rfl, _⟩
    · exact fun z => h.1 (Int32.toInt_inj.mp (by rw [z]; rfl))
    · exact fun z => h.2 (Int32.toInt_inj.mp (by rw [z]; rfl))
set_option maxRecDepth 20000 in
theorem b_X3_mayHelp_52 {Z : Zt} {d : Nat} {p : Program} {e : Env} {R : Room} {s : State} {m : MethodId} {args : Array Value} {below : List Frame} {meth : Method} {c : Code} {Rp : RT} (C : Cx Z d jX3_mayHelp RX3 p R s m args meth c) : Sd Z jX3_mayHelp p e R s m args below meth c (MQ below (QcS Z Rp) args s 0 0 (fun a => Z.2.2.1 < a)) 52 (w_X3_mayHelp_52 (MS Z d) (Gw Z 5 p e R s m args below meth c (MQ below (QcS Z Rp) args s 0 0 (fun a => Z.2.2.1 < a))) Rp) := by
  unfold w_X3_mayHelp_52
  refine s_iconst (n := 0) C (by decide +kernel) (by decide) ?_
  exact (b_X3_mayHelp_53 C)
set_option maxRecDepth 20000 in
theorem b_X3_mayHelp_48 {Z : Zt} {d : Nat} {p : Program} {e : Env} {R : Room} {s : State} {m : MethodId} {args : Array Value} {below : List Frame} {meth : Method} {c : Code} {Rp : RT} (C : Cx Z d jX3_mayHelp RX3 p R s m args meth c) : Sd Z jX3_mayHelp p e R s m args below meth c (MQ below (QcS Z Rp) args s 0 0 (fun a => Z.2.2.1 < a)) 48 (w_X3_mayHelp_48 (MS Z d) (Gw Z 5 p e R s m args below meth c (MQ below (QcS Z Rp) args s 0 0 (fun a => Z.2.2.1 < a))) Rp) := by
  unfold w_X3_mayHelp_48
  refine s_iconst (n := 1) C (by decide +kernel) (by decide) ?_
  exact s_goto (off := 4) (tgt := 53) C (by decide +kernel) (by decide) (b_X3_mayHelp_53 C)
set_option maxRecDepth 20000 in
theorem b_X3_mayHelp_21 {Z : Zt} {d : Nat} {p : Program} {e : Env} {R : Room} {s : State} {m : MethodId} {args : Array Value} {below : List Frame} {meth : Method} {c : Code} {Rp : RT} (C : Cx Z d jX3_mayHelp RX3 p R s m args meth c) : Sd Z jX3_mayHelp p e R s m args below meth c (MQ below (QcS Z Rp) args s 0 0 (fun a => Z.2.2.1 < a)) 21 (w_X3_mayHelp_21 (MS Z d) (Gw Z 5 p e R s m args below meth c (MQ below (QcS Z Rp) args s 0 0 (fun a => Z.2.2.1 < a))) Rp) := by
  unfold w_X3_mayHelp_21
  refine s_istore_n (k := 3) C (by decide +kernel) ?_
  refine s_aload_n (k := 0) C (by decide +kernel) ?_
  refine s_getI C w_1_64 (by decide +kernel) rfl ?_
  refine s_iconst (n := 1) C (by decide +kernel) (by decide) ?_
  refine s_icmp_eq (off := 21) (tgt := 48) C (by decide +kernel) (by decide) (b_X3_mayHelp_48 C) ?_
  refine s_aload_n (k := 0) C (by decide +kernel) ?_
  refine s_getI C w_1_64 (by decide +kernel) rfl ?_
  refine s_bipush (n := 6) C (by decide +kernel) (by decide) ?_
  refine s_icmp_eq (off := 12) (tgt := 48) C (by decide +kernel) (by decide) (b_X3_mayHelp_48 C) ?_
  refine s_aload_n (k := 0) C (by decide +kernel) ?_
  refine s_getI C w_1_64 (by decide +kernel) rfl ?_
  refine s_bipush (n := 8) C (by decide +kernel) (by decide) ?_
  refine s_icmp_ne (off := 7) (tgt := 52) C (by decide +kernel) (by decide) (b_X3_mayHelp_52 C) ?_
  exact (b_X3_mayHelp_48 C)
set_option maxRecDepth 20000 in
theorem b_X3_mayHelp_20 {Z : Zt} {d : Nat} {p : Program} {e : Env} {R : Room} {s : State} {m : MethodId} {args : Array Value} {below : List Frame} {meth : Method} {c : Code} {Rp : RT} (C : Cx Z d jX3_mayHelp RX3 p R s m args meth c) : Sd Z jX3_mayHelp p e R s m args below meth c (MQ below (QcS Z Rp) args s 0 0 (fun a => Z.2.2.1 < a)) 20 (w_X3_mayHelp_20 (MS Z d) (Gw Z 5 p e R s m args below meth c (MQ below (QcS Z Rp) args s 0 0 (fun a => Z.2.2.1 < a))) Rp) := by
  unfold w_X3_mayHelp_20
  refine s_iconst (n := 0) C (by decide +kernel) (by decide) ?_
  exact (b_X3_mayHelp_21 C)
set_option maxRecDepth 20000 in
theorem b_X3_mayHelp_16 {Z : Zt} {d : Nat} {p : Program} {e : Env} {R : Room} {s : State} {m : MethodId} {args : Array Value} {below : List Frame} {meth : Method} {c : Code} {Rp : RT} (C : Cx Z d jX3_mayHelp RX3 p R s m args meth c) : Sd Z jX3_mayHelp p e R s m args below meth c (MQ below (QcS Z Rp) args s 0 0 (fun a => Z.2.2.1 < a)) 16 (w_X3_mayHelp_16 (MS Z d) (Gw Z 5 p e R s m args below meth c (MQ below (QcS Z Rp) args s 0 0 (fun a => Z.2.2.1 < a))) Rp) := by
  unfold w_X3_mayHelp_16
  refine s_iconst (n := 1) C (by decide +kernel) (by decide) ?_
  exact s_goto (off := 4) (tgt := 21) C (by decide +kernel) (by decide) (b_X3_mayHelp_21 C)
set_option maxRecDepth 20000 in
theorem b_X3_mayHelp_0 {Z : Zt} {d : Nat} {p : Program} {e : Env} {R : Room} {s : State} {m : MethodId} {args : Array Value} {below : List Frame} {meth : Method} {c : Code} {Rp : RT} (C : Cx Z d jX3_mayHelp RX3 p R s m args meth c) : Sd Z jX3_mayHelp p e R s m args below meth c (MQ below (QcS Z Rp) args s 0 0 (fun a => Z.2.2.1 < a)) 0 (w_X3_mayHelp_0 (MS Z d) (Gw Z 5 p e R s m args below meth c (MQ below (QcS Z Rp) args s 0 0 (fun a => Z.2.2.1 < a))) Rp) := by
  unfold w_X3_mayHelp_0
  refine s_aload_n (k := 0) C (by decide +kernel) ?_
  refine s_getI C w_1_64 (by decide +kernel) rfl ?_
  refine s_if_eq (off := 12) (tgt := 16) C (by decide +kernel) (by decide) (b_X3_mayHelp_16 C) ?_
  refine s_aload_n (k := 0) C (by decide +kernel) ?_
  refine s_getI C w_1_64 (by decide +kernel) rfl ?_
  refine s_bipush (n := 7) C (by decide +kernel) (by decide) ?_
  refine s_icmp_ne (off := 7) (tgt := 20) C (by decide +kernel) (by decide) (b_X3_mayHelp_20 C) ?_
  exact (b_X3_mayHelp_16 C)
theorem ms_X3_mayHelp {Z : Zt} {d : Nat} {S : Sh} {μ : Mi} {ρ : Mr} {Rp : RT} (a1 : Nat) (x2 : Int32) (x3 : Int32) (h : ∀ G : Nat → PT, w_X3_mayHelp_0 (MS Z d) G Rp [.ref a1, .int x2, .int x3, .null, .null] [] S (0, 0) μ ρ) : MS Z (d + 1) jX3_mayHelp [.ref a1, .int x2, .int x3] S μ ρ Rp :=
  MS_of [.ref a1, .int x2, .int x3, .null, .null] (by decide +kernel) rfl rfl (Nat.le_of_ble_eq_true rfl) rfl (fun p e R s m args below meth c C => b_X3_mayHelp_0 C _ _ _ _ _ _ (h _ ))
def F_X3_mayHelp : FT := fun As S μ ρ k => match As with
  | [.ref m, .int s, .int n] => S.2 m = (2, 10) ∧ (mayJ (μ m 0) (μ m 1) (μ m 2) s n → k (some (.int 1)) μ) ∧ (¬ mayJ (μ m 0) (μ m 1) (μ m 2) s n → k (some (.int 0)) μ)
  | _ => False
set_option maxHeartbeats 1000000 in
theorem f_X3_mayHelp {Z : Zt} {d : Nat} {As : List Value} {S : Sh} {μ : Mi} {ρ : Mr} {Rp : RT} (h : F_X3_mayHelp As S μ ρ (fun r μ' => Rp r S μ' ρ)) : MS Z (d + 1) jX3_mayHelp As S μ ρ Rp := by
  unfold F_X3_mayHelp at h
  split at h
  · rename_i m s n
    obtain ⟨h1, hy, hn⟩ := h
    refine ms_X3_mayHelp _ _ _ (fun G => ?_)
    have w53 : ∀ a e : Int32, (a = 0 ∨ a = 1) → (e = 0 ∨ e = 1) → (a = 1 ↔ (μ m 2 = 0 ∨ μ m 2 = 7)) → (e = 1 ↔ elK (μ m 2)) → w_X3_mayHelp_53 (MS Z (d + 0)) G Rp [.ref m, .int s, .int n, .int a, .null] [.int e] S (0, 0) μ ρ := by
      intro a e ha he ia ie
      unfold mayJ at hy hn
      simp only [w_X3_mayHelp_53, w_X3_mayHelp_84, w_X3_mayHelp_103, w_X3_mayHelp_129, w_X3_mayHelp_101, w_X3_mayHelp_102, w_X3_mayHelp_123, w_X3_mayHelp_127, w_X3_mayHelp_128, tAload, tIload, nth, tGetI, tGetR, tConst, tLconst, tBin, tUn, tI2l, tAld, tAldR, tAlen, tIast, tBast, tZast, tAast, tIret, tZret, tVret, tAret, tIf, tIf2, tGoto, tIstore, tAstore, sset, tIinc, tDup, tDup2, tPop, tPutI, tPutZ, tPutR, tCallV, tCallS, popN, tFn, tCopy, tMax, tMin, tSw, swc, tRem, tObjI, Option.toList, List.nil_append, List.cons_append, okR, true_and, and_true, true_or, or_true, Nat.zero_le, ne_eq, not_false_eq_true, Nat.reduceEqDiff, h1]
      refine ⟨fun c => ?_, fun c => ⟨fun c2 => ?_, fun c2 => ?_⟩⟩
      · rw [if_pos c] at hy hn
        exact ⟨fun q => hn (fun z => q z.1), fun q => ⟨fun z => hn (fun y => absurd (z.symm.trans (ie.mpr y.2)) (by decide)), fun z => hy ⟨Classical.not_not.mp q, ie.mp (he.elim (fun y => absurd y z) id)⟩⟩⟩
      · rw [if_neg c, if_pos c2] at hy hn
        exact ⟨fun q => hy (Or.inl q), fun q => ⟨fun z => hn (fun y => y.elim q (fun y => z y.1)), fun z => ⟨fun x => hn (fun y => y.elim q (fun y => absurd (x.symm.trans (ia.mpr y.2)) (by decide))), fun x => hy (Or.inr ⟨Classical.not_not.mp z, ia.mp (ha.elim (fun y => absurd y x) id)⟩)⟩⟩⟩
      · rw [if_neg c, if_neg c2] at hy
        exact hy trivial
    simp only [w_X3_mayHelp_0, w_X3_mayHelp_16, w_X3_mayHelp_20, w_X3_mayHelp_21, w_X3_mayHelp_48, w_X3_mayHelp_52, tAload, tIload, nth, tGetI, tGetR, tConst, tLconst, tBin, tUn, tI2l, tAld, tAldR, tAlen, tIast, tBast, tZast, tAast, tIret, tZret, tVret, tAret, tIf, tIf2, tGoto, tIstore, tAstore, sset, tIinc, tDup, tDup2, tPop, tPutI, tPutZ, tPutR, tCallV, tCallS, popN, tFn, tCopy, tMax, tMin, tSw, swc, tRem, tObjI, Option.toList, List.nil_append, List.cons_append, okR, true_and, and_true, true_or, or_true, Nat.zero_le, ne_eq, not_false_eq_true, Nat.reduceEqDiff, h1]
    exact ⟨fun c0 => ⟨fun c => w53 1 1 (Or.inr rfl) (Or.inr rfl) ⟨fun _ => Or.inl c0, fun _ => rfl⟩ ⟨fun _ => Or.inl c, fun _ => rfl⟩, fun c1 => ⟨fun c => w53 1 1 (Or.inr rfl) (Or.inr rfl) ⟨fun _ => Or.inl c0, fun _ => rfl⟩ ⟨fun _ => Or.inr (Or.inl c), fun _ => rfl⟩, fun c2 => ⟨fun c => w53 1 0 (Or.inr rfl) (Or.inl rfl) ⟨fun _ => Or.inl c0, fun _ => rfl⟩ ⟨fun z => absurd z (by decide), fun z => z.elim (fun q => absurd q c1) (fun q => q.elim (fun q => absurd q c2) (fun q => absurd q c))⟩, fun c => w53 1 1 (Or.inr rfl) (Or.inr rfl) ⟨fun _ => Or.inl c0, fun _ => rfl⟩ ⟨fun _ => Or.inr (Or.inr (Classical.not_not.mp c)), fun _ => rfl⟩⟩⟩⟩, fun c0 => ⟨fun c7 => ⟨fun c => w53 0 1 (Or.inl rfl) (Or.inr rfl) ⟨fun z => absurd z (by decide), fun z => z.elim (fun q => absurd q c0) (fun q => absurd q c7)⟩ ⟨fun _ => Or.inl c, fun _ => rfl⟩, fun c1 => ⟨fun c => w53 0 1 (Or.inl rfl) (Or.inr rfl) ⟨fun z => absurd z (by decide), fun z => z.elim (fun q => absurd q c0) (fun q => absurd q c7)⟩ ⟨fun _ => Or.inr (Or.inl c), fun _ => rfl⟩, fun c2 => ⟨fun c => w53 0 0 (Or.inl rfl) (Or.inl rfl) ⟨fun z => absurd z (by decide), fun z => z.elim (fun q => absurd q c0) (fun q => absurd q c7)⟩ ⟨fun z => absurd z (by decide), fun z => z.elim (fun q => absurd q c1) (fun q => q.elim (fun q => absurd q c2) (fun q => absurd q c))⟩, fun c => w53 0 1 (Or.inl rfl) (Or.inr rfl) ⟨fun z => absurd z (by decide), fun z => z.elim (fun q => absurd q c0) (fun q => absurd q c7)⟩ ⟨fun _ => Or.inr (Or.inr (Classical.not_not.mp c)), fun _ => rfl⟩⟩⟩⟩, fun c7 => ⟨fun c => w53 1 1 (Or.inr rfl) (Or.inr rfl) ⟨fun _ => Or.inr (Classical.not_not.mp c7), fun _ => rfl⟩ ⟨fun _ => Or.inl c, fun _ => rfl⟩, fun c1 => ⟨fun c => w53 1 1 (Or.inr rfl) (Or.inr rfl) ⟨fun _ => Or.inr (Classical.not_not.mp c7), fun _ => rfl⟩ ⟨fun _ => Or.inr (Or.inl c), fun _ => rfl⟩, fun c2 => ⟨fun c => w53 1 0 (Or.inr rfl) (Or.inl rfl) ⟨fun _ => Or.inr (Classical.not_not.mp c7), fun _ => rfl⟩ ⟨fun z => absurd z (by decide), fun z => z.elim (fun q => absurd q c1) (fun q => q.elim (fun q => absurd q c2) (fun q => absurd q c))⟩, fun c => w53 1 1 (Or.inr rfl) (Or.inr rfl) ⟨fun _ => Or.inr (Classical.not_not.mp c7), fun _ => rfl⟩ ⟨fun _ => Or.inr (Or.inr (Classical.not_not.mp c)), fun _ => rfl⟩⟩⟩⟩⟩⟩
  · exact h.elim
/-- what changes while it is searched: pages below a depth -/
def apN (n w : Nat) : Prop := w + 170 ≤ 346 ∨ 346 + 170 * n ≤ w
def PF (n : Nat) (S : Sh) (μ : Mi) (ρ : Mr) (μ' : Mi) (ρ' : Mr) : Prop := ((∀ y : Nat, (y < 346 ∨ 346 + 170 * n ≤ y) → μ' y = μ y) ∧ ∀ y : Nat, (y < 346 ∨ 346 + 170 * n ≤ y) → ρ' y = ρ y) ∧ (∀ (C : Rw) (w : Nat), apN n w → RR C w S μ ρ → RR C w S μ' ρ') ∧ ∀ i, i < n → anyW (346 + 170 * i) S μ' ρ'
section Pf
variable {n : Nat} {S : Sh} {μ μ1 μ2 : Mi} {ρ ρ1 ρ2 : Mr}
theorem PF_rf (h : ∀ i, i < n → anyW (346 + 170 * i) S μ ρ) : PF n S μ ρ μ ρ := ⟨⟨fun _ _ => rfl, fun _ _ => rfl⟩, fun _ _ _ h => h, h⟩
theorem PF_tr (h : PF n S μ ρ μ1 ρ1) (h' : PF n S μ1 ρ1 μ2 ρ2) : PF n S μ ρ μ2 ρ2 :=
  ⟨⟨fun y hy => (h'.1.1 y hy).trans (h.1.1 y hy), fun y hy => (h'.1.2 y hy).trans (h.1.2 y hy)⟩, fun C w a b => h'.2.1 C w a (h.2.1 C w a b), h'.2.2⟩
theorem PF_s (h : PF n S μ ρ μ1 ρ1) (hn : anyW (346 + 170 * n) S μ ρ) : PF (n + 1) S μ ρ μ1 ρ1 := by
  refine ⟨⟨fun y hy => h.1.1 y (by omega), fun y hy => h.1.2 y (by omega)⟩, fun C w a b => h.2.1 C w (by unfold apN at *; omega) b, fun i hi => ?_⟩
  by_cases c : i = n
  · subst c
    obtain ⟨B, hB⟩ := hn
    exact ⟨B, h.2.1 B _ (by unfold apN; omega) hB⟩
  · exact h.2.2 i (by omega)
theorem PF_v (h : ∀ i, i < n → anyW (346 + 170 * i) S μ ρ) (hn : anyW (346 + 170 * n) S μ1 ρ1) (ho : Ot (346 + 170 * n) μ μ1) (hr : Orf (346 + 170 * n) ρ ρ1) : PF (n + 1) S μ ρ μ1 ρ1 := by
  refine ⟨⟨fun y hy => ho y (by omega), fun y hy => hr y (by omega)⟩, fun C w a b => RR_far b (by unfold apN at a; unfold apW; omega) ho hr, fun i hi => ?_⟩
  by_cases c : i = n
  · subst c; exact hn
  · exact any_far (h i (by omega)) (by unfold apW; omega) ho hr
end Pf
