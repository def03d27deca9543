def w_X12_agrees_166 (M : CT) (G : Nat → PT) (Rp : RT) : PT := tVret Rp
def w_X12_agrees_123 (M : CT) (G : Nat → PT) (Rp : RT) : PT := tAload 0 <| tIload 1 <| tFn 2 F_X12_laysMembers <| tAload 0 <| tGetI 12 27 9 <| tIf (fun x => x ≠ 0) (w_X12_agrees_166 M G Rp) <| tAload 0 <| tGetI 12 27 11 <| tAload 0 <| tIload 1 <| tConst 7 <| tFn 3 F_X12_of <| tIf2 (fun x y => y < x) (w_X12_agrees_166 M G Rp) <| tAload 0 <| tGetI 12 27 8 <| tIload 1 <| tFn 2 F_X12_has <| tIf (fun x => x ≠ 0) (w_X12_agrees_166 M G Rp) <| tAload 0 <| tIload 1 <| tConst 0 <| tFn 3 F_X12_plays <| w_X12_agrees_166 M G Rp
def w_X12_agrees_58 (M : CT) (G : Nat → PT) (Rp : RT) : PT := tAload 0 <| tIload 1 <| tIload 2 <| tFn 3 F_X12_does <| tAload 0 <| tGetI 12 27 9 <| tIf (fun x => x = 0) (w_X12_agrees_123 M G Rp) <| tAload 0 <| tGetI 12 27 11 <| tAload 0 <| tIload 1 <| tConst 7 <| tFn 3 F_X12_of <| tIf2 (fun x y => y < x) (w_X12_agrees_123 M G Rp) <| tAload 0 <| tIload 1 <| tConst 4 <| tFn 3 F_X12_of <| tConst 120 <| tIf2 (fun x y => y ≤ x) (w_X12_agrees_123 M G Rp) <| tAload 0 <| tIload 1 <| tAload 0 <| tIload 1 <| tConst 1 <| tFn 3 F_X12_of <| tConst 4 <| tAload 0 <| tGetI 12 27 9 <| tConst 0 <| tFn 6 F_X12_comesToLog <| tAload 0 <| tIload 1 <| tFn 2 F_X12_feedsAll <| tAload 0 <| tIload 1 <| tCallV M jX12_agrees 12 27 1 <| w_X12_agrees_123 M G Rp
def w_X12_agrees_52 (M : CT) (G : Nat → PT) (Rp : RT) : PT := tIinc 2 (-1) <| tGoto (G 12)
def w_X12_agrees_12 (M : CT) (G : Nat → PT) (Rp : RT) : PT := tIload 2 <| tAload 0 <| tIload 1 <| tConst 7 <| tFn 3 F_X12_of <| tIf2 (fun x y => x ≤ y) (w_X12_agrees_58 M G Rp) <| tAload 0 <| tIload 1 <| tIload 2 <| tConst 0 <| tFn 4 F_X12_ofEntry <| tAload 0 <| tIload 1 <| tConst 1 <| tFn 3 F_X12_of <| tIf2 (fun x y => x ≠ y) (w_X12_agrees_52 M G Rp) <| tAload 0 <| tAload 0 <| tIload 1 <| tIload 2 <| tFn 3 F_X12_having <| tFn 2 F_X12_isMajority <| tIf (fun x => x ≠ 0) (w_X12_agrees_58 M G Rp) <| w_X12_agrees_52 M G Rp
def w_X12_agrees_0 (M : CT) (G : Nat → PT) (Rp : RT) : PT := tAload 0 <| tIload 1 <| tFn 2 F_X12_laysMembers <| tAload 0 <| tIload 1 <| tConst 4 <| tFn 3 F_X12_of <| tIstore 2 <| G 12
set_option maxRecDepth 20000 in
theorem b_X12_agrees_166 {Z : Zt} {d : Nat} {p : Program} {e : Env} {R : Room} {s : State} {m : MethodId} {args : Array Value} {below : List Frame} {meth : Method} {c : Code} {Rp : RT} (C : Cx Z (d + 5) jX12_agrees RX12 p R s m args meth c) : Sd Z jX12_agrees p e R s m args below meth c (MQ below (QcS Z Rp) args s 0 0 (fun a => Z.2.2.1 < a)) 166 (w_X12_agrees_166 (MS Z (d + 5)) (Gw Z 3 p e R s m args below meth c (MQ below (QcS Z Rp) args s 0 0 (fun a => Z.2.2.1 < a))) Rp) := by
  unfold w_X12_agrees_166
  exact s_vret C rfl (by decide +kernel)
set_option maxRecDepth 20000 in
theorem b_X12_agrees_123 {Z : Zt} {d : Nat} {p : Program} {e : Env} {R : Room} {s : State} {m : MethodId} {args : Array Value} {below : List Frame} {meth : Method} {c : Code} {Rp : RT} (C : Cx Z (d + 5) jX12_agrees RX12 p R s m args meth c) : Sd Z jX12_agrees p e R s m args below meth c (MQ below (QcS Z Rp) args s 0 0 (fun a => Z.2.2.1 < a)) 123 (w_X12_agrees_123 (MS Z (d + 5)) (Gw Z 3 p e R s m args below meth c (MQ below (QcS Z Rp) args s 0 0 (fun a => Z.2.2.1 < a))) Rp) := by
  unfold w_X12_agrees_123
  refine s_aload_n (k := 0) C (by decide +kernel) ?_
  refine s_iload_n (k := 1) C (by decide +kernel) ?_
  refine s_fnV C (j2 := jX12_laysMembers) (cl := 12) (nf := 27) rfl rfl (by decide +kernel) rfl w_6_216 w_6_218 w_p3_10 w_1_13 w_6_219 (by decide +kernel) (fun _ _ _ _ _ h => f_X12_laysMembers h) (fun _ _ _ _ _ h => r_X12_laysMembers h) ?_
  refine s_aload_n (k := 0) C (by decide +kernel) ?_
  refine s_getI C w_6_96 (by decide +kernel) rfl ?_
  refine s_if_ne (off := 34) (tgt := 166) C (by decide +kernel) (by decide) (b_X12_agrees_166 C) ?_
  refine s_aload_n (k := 0) C (by decide +kernel) ?_
  refine s_getI C w_6_98 (by decide +kernel) rfl ?_
  refine s_aload_n (k := 0) C (by decide +kernel) ?_
  refine s_iload_n (k := 1) C (by decide +kernel) ?_
  refine s_bipush (n := 7) C (by decide +kernel) (by decide) ?_
  refine s_fnV C (j2 := jX12_of) (cl := 12) (nf := 27) rfl rfl (by decide +kernel) rfl w_6_220 w_6_222 w_p3_11 w_1_13 w_6_223 (by decide +kernel) (fun _ _ _ _ _ h => f_X12_of h) (fun _ _ _ _ _ h => r_X12_of h) ?_
  refine s_icmp_gt (off := 20) (tgt := 166) C (by decide +kernel) (by decide) (b_X12_agrees_166 C) ?_
  refine s_aload_n (k := 0) C (by decide +kernel) ?_
  refine s_getI C w_6_95 (by decide +kernel) rfl ?_
  refine s_iload_n (k := 1) C (by decide +kernel) ?_
  refine s_fnS C (j2 := jX12_has) (by decide +kernel) rfl w_7_0 w_7_1 w_1_13 w_7_2 (by decide +kernel) (fun _ _ _ _ _ h => f_X12_has h) ?_
  refine s_if_ne (off := 9) (tgt := 166) C (by decide +kernel) (by decide) (b_X12_agrees_166 C) ?_
  refine s_aload_n (k := 0) C (by decide +kernel) ?_
  refine s_iload_n (k := 1) C (by decide +kernel) ?_
  refine s_iconst (n := 0) C (by decide +kernel) (by decide) ?_
  refine s_fnV C (j2 := jX12_plays) (cl := 12) (nf := 27) rfl rfl (by decide +kernel) rfl w_7_11 w_7_13 w_p4_2 w_1_13 w_7_14 (by decide +kernel) (fun _ _ _ _ _ h => f_X12_plays h) (fun _ _ _ _ _ h => r_X12_plays h) ?_
  exact (b_X12_agrees_166 C)
set_option maxRecDepth 20000 in
theorem b_X12_agrees_58 {Z : Zt} {d : Nat} {p : Program} {e : Env} {R : Room} {s : State} {m : MethodId} {args : Array Value} {below : List Frame} {meth : Method} {c : Code} {Rp : RT} (C : Cx Z (d + 5) jX12_agrees RX12 p R s m args meth c) : Sd Z jX12_agrees p e R s m args below meth c (MQ below (QcS Z Rp) args s 0 0 (fun a => Z.2.2.1 < a)) 58 (w_X12_agrees_58 (MS Z (d + 5)) (Gw Z 3 p e R s m args below meth c (MQ below (QcS Z Rp) args s 0 0 (fun a => Z.2.2.1 < a))) Rp) := by
  unfold w_X12_agrees_58
  refine s_aload_n (k := 0) C (by decide +kernel) ?_
  refine s_iload_n (k := 1) C (by decide +kernel) ?_
  refine s_iload_n (k := 2) C (by decide +kernel) ?_
  refine s_fnV C (j2 := jX12_does) (cl := 12) (nf := 27) rfl rfl (by decide +kernel) rfl w_7_69 w_7_71 w_p4_15 w_1_13 w_7_72 (by decide +kernel) (fun _ _ _ _ _ h => f_X12_does h) (fun _ _ _ _ _ h => r_X12_does h) ?_
  refine s_aload_n (k := 0) C (by decide +kernel) ?_
  refine s_getI C w_6_96 (by decide +kernel) rfl ?_
  refine s_if_eq (off := 55) (tgt := 123) C (by decide +kernel) (by decide) (b_X12_agrees_123 C) ?_
  refine s_aload_n (k := 0) C (by decide +kernel) ?_
  refine s_getI C w_6_98 (by decide +kernel) rfl ?_
  refine s_aload_n (k := 0) C (by decide +kernel) ?_
  refine s_iload_n (k := 1) C (by decide +kernel) ?_
  refine s_bipush (n := 7) C (by decide +kernel) (by decide) ?_
  refine s_fnV C (j2 := jX12_of) (cl := 12) (nf := 27) rfl rfl (by decide +kernel) rfl w_6_220 w_6_222 w_p3_11 w_1_13 w_6_223 (by decide +kernel) (fun _ _ _ _ _ h => f_X12_of h) (fun _ _ _ _ _ h => r_X12_of h) ?_
  refine s_icmp_gt (off := 41) (tgt := 123) C (by decide +kernel) (by decide) (b_X12_agrees_123 C) ?_
  refine s_aload_n (k := 0) C (by decide +kernel) ?_
  refine s_iload_n (k := 1) C (by decide +kernel) ?_
  refine s_iconst (n := 4) C (by decide +kernel) (by decide) ?_
  refine s_fnV C (j2 := jX12_of) (cl := 12) (nf := 27) rfl rfl (by decide +kernel) rfl w_6_220 w_6_222 w_p3_11 w_1_13 w_6_223 (by decide +kernel) (fun _ _ _ _ _ h => f_X12_of h) (fun _ _ _ _ _ h => r_X12_of h) ?_
  refine s_bipush (n := 120) C (by decide +kernel) (by decide) ?_
  refine s_icmp_ge (off := 30) (tgt := 123) C (by decide +kernel) (by decide) (b_X12_agrees_123 C) ?_
  refine s_aload_n (k := 0) C (by decide +kernel) ?_
  refine s_iload_n (k := 1) C (by decide +kernel) ?_
  refine s_aload_n (k := 0) C (by decide +kernel) ?_
  refine s_iload_n (k := 1) C (by decide +kernel) ?_
  refine s_iconst (n := 1) C (by decide +kernel) (by decide) ?_
  refine s_fnV C (j2 := jX12_of) (cl := 12) (nf := 27) rfl rfl (by decide +kernel) rfl w_6_220 w_6_222 w_p3_11 w_1_13 w_6_223 (by decide +kernel) (fun _ _ _ _ _ h => f_X12_of h) (fun _ _ _ _ _ h => r_X12_of h) ?_
  refine s_iconst (n := 4) C (by decide +kernel) (by decide) ?_
  refine s_aload_n (k := 0) C (by decide +kernel) ?_
  refine s_getI C w_6_96 (by decide +kernel) rfl ?_
  refine s_iconst (n := 0) C (by decide +kernel) (by decide) ?_
  refine s_fnV C (j2 := jX12_comesToLog) (cl := 12) (nf := 27) rfl rfl (by decide +kernel) rfl w_7_43 w_7_45 w_p4_10 w_1_13 w_7_46 (by decide +kernel) (fun _ _ _ _ _ h => f_X12_comesToLog h) (fun _ _ _ _ _ h => r_X12_comesToLog h) ?_
  refine s_aload_n (k := 0) C (by decide +kernel) ?_
  refine s_iload_n (k := 1) C (by decide +kernel) ?_
  refine s_fnV C (j2 := jX12_feedsAll) (cl := 12) (nf := 27) rfl rfl (by decide +kernel) rfl w_7_47 w_7_49 w_p4_11 w_1_13 w_7_50 (by decide +kernel) (fun _ _ _ _ _ h => f_X12_feedsAll h) (fun _ _ _ _ _ h => r_X12_feedsAll h) ?_
  refine s_aload_n (k := 0) C (by decide +kernel) ?_
  refine s_iload_n (k := 1) C (by decide +kernel) ?_
  refine s_callV C rfl rfl (by decide +kernel) rfl w_7_61 w_7_63 w_p4_13 w_1_13 w_7_64 (by decide +kernel) ?_
  exact (b_X12_agrees_123 C)
set_option maxRecDepth 20000 in
theorem b_X12_agrees_52 {Z : Zt} {d : Nat} {p : Program} {e : Env} {R : Room} {s : State} {m : MethodId} {args : Array Value} {below : List Frame} {meth : Method} {c : Code} {Rp : RT} (C : Cx Z (d + 5) jX12_agrees RX12 p R s m args meth c) : Sd Z jX12_agrees p e R s m args below meth c (MQ below (QcS Z Rp) args s 0 0 (fun a => Z.2.2.1 < a)) 52 (w_X12_agrees_52 (MS Z (d + 5)) (Gw Z 3 p e R s m args below meth c (MQ below (QcS Z Rp) args s 0 0 (fun a => Z.2.2.1 < a))) Rp) := by
  unfold w_X12_agrees_52
  refine s_iinc (n := (-1)) C (by decide +kernel) (by decide) ?_
  exact s_goto (off := (-43)) (tgt := 12) C (by decide +kernel) (by decide) (fun _ _ _ _ _ _ h => h)
set_option maxRecDepth 20000 in
theorem b_X12_agrees_12 {Z : Zt} {d : Nat} {p : Program} {e : Env} {R : Room} {s : State} {m : MethodId} {args : Array Value} {below : List Frame} {meth : Method} {c : Code} {Rp : RT} (C : Cx Z (d + 5) jX12_agrees RX12 p R s m args meth c) : Sd Z jX12_agrees p e R s m args below meth c (MQ below (QcS Z Rp) args s 0 0 (fun a => Z.2.2.1 < a)) 12 (w_X12_agrees_12 (MS Z (d + 5)) (Gw Z 3 p e R s m args below meth c (MQ below (QcS Z Rp) args s 0 0 (fun a => Z.2.2.1 < a))) Rp) := by
  unfold w_X12_agrees_12
  refine s_iload_n (k := 2) C (by decide +kernel) ?_
  refine s_aload_n (k := 0) C (by decide +kernel) ?_
  refine s_iload_n (k := 1) C (by decide +kernel) ?_
  refine s_bipush (n := 7) C (by decide +kernel) (by decide) ?_
  refine s_fnV C (j2 := jX12_of) (cl := 12) (nf := 27) rfl rfl (by decide +kernel) rfl w_6_220 w_6_222 w_p3_11 w_1_13 w_6_223 (by decide +kernel) (fun _ _ _ _ _ h => f_X12_of h) (fun _ _ _ _ _ h => r_X12_of h) ?_
  refine s_icmp_le (off := 38) (tgt := 58) C (by decide +kernel) (by decide) (b_X12_agrees_58 C) ?_
  refine s_aload_n (k := 0) C (by decide +kernel) ?_
  refine s_iload_n (k := 1) C (by decide +kernel) ?_
  refine s_iload_n (k := 2) C (by decide +kernel) ?_
  refine s_iconst (n := 0) C (by decide +kernel) (by decide) ?_
  refine s_fnV C (j2 := jX12_ofEntry) (cl := 12) (nf := 27) rfl rfl (by decide +kernel) rfl w_6_228 w_6_230 w_p3_13 w_1_13 w_6_231 (by decide +kernel) (fun _ _ _ _ _ h => f_X12_ofEntry h) (fun _ _ _ _ _ h => r_X12_ofEntry h) ?_
  refine s_aload_n (k := 0) C (by decide +kernel) ?_
  refine s_iload_n (k := 1) C (by decide +kernel) ?_
  refine s_iconst (n := 1) C (by decide +kernel) (by decide) ?_
  refine s_fnV C (j2 := jX12_of) (cl := 12) (nf := 27) rfl rfl (by decide +kernel) rfl w_6_220 w_6_222 w_p3_11 w_1_13 w_6_223 (by decide +kernel) (fun _ _ _ _ _ h => f_X12_of h) (fun _ _ _ _ _ h => r_X12_of h) ?_
  refine s_icmp_ne (off := 16) (tgt := 52) C (by decide +kernel) (by decide) (b_X12_agrees_52 C) ?_
  refine s_aload_n (k := 0) C (by decide +kernel) ?_
  refine s_aload_n (k := 0) C (by decide +kernel) ?_
  refine s_iload_n (k := 1) C (by decide +kernel) ?_
  refine s_iload_n (k := 2) C (by decide +kernel) ?_
  refine s_fnV C (j2 := jX12_having) (cl := 12) (nf := 27) rfl rfl (by decide +kernel) rfl w_7_65 w_7_67 w_p4_14 w_1_13 w_7_68 (by decide +kernel) (fun _ _ _ _ _ h => f_X12_having h) (fun _ _ _ _ _ h => r_X12_having h) ?_
  refine s_fnV C (j2 := jX12_isMajority) (cl := 12) (nf := 27) rfl rfl (by decide +kernel) rfl w_7_35 w_7_37 w_p4_8 w_1_13 w_7_38 (by decide +kernel) (fun _ _ _ _ _ h => f_X12_isMajority h) (fun _ _ _ _ _ h => r_X12_isMajority h) ?_
  refine s_if_ne (off := 9) (tgt := 58) C (by decide +kernel) (by decide) (b_X12_agrees_58 C) ?_
  exact (b_X12_agrees_52 C)
set_option maxRecDepth 20000 in
theorem b_X12_agrees_0 {Z : Zt} {d : Nat} {p : Program} {e : Env} {R : Room} {s : State} {m : MethodId} {args : Array Value} {below : List Frame} {meth : Method} {c : Code} {Rp : RT} (C : Cx Z (d + 5) jX12_agrees RX12 p R s m args meth c) : Sd Z jX12_agrees p e R s m args below meth c (MQ below (QcS Z Rp) args s 0 0 (fun a => Z.2.2.1 < a)) 0 (w_X12_agrees_0 (MS Z (d + 5)) (Gw Z 3 p e R s m args below meth c (MQ below (QcS Z Rp) args s 0 0 (fun a => Z.2.2.1 < a))) Rp) := by
  unfold w_X12_agrees_0
  refine s_aload_n (k := 0) C (by decide +kernel) ?_
  refine s_iload_n (k := 1) C (by decide +kernel) ?_
  refine s_fnV C (j2 := jX12_laysMembers) (cl := 12) (nf := 27) rfl rfl (by decide +kernel) rfl w_6_216 w_6_218 w_p3_10 w_1_13 w_6_219 (by decide +kernel) (fun _ _ _ _ _ h => f_X12_laysMembers h) (fun _ _ _ _ _ h => r_X12_laysMembers h) ?_
  refine s_aload_n (k := 0) C (by decide +kernel) ?_
  refine s_iload_n (k := 1) C (by decide +kernel) ?_
  refine s_iconst (n := 4) C (by decide +kernel) (by decide) ?_
  refine s_fnV C (j2 := jX12_of) (cl := 12) (nf := 27) rfl rfl (by decide +kernel) rfl w_6_220 w_6_222 w_p3_11 w_1_13 w_6_223 (by decide +kernel) (fun _ _ _ _ _ h => f_X12_of h) (fun _ _ _ _ _ h => r_X12_of h) ?_
  refine s_istore_n (k := 2) C (by decide +kernel) ?_
  exact (fun _ _ _ _ _ _ h => h)
theorem ms_X12_agrees {Z : Zt} {d : Nat} {S : Sh} {μ : Mi} {ρ : Mr} {Rp : RT} (a0 : Nat) (x1 : Int32) (h : ∀ G : Nat → PT, (∀ (L st : List Value) (S : Sh) (q : Nat × Nat) (μ : Mi) (ρ : Mr), w_X12_agrees_12 (MS Z (d + 5)) G Rp L st S q μ ρ → G 12 L st S q μ ρ) → w_X12_agrees_0 (MS Z (d + 5)) G Rp [.ref a0, .int x1, .null] [] S (0, 0) μ ρ) : MS Z (d + 6) jX12_agrees [.ref a0, .int x1] S μ ρ Rp :=
  MS_of [.ref a0, .int x1, .null] (by decide +kernel) rfl rfl (Nat.le_of_ble_eq_true rfl) rfl (fun p e R s m args below meth c C => b_X12_agrees_0 C _ _ _ _ _ _ (h _ (b_X12_agrees_12 C)))
