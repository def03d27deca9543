/-! ===== the class: majorities ===== -/
def us (x y : Int32) : Int32 := (x.toUInt32 >>> (y.toUInt32 &&& Int32.toUInt32 31)).toInt32
def bc1 (x : Int32) : Int32 := x - (us x 1 &&& 1431655765)
def bc2 (x : Int32) : Int32 := (x &&& 858993459) + (us x 2 &&& 858993459)
def bc3 (x : Int32) : Int32 := x + us x 4 &&& 252645135
def bc4 (x : Int32) : Int32 := x + us x 8
def bc5 (x : Int32) : Int32 := x + us x 16
def bcF (x : Int32) : Int32 := bc5 (bc4 (bc3 (bc2 (bc1 x)))) &&& 63
def w_J6_bitCount_0f7a4_0 (M : CT) (G : Nat → PT) (Rp : RT) : PT := tIload 0 <| tIload 0 <| tConst 1 <| tBin (fun x y => (x.toUInt32 >>> (y.toUInt32 &&& Int32.toUInt32 31)).toInt32) <| tConst 1431655765 <| tBin (fun x y => x &&& y) <| tBin (fun x y => x - y) <| tIstore 0 <| tIload 0 <| tConst 858993459 <| tBin (fun x y => x &&& y) <| tIload 0 <| tConst 2 <| tBin (fun x y => (x.toUInt32 >>> (y.toUInt32 &&& Int32.toUInt32 31)).toInt32) <| tConst 858993459 <| tBin (fun x y => x &&& y) <| tBin (fun x y => x + y) <| tIstore 0 <| tIload 0 <| tIload 0 <| tConst 4 <| tBin (fun x y => (x.toUInt32 >>> (y.toUInt32 &&& Int32.toUInt32 31)).toInt32) <| tBin (fun x y => x + y) <| tConst 252645135 <| tBin (fun x y => x &&& y) <| tIstore 0 <| tIload 0 <| tIload 0 <| tConst 8 <| tBin (fun x y => (x.toUInt32 >>> (y.toUInt32 &&& Int32.toUInt32 31)).toInt32) <| tBin (fun x y => x + y) <| tIstore 0 <| tIload 0 <| tIload 0 <| tConst 16 <| tBin (fun x y => (x.toUInt32 >>> (y.toUInt32 &&& Int32.toUInt32 31)).toInt32) <| tBin (fun x y => x + y) <| tIstore 0 <| tIload 0 <| tConst 63 <| tBin (fun x y => x &&& y) <| tIret Rp
set_option maxRecDepth 20000 in
theorem b_J6_bitCount_0f7a4_0 {Z : Zt} {d : Nat} {p : Program} {e : Env} {R : Room} {s : State} {m : MethodId} {args : Array Value} {below : List Frame} {meth : Method} {c : Code} {Rp : RT} (C : Cx Z d jJ6_bitCount_0f7a4 RJ6 p R s m args meth c) : Sd Z jJ6_bitCount_0f7a4 p e R s m args below meth c (MQ below (QcS Z Rp) args s 0 0 (fun a => Z.2.2.1 < a)) 0 (w_J6_bitCount_0f7a4_0 (MS Z d) (Gw Z 1 p e R s m args below meth c (MQ below (QcS Z Rp) args s 0 0 (fun a => Z.2.2.1 < a))) Rp) := by
  unfold w_J6_bitCount_0f7a4_0
  refine s_iload_n (k := 0) C (by decide +kernel) ?_
  refine s_iload_n (k := 0) C (by decide +kernel) ?_
  refine s_iconst (n := 1) C (by decide +kernel) (by decide) ?_
  refine s_iushr C (by decide +kernel) ?_
  refine s_ldcw C w_3_76 (by decide +kernel) ?_
  refine s_iand C (by decide +kernel) ?_
  refine s_isub C (by decide +kernel) ?_
  refine s_istore_n (k := 0) C (by decide +kernel) ?_
  refine s_iload_n (k := 0) C (by decide +kernel) ?_
  refine s_ldcw C w_3_77 (by decide +kernel) ?_
  refine s_iand C (by decide +kernel) ?_
  refine s_iload_n (k := 0) C (by decide +kernel) ?_
  refine s_iconst (n := 2) C (by decide +kernel) (by decide) ?_
  refine s_iushr C (by decide +kernel) ?_
  refine s_ldcw C w_3_77 (by decide +kernel) ?_
  refine s_iand C (by decide +kernel) ?_
  refine s_iadd C (by decide +kernel) ?_
  refine s_istore_n (k := 0) C (by decide +kernel) ?_
  refine s_iload_n (k := 0) C (by decide +kernel) ?_
  refine s_iload_n (k := 0) C (by decide +kernel) ?_
  refine s_iconst (n := 4) C (by decide +kernel) (by decide) ?_
  refine s_iushr C (by decide +kernel) ?_
  refine s_iadd C (by decide +kernel) ?_
  refine s_ldcw C w_3_78 (by decide +kernel) ?_
  refine s_iand C (by decide +kernel) ?_
  refine s_istore_n (k := 0) C (by decide +kernel) ?_
  refine s_iload_n (k := 0) C (by decide +kernel) ?_
  refine s_iload_n (k := 0) C (by decide +kernel) ?_
  refine s_bipush (n := 8) C (by decide +kernel) (by decide) ?_
  refine s_iushr C (by decide +kernel) ?_
  refine s_iadd C (by decide +kernel) ?_
  refine s_istore_n (k := 0) C (by decide +kernel) ?_
  refine s_iload_n (k := 0) C (by decide +kernel) ?_
  refine s_iload_n (k := 0) C (by decide +kernel) ?_
  refine s_bipush (n := 16) C (by decide +kernel) (by decide) ?_
  refine s_iushr C (by decide +kernel) ?_
  refine s_iadd C (by decide +kernel) ?_
  refine s_istore_n (k := 0) C (by decide +kernel) ?_
  refine s_iload_n (k := 0) C (by decide +kernel) ?_
  refine s_bipush (n := 63) C (by decide +kernel) (by decide) ?_
  refine s_iand C (by decide +kernel) ?_
  exact s_iret C rfl (by decide +kernel)
theorem ms_J6_bitCount_0f7a4 {Z : Zt} {d : Nat} {S : Sh} {μ : Mi} {ρ : Mr} {Rp : RT} (x1 : Int32) (h : ∀ G : Nat → PT, w_J6_bitCount_0f7a4_0 (MS Z d) G Rp [.int x1] [] S (0, 0) μ ρ) : MS Z (d + 1) jJ6_bitCount_0f7a4 [.int x1] S μ ρ Rp :=
  MS_of [.int x1] (by decide +kernel) rfl rfl (Nat.le_of_ble_eq_true rfl) rfl (fun p e R s m args below meth c C => b_J6_bitCount_0f7a4_0 C _ _ _ _ _ _ (h _ ))
def F_J6_bitCount_0f7a4 : FT := fun As S μ ρ k => match As with
  | [.int x] => rg x 0 31 ∧ k (some (.int (cnt5 x))) μ
  | _ => False
set_option maxHeartbeats 1000000 in
theorem f_J6_bitCount_0f7a4 {Z : Zt} {d : Nat} {As : List Value} {S : Sh} {μ : Mi} {ρ : Mr} {Rp : RT} (h : F_J6_bitCount_0f7a4 As S μ ρ (fun r μ' => Rp r S μ' ρ)) : MS Z (d + 1) jJ6_bitCount_0f7a4 As S μ ρ Rp := by
  unfold F_J6_bitCount_0f7a4 at h
  split at h
  · rename_i x
    obtain ⟨h1, h⟩ := h
    obtain ⟨n, rfl, n0, -, n1⟩ := rg_ex h1
    refine ms_J6_bitCount_0f7a4 _ (fun G => ?_)
    have hn : n < 32 := by omega
    simp only [w_J6_bitCount_0f7a4_0, tAload, tIload, nth, tGetI, tGetR, tConst, tLconst, tBin, tUn, tI2l, tAld, tAldR, tAlen, tIast, tBast, tZast, tAast, tIret, tZret, tVret, tAret, tIf, tIf2, tGoto, tIstore, tAstore, sset, tIinc, tDup, tDup2, tPop, tPutI, tPutZ, tPutR, tCallV, tCallS, popN, tFn, tCopy, tMax, tMin, tSw, swc, tRem, tObjI, Option.toList, List.nil_append, List.cons_append, okR, true_and, and_true, true_or, or_true, Nat.zero_le, ne_eq, not_false_eq_true, Nat.reduceEqDiff]
    revert h
    have key : ∀ m : Fin 32, bcF (nI m.val) = cnt5 (nI m.val) := by decide +kernel
    intro h
    rw [← key ⟨n, hn⟩] at h
    exact h
  · exact h.elim
def w_X7_findsFresh_32 (M : CT) (G : Nat → PT) (Rp : RT) : PT := tZret Rp
def w_X7_findsFresh_31 (M : CT) (G : Nat → PT) (Rp : RT) : PT := tConst 0 <| w_X7_findsFresh_32 M G Rp
def w_X7_findsFresh_27 (M : CT) (G : Nat → PT) (Rp : RT) : PT := tConst 1 <| tGoto (w_X7_findsFresh_32 M G Rp)
def w_X7_findsFresh_0 (M : CT) (G : Nat → PT) (Rp : RT) : PT := tAload 0 <| tAload 0 <| tGetI 7 18 7 <| tFn 2 F_X7_termAt <| tIstore 3 <| tIload 1 <| tIload 3 <| tIf2 (fun x y => y < x) (w_X7_findsFresh_27 M G Rp) <| tIload 1 <| tIload 3 <| tIf2 (fun x y => x ≠ y) (w_X7_findsFresh_31 M G Rp) <| tIload 2 <| tAload 0 <| tGetI 7 18 7 <| tIf2 (fun x y => x < y) (w_X7_findsFresh_31 M G Rp) <| w_X7_findsFresh_27 M G Rp
set_option maxRecDepth 20000 in
theorem b_X7_findsFresh_32 {Z : Zt} {d : Nat} {p : Program} {e : Env} {R : Room} {s : State} {m : MethodId} {args : Array Value} {below : List Frame} {meth : Method} {c : Code} {Rp : RT} (C : Cx Z (d + 1) jX7_findsFresh RX7 p R s m args meth c) : Sd Z jX7_findsFresh p e R s m args below meth c (MQ below (QcS Z Rp) args s 0 0 (fun a => Z.2.2.1 < a)) 32 (w_X7_findsFresh_32 (MS Z (d + 1)) (Gw Z 4 p e R s m args below meth c (MQ below (QcS Z Rp) args s 0 0 (fun a => Z.2.2.1 < a))) Rp) := by
  unfold w_X7_findsFresh_32
  exact s_zret C rfl (by decide +kernel)
set_option maxRecDepth 20000 in
theorem b_X7_findsFresh_31 {Z : Zt} {d : Nat} {p : Program} {e : Env} {R : Room} {s : State} {m : MethodId} {args : Array Value} {below : List Frame} {meth : Method} {c : Code} {Rp : RT} (C : Cx Z (d + 1) jX7_findsFresh RX7 p R s m args meth c) : Sd Z jX7_findsFresh p e R s m args below meth c (MQ below (QcS Z Rp) args s 0 0 (fun a => Z.2.2.1 < a)) 31 (w_X7_findsFresh_31 (MS Z (d + 1)) (Gw Z 4 p e R s m args below meth c (MQ below (QcS Z Rp) args s 0 0 (fun a => Z.2.2.1 < a))) Rp) := by
  unfold w_X7_findsFresh_31
  refine s_iconst (n := 0) C (by decide +kernel) (by decide) ?_
  exact (b_X7_findsFresh_32 C)
set_option maxRecDepth 20000 in
theorem b_X7_findsFresh_27 {Z : Zt} {d : Nat} {p : Program} {e : Env} {R : Room} {s : State} {m : MethodId} {args : Array Value} {below : List Frame} {meth : Method} {c : Code} {Rp : RT} (C : Cx Z (d + 1) jX7_findsFresh RX7 p R s m args meth c) : Sd Z jX7_findsFresh p e R s m args below meth c (MQ below (QcS Z Rp) args s 0 0 (fun a => Z.2.2.1 < a)) 27 (w_X7_findsFresh_27 (MS Z (d + 1)) (Gw Z 4 p e R s m args below meth c (MQ below (QcS Z Rp) args s 0 0 (fun a => Z.2.2.1 < a))) Rp) := by
  unfold w_X7_findsFresh_27
  refine s_iconst (n := 1) C (by decide +kernel) (by decide) ?_
  exact s_goto (off := 4) (tgt := 32) C (by decide +kernel) (by decide) (b_X7_findsFresh_32 C)
set_option maxRecDepth 20000 in
theorem b_X7_findsFresh_0 {Z : Zt} {d : Nat} {p : Program} {e : Env} {R : Room} {s : State} {m : MethodId} {args : Array Value} {below : List Frame} {meth : Method} {c : Code} {Rp : RT} (C : Cx Z (d + 1) jX7_findsFresh RX7 p R s m args meth c) : Sd Z jX7_findsFresh p e R s m args below meth c (MQ below (QcS Z Rp) args s 0 0 (fun a => Z.2.2.1 < a)) 0 (w_X7_findsFresh_0 (MS Z (d + 1)) (Gw Z 4 p e R s m args below meth c (MQ below (QcS Z Rp) args s 0 0 (fun a => Z.2.2.1 < a))) Rp) := by
  unfold w_X7_findsFresh_0
  refine s_aload_n (k := 0) C (by decide +kernel) ?_
  refine s_aload_n (k := 0) C (by decide +kernel) ?_
  refine s_getI C w_2_2 (by decide +kernel) rfl ?_
  refine s_fnV C (j2 := jX7_termAt) (cl := 7) (nf := 18) rfl rfl (by decide +kernel) rfl w_4_17 w_3_130 w_3_131 w_1_5 w_3_132 (by decide +kernel) (fun _ _ _ _ _ h => f_X7_termAt h) (fun _ _ _ _ _ h => r_X7_termAt h) ?_
  refine s_istore_n (k := 3) C (by decide +kernel) ?_
  refine s_iload_n (k := 1) C (by decide +kernel) ?_
  refine s_iload_n (k := 3) C (by decide +kernel) ?_
  refine s_icmp_gt (off := 16) (tgt := 27) C (by decide +kernel) (by decide) (b_X7_findsFresh_27 C) ?_
  refine s_iload_n (k := 1) C (by decide +kernel) ?_
  refine s_iload_n (k := 3) C (by decide +kernel) ?_
  refine s_icmp_ne (off := 15) (tgt := 31) C (by decide +kernel) (by decide) (b_X7_findsFresh_31 C) ?_
  refine s_iload_n (k := 2) C (by decide +kernel) ?_
  refine s_aload_n (k := 0) C (by decide +kernel) ?_
  refine s_getI C w_2_2 (by decide +kernel) rfl ?_
  refine s_icmp_lt (off := 7) (tgt := 31) C (by decide +kernel) (by decide) (b_X7_findsFresh_31 C) ?_
  exact (b_X7_findsFresh_27 C)
theorem ms_X7_findsFresh {Z : Zt} {d : Nat} {S : Sh} {μ : Mi} {ρ : Mr} {Rp : RT} (a0 : Nat) (x1 : Int32) (x2 : Int32) (h : ∀ G : Nat → PT, w_X7_findsFresh_0 (MS Z (d + 1)) G Rp [.ref a0, .int x1, .int x2, .null] [] S (0, 0) μ ρ) : MS Z (d + 2) jX7_findsFresh [.ref a0, .int x1, .int x2] S μ ρ Rp :=
  MS_of [.ref a0, .int x1, .int x2, .null] (by decide +kernel) rfl rfl (Nat.le_of_ble_eq_true rfl) rfl (fun p e R s m args below meth c C => b_X7_findsFresh_0 C _ _ _ _ _ _ (h _ ))
def F_X7_findsFresh : FT := fun As S μ ρ k => match As with
  | [.ref a, .int t, .int l] => S.2 a = (7, 18) ∧ StS S ρ a ∧ 0 ≤ (μ (a + 5) 0).toInt ∧ (μ a 7).toInt ≤ 120 ∧ k (some (.int (b2 (cTermAt μ a (μ a 7) < t ∨ (t = cTermAt μ a (μ a 7) ∧ ¬ l < μ a 7))))) μ
  | _ => False
theorem r_X7_findsFresh {As S μ ρ k} (h : F_X7_findsFresh As S μ ρ k) : ∃ a As', As = Value.ref a :: As' ∧ S.2 a = (7, 18) := by
  unfold F_X7_findsFresh at h
  split at h
  · exact ⟨_, _, rfl, h.1⟩
  · exact h.elim
set_option maxHeartbeats 1000000 in
theorem f_X7_findsFresh {Z : Zt} {d : Nat} {As : List Value} {S : Sh} {μ : Mi} {ρ : Mr} {Rp : RT} (h : F_X7_findsFresh As S μ ρ (fun r μ' => Rp r S μ' ρ)) : MS Z (d + 2) jX7_findsFresh As S μ ρ Rp := by
  unfold F_X7_findsFresh at h
  split at h
  · rename_i a t l
    obtain ⟨h1, h2, h3, h4, h⟩ := h
    unfold b2 at h
    refine ms_X7_findsFresh _ _ _ (fun G => ?_)
    simp only [w_X7_findsFresh_0, w_X7_findsFresh_27, w_X7_findsFresh_31, w_X7_findsFresh_32, tAload, tIload, nth, tGetI, tGetR, tConst, tLconst, tBin, tUn, tI2l, tAld, tAldR, tAlen, tIast, tBast, tZast, tAast, tIret, tZret, tVret, tAret, tIf, tIf2, tGoto, tIstore, tAstore, sset, tIinc, tDup, tDup2, tPop, tPutI, tPutZ, tPutR, tCallV, tCallS, popN, tFn, tCopy, tMax, tMin, tSw, swc, tRem, tObjI, Option.toList, List.nil_append, List.cons_append, okR, true_and, and_true, true_or, or_true, Nat.zero_le, ne_eq, not_false_eq_true, Nat.reduceEqDiff, F_X7_termAt, h1, Decidable.not_not]
    refine ⟨h2, h3, h4, fun c => ?_, fun c => ⟨fun c2 => ?_, fun c2 => ⟨fun c3 => ?_, fun c3 => ?_⟩⟩⟩
    · rw [if_pos (Or.inl c)] at h; exact h
    · rw [if_neg (fun z => z.elim c (fun z => c2 z.1))] at h; exact h
    · rw [if_neg (fun z => z.elim c (fun z => z.2 c3))] at h; exact h
    · rw [if_pos (Or.inr ⟨c2, c3⟩)] at h; exact h
  · exact h.elim
