/-! ===== the class: a store's questions ===== -/
def StS (S : Sh) (ρ : Mr) (x : Nat) : Prop := S.2 (x + 1) = (20, 121) ∧ S.2 (x + 2) = (20, 4) ∧ S.2 (x + 3) = (20, 5) ∧ S.2 (x + 4) = (20, 5) ∧ S.2 (x + 5) = (6, 5) ∧ S.2 (x + 6) = (20, 4) ∧ S.2 (x + 7) = (5, 4) ∧ ρ x 12 = x + 1 ∧ ρ x 13 = x + 2 ∧ ρ x 14 = x + 3 ∧ ρ x 15 = x + 4 ∧ ρ x 16 = x + 5 ∧ ρ x 17 = x + 7 ∧ ρ (x + 5) 4 = x + 6
abbrev cHolds (μ : Mi) (x : Nat) (p : Int32) : Prop := ¬ p ≤ μ (x + 5) 0 ∧ ¬ μ x 7 < p
def w_X7_holds_24 (M : CT) (G : Nat → PT) (Rp : RT) : PT := tZret Rp
def w_X7_holds_23 (M : CT) (G : Nat → PT) (Rp : RT) : PT := tConst 0 <| w_X7_holds_24 M G Rp
def w_X7_holds_0 (M : CT) (G : Nat → PT) (Rp : RT) : PT := tIload 1 <| tAload 0 <| tGetR 7 18 16 <| tGetI 6 5 0 <| tIf2 (fun x y => x ≤ y) (w_X7_holds_23 M G Rp) <| tIload 1 <| tAload 0 <| tGetI 7 18 7 <| tIf2 (fun x y => y < x) (w_X7_holds_23 M G Rp) <| tConst 1 <| tGoto (w_X7_holds_24 M G Rp)
set_option maxRecDepth 20000 in
theorem b_X7_holds_24 {Z : Zt} {d : Nat} {p : Program} {e : Env} {R : Room} {s : State} {m : MethodId} {args : Array Value} {below : List Frame} {meth : Method} {c : Code} {Rp : RT} (C : Cx Z d jX7_holds RX7 p R s m args meth c) : Sd Z jX7_holds p e R s m args below meth c (MQ below (QcS Z Rp) args s 0 0 (fun a => Z.2.2.1 < a)) 24 (w_X7_holds_24 (MS Z d) (Gw Z 2 p e R s m args below meth c (MQ below (QcS Z Rp) args s 0 0 (fun a => Z.2.2.1 < a))) Rp) := by
  unfold w_X7_holds_24
  exact s_zret C rfl (by decide +kernel)
set_option maxRecDepth 20000 in
theorem b_X7_holds_23 {Z : Zt} {d : Nat} {p : Program} {e : Env} {R : Room} {s : State} {m : MethodId} {args : Array Value} {below : List Frame} {meth : Method} {c : Code} {Rp : RT} (C : Cx Z d jX7_holds RX7 p R s m args meth c) : Sd Z jX7_holds p e R s m args below meth c (MQ below (QcS Z Rp) args s 0 0 (fun a => Z.2.2.1 < a)) 23 (w_X7_holds_23 (MS Z d) (Gw Z 2 p e R s m args below meth c (MQ below (QcS Z Rp) args s 0 0 (fun a => Z.2.2.1 < a))) Rp) := by
  unfold w_X7_holds_23
  refine s_iconst (n := 0) C (by decide +kernel) (by decide) ?_
  exact (b_X7_holds_24 C)
set_option maxRecDepth 20000 in
theorem b_X7_holds_0 {Z : Zt} {d : Nat} {p : Program} {e : Env} {R : Room} {s : State} {m : MethodId} {args : Array Value} {below : List Frame} {meth : Method} {c : Code} {Rp : RT} (C : Cx Z d jX7_holds RX7 p R s m args meth c) : Sd Z jX7_holds p e R s m args below meth c (MQ below (QcS Z Rp) args s 0 0 (fun a => Z.2.2.1 < a)) 0 (w_X7_holds_0 (MS Z d) (Gw Z 2 p e R s m args below meth c (MQ below (QcS Z Rp) args s 0 0 (fun a => Z.2.2.1 < a))) Rp) := by
  unfold w_X7_holds_0
  refine s_iload_n (k := 1) C (by decide +kernel) ?_
  refine s_aload_n (k := 0) C (by decide +kernel) ?_
  refine s_getR C w_2_32 (by decide +kernel) rfl ?_
  refine s_getI C w_1_162 (by decide +kernel) rfl ?_
  refine s_icmp_le (off := 15) (tgt := 23) C (by decide +kernel) (by decide) (b_X7_holds_23 C) ?_
  refine s_iload_n (k := 1) C (by decide +kernel) ?_
  refine s_aload_n (k := 0) C (by decide +kernel) ?_
  refine s_getI C w_2_2 (by decide +kernel) rfl ?_
  refine s_icmp_gt (off := 7) (tgt := 23) C (by decide +kernel) (by decide) (b_X7_holds_23 C) ?_
  refine s_iconst (n := 1) C (by decide +kernel) (by decide) ?_
  exact s_goto (off := 4) (tgt := 24) C (by decide +kernel) (by decide) (b_X7_holds_24 C)
theorem ms_X7_holds {Z : Zt} {d : Nat} {S : Sh} {μ : Mi} {ρ : Mr} {Rp : RT} (a0 : Nat) (x1 : Int32) (h : ∀ G : Nat → PT, w_X7_holds_0 (MS Z d) G Rp [.ref a0, .int x1] [] S (0, 0) μ ρ) : MS Z (d + 1) jX7_holds [.ref a0, .int x1] S μ ρ Rp :=
  MS_of [.ref a0, .int x1] (by decide +kernel) rfl rfl (Nat.le_of_ble_eq_true rfl) rfl (fun p e R s m args below meth c C => b_X7_holds_0 C _ _ _ _ _ _ (h _ ))
def F_X7_holds : FT := fun As S μ ρ k => match As with
  | [.ref a, .int p] => S.2 a = (7, 18) ∧ StS S ρ a ∧ k (some (.int (b2 (cHolds μ a p)))) μ
  | _ => False
theorem r_X7_holds {As S μ ρ k} (h : F_X7_holds As S μ ρ k) : ∃ a As', As = Value.ref a :: As' ∧ S.2 a = (7, 18) := by
  unfold F_X7_holds at h
  split at h
  · exact ⟨_, _, rfl, h.1⟩
  · exact h.elim
set_option maxHeartbeats 1000000 in
theorem f_X7_holds {Z : Zt} {d : Nat} {As : List Value} {S : Sh} {μ : Mi} {ρ : Mr} {Rp : RT} (h : F_X7_holds As S μ ρ (fun r μ' => Rp r S μ' ρ)) : MS Z (d + 1) jX7_holds As S μ ρ Rp := by
  unfold F_X7_holds at h
  split at h
  · rename_i a p
    obtain ⟨h1, h2, h⟩ := h
    unfold StS at h2
    unfold b2 at h
    refine ms_X7_holds _ _ (fun G => ?_)
    simp only [w_X7_holds_0, w_X7_holds_23, w_X7_holds_24, tAload, tIload, nth, tGetI, tGetR, tConst, tLconst, tBin, tUn, tI2l, tAld, tAldR, tAlen, tIast, tBast, tZast, tAast, tIret, tZret, tVret, tAret, tIf, tIf2, tGoto, tIstore, tAstore, sset, tIinc, tDup, tDup2, tPop, tPutI, tPutZ, tPutR, tCallV, tCallS, popN, tFn, tCopy, tMax, tMin, tSw, swc, tRem, tObjI, Option.toList, List.nil_append, List.cons_append, okR, true_and, and_true, true_or, or_true, Nat.zero_le, ne_eq, not_false_eq_true, Nat.reduceEqDiff, h1, h2]
    refine ⟨fun c => ?_, fun c => ⟨fun c2 => ?_, fun c2 => ?_⟩⟩
    · rw [if_neg (fun z => z.1 c)] at h; exact h
    · rw [if_neg (fun z => z.2 c2)] at h; exact h
    · rw [if_pos ⟨c, c2⟩] at h; exact h
  · exact h.elim
def cTermAt (μ : Mi) (x : Nat) (p : Int32) : Int32 := if p = μ (x + 5) 0 then μ (x + 5) 1 else if cHolds μ x p then μ (x + 1) p.toNatClampNeg &&& 255 else -1
def w_X7_termAt_52 (M : CT) (G : Nat → PT) (Rp : RT) : PT := tIret Rp
def w_X7_termAt_51 (M : CT) (G : Nat → PT) (Rp : RT) : PT := tConst (-1) <| w_X7_termAt_52 M G Rp
def w_X7_termAt_19 (M : CT) (G : Nat → PT) (Rp : RT) : PT := tIload 1 <| tAload 0 <| tGetR 7 18 16 <| tGetI 6 5 0 <| tIf2 (fun x y => x ≤ y) (w_X7_termAt_51 M G Rp) <| tIload 1 <| tAload 0 <| tGetI 7 18 7 <| tIf2 (fun x y => y < x) (w_X7_termAt_51 M G Rp) <| tAload 0 <| tGetR 7 18 12 <| tIload 1 <| tAld 20 <| tConst 255 <| tBin (fun x y => x &&& y) <| tGoto (w_X7_termAt_52 M G Rp)
def w_X7_termAt_0 (M : CT) (G : Nat → PT) (Rp : RT) : PT := tIload 1 <| tAload 0 <| tGetR 7 18 16 <| tGetI 6 5 0 <| tIf2 (fun x y => x ≠ y) (w_X7_termAt_19 M G Rp) <| tAload 0 <| tGetR 7 18 16 <| tGetI 6 5 1 <| tIret Rp
set_option maxRecDepth 20000 in
theorem b_X7_termAt_52 {Z : Zt} {d : Nat} {p : Program} {e : Env} {R : Room} {s : State} {m : MethodId} {args : Array Value} {below : List Frame} {meth : Method} {c : Code} {Rp : RT} (C : Cx Z d jX7_termAt RX7 p R s m args meth c) : Sd Z jX7_termAt p e R s m args below meth c (MQ below (QcS Z Rp) args s 0 0 (fun a => Z.2.2.1 < a)) 52 (w_X7_termAt_52 (MS Z d) (Gw Z 2 p e R s m args below meth c (MQ below (QcS Z Rp) args s 0 0 (fun a => Z.2.2.1 < a))) Rp) := by
  unfold w_X7_termAt_52
  exact s_iret C rfl (by decide +kernel)
set_option maxRecDepth 20000 in
theorem b_X7_termAt_51 {Z : Zt} {d : Nat} {p : Program} {e : Env} {R : Room} {s : State} {m : MethodId} {args : Array Value} {below : List Frame} {meth : Method} {c : Code} {Rp : RT} (C : Cx Z d jX7_termAt RX7 p R s m args meth c) : Sd Z jX7_termAt p e R s m args below meth c (MQ below (QcS Z Rp) args s 0 0 (fun a => Z.2.2.1 < a)) 51 (w_X7_termAt_51 (MS Z d) (Gw Z 2 p e R s m args below meth c (MQ below (QcS Z Rp) args s 0 0 (fun a => Z.2.2.1 < a))) Rp) := by
  unfold w_X7_termAt_51
  refine s_iconst (n := (-1)) C (by decide +kernel) (by decide) ?_
  exact (b_X7_termAt_52 C)
set_option maxRecDepth 20000 in
theorem b_X7_termAt_19 {Z : Zt} {d : Nat} {p : Program} {e : Env} {R : Room} {s : State} {m : MethodId} {args : Array Value} {below : List Frame} {meth : Method} {c : Code} {Rp : RT} (C : Cx Z d jX7_termAt RX7 p R s m args meth c) : Sd Z jX7_termAt p e R s m args below meth c (MQ below (QcS Z Rp) args s 0 0 (fun a => Z.2.2.1 < a)) 19 (w_X7_termAt_19 (MS Z d) (Gw Z 2 p e R s m args below meth c (MQ below (QcS Z Rp) args s 0 0 (fun a => Z.2.2.1 < a))) Rp) := by
  unfold w_X7_termAt_19
  refine s_iload_n (k := 1) C (by decide +kernel) ?_
  refine s_aload_n (k := 0) C (by decide +kernel) ?_
  refine s_getR C w_2_32 (by decide +kernel) rfl ?_
  refine s_getI C w_1_162 (by decide +kernel) rfl ?_
  refine s_icmp_le (off := 24) (tgt := 51) C (by decide +kernel) (by decide) (b_X7_termAt_51 C) ?_
  refine s_iload_n (k := 1) C (by decide +kernel) ?_
  refine s_aload_n (k := 0) C (by decide +kernel) ?_
  refine s_getI C w_2_2 (by decide +kernel) rfl ?_
  refine s_icmp_gt (off := 16) (tgt := 51) C (by decide +kernel) (by decide) (b_X7_termAt_51 C) ?_
  refine s_aload_n (k := 0) C (by decide +kernel) ?_
  refine s_getR C w_2_20 (by decide +kernel) rfl ?_
  refine s_iload_n (k := 1) C (by decide +kernel) ?_
  refine s_iald C (by decide +kernel) ?_
  refine s_sipush (n := 255) C (by decide +kernel) (by decide) ?_
  refine s_iand C (by decide +kernel) ?_
  exact s_goto (off := 4) (tgt := 52) C (by decide +kernel) (by decide) (b_X7_termAt_52 C)
set_option maxRecDepth 20000 in
theorem b_X7_termAt_0 {Z : Zt} {d : Nat} {p : Program} {e : Env} {R : Room} {s : State} {m : MethodId} {args : Array Value} {below : List Frame} {meth : Method} {c : Code} {Rp : RT} (C : Cx Z d jX7_termAt RX7 p R s m args meth c) : Sd Z jX7_termAt p e R s m args below meth c (MQ below (QcS Z Rp) args s 0 0 (fun a => Z.2.2.1 < a)) 0 (w_X7_termAt_0 (MS Z d) (Gw Z 2 p e R s m args below meth c (MQ below (QcS Z Rp) args s 0 0 (fun a => Z.2.2.1 < a))) Rp) := by
  unfold w_X7_termAt_0
  refine s_iload_n (k := 1) C (by decide +kernel) ?_
  refine s_aload_n (k := 0) C (by decide +kernel) ?_
  refine s_getR C w_2_32 (by decide +kernel) rfl ?_
  refine s_getI C w_1_162 (by decide +kernel) rfl ?_
  refine s_icmp_ne (off := 11) (tgt := 19) C (by decide +kernel) (by decide) (b_X7_termAt_19 C) ?_
  refine s_aload_n (k := 0) C (by decide +kernel) ?_
  refine s_getR C w_2_32 (by decide +kernel) rfl ?_
  refine s_getI C w_1_166 (by decide +kernel) rfl ?_
  exact s_iret C rfl (by decide +kernel)
theorem ms_X7_termAt {Z : Zt} {d : Nat} {S : Sh} {μ : Mi} {ρ : Mr} {Rp : RT} (a0 : Nat) (x1 : Int32) (h : ∀ G : Nat → PT, w_X7_termAt_0 (MS Z d) G Rp [.ref a0, .int x1] [] S (0, 0) μ ρ) : MS Z (d + 1) jX7_termAt [.ref a0, .int x1] S μ ρ Rp :=
  MS_of [.ref a0, .int x1] (by decide +kernel) rfl rfl (Nat.le_of_ble_eq_true rfl) rfl (fun p e R s m args below meth c C => b_X7_termAt_0 C _ _ _ _ _ _ (h _ ))
def F_X7_termAt : FT := fun As S μ ρ k => match As with
  | [.ref a, .int p] => S.2 a = (7, 18) ∧ StS S ρ a ∧ 0 ≤ (μ (a + 5) 0).toInt ∧ (μ a 7).toInt ≤ 120 ∧ k (some (.int (cTermAt μ a p))) μ
  | _ => False
theorem r_X7_termAt {As S μ ρ k} (h : F_X7_termAt As S μ ρ k) : ∃ a As', As = Value.ref a :: As' ∧ S.2 a = (7, 18) := by
  unfold F_X7_termAt at h
  split at h
  · exact ⟨_, _, rfl, h.1⟩
  · exact h.elim
set_option maxHeartbeats 1000000 in
theorem f_X7_termAt {Z : Zt} {d : Nat} {As : List Value} {S : Sh} {μ : Mi} {ρ : Mr} {Rp : RT} (h : F_X7_termAt As S μ ρ (fun r μ' => Rp r S μ' ρ)) : MS Z (d + 1) jX7_termAt As S μ ρ Rp := by
  unfold F_X7_termAt at h
  split at h
  · rename_i a p
    obtain ⟨h1, h2, h3, h4, h⟩ := h
    unfold StS at h2
    unfold cTermAt at h
    refine ms_X7_termAt _ _ (fun G => ?_)
    simp only [w_X7_termAt_0, w_X7_termAt_19, w_X7_termAt_51, w_X7_termAt_52, tAload, tIload, nth, tGetI, tGetR, tConst, tLconst, tBin, tUn, tI2l, tAld, tAldR, tAlen, tIast, tBast, tZast, tAast, tIret, tZret, tVret, tAret, tIf, tIf2, tGoto, tIstore, tAstore, sset, tIinc, tDup, tDup2, tPop, tPutI, tPutZ, tPutR, tCallV, tCallS, popN, tFn, tCopy, tMax, tMin, tSw, swc, tRem, tObjI, Option.toList, List.nil_append, List.cons_append, okR, true_and, and_true, true_or, or_true, Nat.zero_le, ne_eq, not_false_eq_true, Nat.reduceEqDiff, h1, h2]
    refine ⟨fun c0 => ⟨fun c => ?_, fun c => ⟨fun c2 => ?_, fun c2 => ⟨?_, ?_⟩⟩⟩, fun c0 => ?_⟩
    · rw [if_neg c0, if_neg (fun z => z.1 c)] at h; exact h
    · rw [if_neg c0, if_neg (fun z => z.2 c2)] at h; exact h
    · rw [Int32.le_iff_toInt_le] at c
      rw [Int32.lt_iff_toInt_lt] at c2
      obtain ⟨n, rfl, n0, n1, n2⟩ := rg_ex (x := p) (lo := 1) (hi := 120) ⟨by omega, by omega⟩
      exact inb_nI (by omega) (by decide)
    · rw [if_neg c0, if_pos ⟨c, c2⟩] at h; exact h
    · rw [if_pos (Decidable.not_not.mp c0)] at h; exact h
  · exact h.elim
def w_X7_isMember_22 (M : CT) (G : Nat → PT) (Rp : RT) : PT := tZret Rp
def w_X7_isMember_21 (M : CT) (G : Nat → PT) (Rp : RT) : PT := tConst 0 <| w_X7_isMember_22 M G Rp
def w_X7_isMember_0 (M : CT) (G : Nat → PT) (Rp : RT) : PT := tAload 0 <| tGetI 7 18 10 <| tAload 0 <| tGetI 7 18 11 <| tBin (fun x y => x ||| y) <| tIload 1 <| tBin (fun x y => x >>> (y &&& 31)) <| tConst 1 <| tBin (fun x y => x &&& y) <| tConst 1 <| tIf2 (fun x y => x ≠ y) (w_X7_isMember_21 M G Rp) <| tConst 1 <| tGoto (w_X7_isMember_22 M G Rp)
set_option maxRecDepth 20000 in
theorem b_X7_isMember_22 {Z : Zt} {d : Nat} {p : Program} {e : Env} {R : Room} {s : State} {m : MethodId} {args : Array Value} {below : List Frame} {meth : Method} {c : Code} {Rp : RT} (C : Cx Z d jX7_isMember RX7 p R s m args meth c) : Sd Z jX7_isMember p e R s m args below meth c (MQ below (QcS Z Rp) args s 0 0 (fun a => Z.2.2.1 < a)) 22 (w_X7_isMember_22 (MS Z d) (Gw Z 2 p e R s m args below meth c (MQ below (QcS Z Rp) args s 0 0 (fun a => Z.2.2.1 < a))) Rp) := by
  unfold w_X7_isMember_22
  exact s_zret C rfl (by decide +kernel)
set_option maxRecDepth 20000 in
theorem b_X7_isMember_21 {Z : Zt} {d : Nat} {p : Program} {e : Env} {R : Room} {s : State} {m : MethodId} {args : Array Value} {below : List Frame} {meth : Method} {c : Code} {Rp : RT} (C : Cx Z d jX7_isMember RX7 p R s m args meth c) : Sd Z jX7_isMember p e R s m args below meth c (MQ below (QcS Z Rp) args s 0 0 (fun a => Z.2.2.1 < a)) 21 (w_X7_isMember_21 (MS Z d) (Gw Z 2 p e R s m args below meth c (MQ below (QcS Z Rp) args s 0 0 (fun a => Z.2.2.1 < a))) Rp) := by
  unfold w_X7_isMember_21
  refine s_iconst (n := 0) C (by decide +kernel) (by decide) ?_
  exact (b_X7_isMember_22 C)
set_option maxRecDepth 20000 in
theorem b_X7_isMember_0 {Z : Zt} {d : Nat} {p : Program} {e : Env} {R : Room} {s : State} {m : MethodId} {args : Array Value} {below : List Frame} {meth : Method} {c : Code} {Rp : RT} (C : Cx Z d jX7_isMember RX7 p R s m args meth c) : Sd Z jX7_isMember p e R s m args below meth c (MQ below (QcS Z Rp) args s 0 0 (fun a => Z.2.2.1 < a)) 0 (w_X7_isMember_0 (MS Z d) (Gw Z 2 p e R s m args below meth c (MQ below (QcS Z Rp) args s 0 0 (fun a => Z.2.2.1 < a))) Rp) := by
  unfold w_X7_isMember_0
  refine s_aload_n (k := 0) C (by decide +kernel) ?_
  refine s_getI C w_2_13 (by decide +kernel) rfl ?_
  refine s_aload_n (k := 0) C (by decide +kernel) ?_
  refine s_getI C w_2_17 (by decide +kernel) rfl ?_
  refine s_ior C (by decide +kernel) ?_
  refine s_iload_n (k := 1) C (by decide +kernel) ?_
  refine s_ishr C (by decide +kernel) ?_
  refine s_iconst (n := 1) C (by decide +kernel) (by decide) ?_
  refine s_iand C (by decide +kernel) ?_
  refine s_iconst (n := 1) C (by decide +kernel) (by decide) ?_
  refine s_icmp_ne (off := 7) (tgt := 21) C (by decide +kernel) (by decide) (b_X7_isMember_21 C) ?_
  refine s_iconst (n := 1) C (by decide +kernel) (by decide) ?_
  exact s_goto (off := 4) (tgt := 22) C (by decide +kernel) (by decide) (b_X7_isMember_22 C)
theorem ms_X7_isMember {Z : Zt} {d : Nat} {S : Sh} {μ : Mi} {ρ : Mr} {Rp : RT} (a0 : Nat) (x1 : Int32) (h : ∀ G : Nat → PT, w_X7_isMember_0 (MS Z d) G Rp [.ref a0, .int x1] [] S (0, 0) μ ρ) : MS Z (d + 1) jX7_isMember [.ref a0, .int x1] S μ ρ Rp :=
  MS_of [.ref a0, .int x1] (by decide +kernel) rfl rfl (Nat.le_of_ble_eq_true rfl) rfl (fun p e R s m args below meth c C => b_X7_isMember_0 C _ _ _ _ _ _ (h _ ))
def F_X7_isMember : FT := fun As S μ ρ k => match As with
  | [.ref a, .int s] => S.2 a = (7, 18) ∧ k (some (.int (b2 (((μ a 10 ||| μ a 11) >>> (s &&& 31)) &&& 1 = 1)))) μ
  | _ => False
theorem r_X7_isMember {As S μ ρ k} (h : F_X7_isMember As S μ ρ k) : ∃ a As', As = Value.ref a :: As' ∧ S.2 a = (7, 18) := by
  unfold F_X7_isMember at h
  split at h
  · exact ⟨_, _, rfl, h.1⟩
  · exact h.elim
set_option maxHeartbeats 1000000 in
theorem f_X7_isMember {Z : Zt} {d : Nat} {As : List Value} {S : Sh} {μ : Mi} {ρ : Mr} {Rp : RT} (h : F_X7_isMember As S μ ρ (fun r μ' => Rp r S μ' ρ)) : MS Z (d + 1) jX7_isMember As S μ ρ Rp := by
  unfold F_X7_isMember at h
  split at h
  · rename_i a s
    obtain ⟨h1, h⟩ := h
    unfold b2 at h
    refine ms_X7_isMember _ _ (fun G => ?_)
    simp only [w_X7_isMember_0, w_X7_isMember_21, w_X7_isMember_22, tAload, tIload, nth, tGetI, tGetR, tConst, tLconst, tBin, tUn, tI2l, tAld, tAldR, tAlen, tIast, tBast, tZast, tAast, tIret, tZret, tVret, tAret, tIf, tIf2, tGoto, tIstore, tAstore, sset, tIinc, tDup, tDup2, tPop, tPutI, tPutZ, tPutR, tCallV, tCallS, popN, tFn, tCopy, tMax, tMin, tSw, swc, tRem, tObjI, Option.toList, List.nil_append, List.cons_append, okR, true_and, and_true, true_or, or_true, Nat.zero_le, ne_eq, not_false_eq_true, Nat.reduceEqDiff, h1, Decidable.not_not]
    refine ⟨fun c => ?_, fun c => ?_⟩
    · rw [if_neg c] at h; exact h
    · rw [if_pos c] at h; exact h
  · exact h.elim
