/-! ===== the class: what is asked of a world ===== -/
def foldF (f : Nat → Int32 → Int32) (z : Int32) : Nat → Int32 := fun t => match t with
  | 0 => z
  | t + 1 => f t (foldF f z t)
theorem foldF_5 {f : Nat → Int32 → Int32} {z : Int32} : foldF f z 5 = f 4 (f 3 (f 2 (f 1 (f 0 z)))) := rfl
theorem foldF_s {f : Nat → Int32 → Int32} {z : Int32} {t : Nat} : foldF f z (t + 1) = f t (foldF f z t) := rfl
def w_X10_whoIsUp_33 (M : CT) (G : Nat → PT) (Rp : RT) : PT := tIload 1 <| tIret Rp
def w_X10_whoIsUp_27 (M : CT) (G : Nat → PT) (Rp : RT) : PT := tIinc 2 1 <| tGoto (G 4)
def w_X10_whoIsUp_4 (M : CT) (G : Nat → PT) (Rp : RT) : PT := tIload 2 <| tConst 5 <| tIf2 (fun x y => y ≤ x) (w_X10_whoIsUp_33 M G Rp) <| tAload 0 <| tGetR 10 6 0 <| tIload 2 <| tAldR 37 <| tGetI 7 18 1 <| tIf (fun x => x = 0) (w_X10_whoIsUp_27 M G Rp) <| tIload 1 <| tConst 1 <| tIload 2 <| tBin (fun x y => x <<< (y &&& 31)) <| tBin (fun x y => x ||| y) <| tIstore 1 <| w_X10_whoIsUp_27 M G Rp
def w_X10_whoIsUp_0 (M : CT) (G : Nat → PT) (Rp : RT) : PT := tConst 0 <| tIstore 1 <| tConst 0 <| tIstore 2 <| G 4
set_option maxRecDepth 20000 in
theorem b_X10_whoIsUp_33 {Z : Zt} {d : Nat} {p : Program} {e : Env} {R : Room} {s : State} {m : MethodId} {args : Array Value} {below : List Frame} {meth : Method} {c : Code} {Rp : RT} (C : Cx Z d jX10_whoIsUp RX10 p R s m args meth c) : Sd Z jX10_whoIsUp p e R s m args below meth c (MQ below (QcS Z Rp) args s 0 0 (fun a => Z.2.2.1 < a)) 33 (w_X10_whoIsUp_33 (MS Z d) (Gw Z 3 p e R s m args below meth c (MQ below (QcS Z Rp) args s 0 0 (fun a => Z.2.2.1 < a))) Rp) := by
  unfold w_X10_whoIsUp_33
  refine s_iload_n (k := 1) C (by decide +kernel) ?_
  exact s_iret C rfl (by decide +kernel)
set_option maxRecDepth 20000 in
theorem b_X10_whoIsUp_27 {Z : Zt} {d : Nat} {p : Program} {e : Env} {R : Room} {s : State} {m : MethodId} {args : Array Value} {below : List Frame} {meth : Method} {c : Code} {Rp : RT} (C : Cx Z d jX10_whoIsUp RX10 p R s m args meth c) : Sd Z jX10_whoIsUp p e R s m args below meth c (MQ below (QcS Z Rp) args s 0 0 (fun a => Z.2.2.1 < a)) 27 (w_X10_whoIsUp_27 (MS Z d) (Gw Z 3 p e R s m args below meth c (MQ below (QcS Z Rp) args s 0 0 (fun a => Z.2.2.1 < a))) Rp) := by
  unfold w_X10_whoIsUp_27
  refine s_iinc (n := 1) C (by decide +kernel) (by decide) ?_
  exact s_goto (off := (-26)) (tgt := 4) C (by decide +kernel) (by decide) (fun _ _ _ _ _ _ h => h)
set_option maxRecDepth 20000 in
theorem b_X10_whoIsUp_4 {Z : Zt} {d : Nat} {p : Program} {e : Env} {R : Room} {s : State} {m : MethodId} {args : Array Value} {below : List Frame} {meth : Method} {c : Code} {Rp : RT} (C : Cx Z d jX10_whoIsUp RX10 p R s m args meth c) : Sd Z jX10_whoIsUp p e R s m args below meth c (MQ below (QcS Z Rp) args s 0 0 (fun a => Z.2.2.1 < a)) 4 (w_X10_whoIsUp_4 (MS Z d) (Gw Z 3 p e R s m args below meth c (MQ below (QcS Z Rp) args s 0 0 (fun a => Z.2.2.1 < a))) Rp) := by
  unfold w_X10_whoIsUp_4
  refine s_iload_n (k := 2) C (by decide +kernel) ?_
  refine s_iconst (n := 5) C (by decide +kernel) (by decide) ?_
  refine s_icmp_ge (off := 27) (tgt := 33) C (by decide +kernel) (by decide) (b_X10_whoIsUp_33 C) ?_
  refine s_aload_n (k := 0) C (by decide +kernel) ?_
  refine s_getR C w_2_113 (by decide +kernel) rfl ?_
  refine s_iload_n (k := 2) C (by decide +kernel) ?_
  refine s_aald C rfl (by decide +kernel) ?_
  refine s_getI C w_1_224 (by decide +kernel) rfl ?_
  refine s_if_eq (off := 9) (tgt := 27) C (by decide +kernel) (by decide) (b_X10_whoIsUp_27 C) ?_
  refine s_iload_n (k := 1) C (by decide +kernel) ?_
  refine s_iconst (n := 1) C (by decide +kernel) (by decide) ?_
  refine s_iload_n (k := 2) C (by decide +kernel) ?_
  refine s_ishl C (by decide +kernel) ?_
  refine s_ior C (by decide +kernel) ?_
  refine s_istore_n (k := 1) C (by decide +kernel) ?_
  exact (b_X10_whoIsUp_27 C)
set_option maxRecDepth 20000 in
theorem b_X10_whoIsUp_0 {Z : Zt} {d : Nat} {p : Program} {e : Env} {R : Room} {s : State} {m : MethodId} {args : Array Value} {below : List Frame} {meth : Method} {c : Code} {Rp : RT} (C : Cx Z d jX10_whoIsUp RX10 p R s m args meth c) : Sd Z jX10_whoIsUp p e R s m args below meth c (MQ below (QcS Z Rp) args s 0 0 (fun a => Z.2.2.1 < a)) 0 (w_X10_whoIsUp_0 (MS Z d) (Gw Z 3 p e R s m args below meth c (MQ below (QcS Z Rp) args s 0 0 (fun a => Z.2.2.1 < a))) Rp) := by
  unfold w_X10_whoIsUp_0
  refine s_iconst (n := 0) C (by decide +kernel) (by decide) ?_
  refine s_istore_n (k := 1) C (by decide +kernel) ?_
  refine s_iconst (n := 0) C (by decide +kernel) (by decide) ?_
  refine s_istore_n (k := 2) C (by decide +kernel) ?_
  exact (fun _ _ _ _ _ _ h => h)
theorem ms_X10_whoIsUp {Z : Zt} {d : Nat} {S : Sh} {μ : Mi} {ρ : Mr} {Rp : RT} (a0 : Nat) (h : ∀ G : Nat → PT, (∀ (L st : List Value) (S : Sh) (q : Nat × Nat) (μ : Mi) (ρ : Mr), w_X10_whoIsUp_4 (MS Z d) G Rp L st S q μ ρ → G 4 L st S q μ ρ) → w_X10_whoIsUp_0 (MS Z d) G Rp [.ref a0, .null, .null] [] S (0, 0) μ ρ) : MS Z (d + 1) jX10_whoIsUp [.ref a0] S μ ρ Rp :=
  MS_of [.ref a0, .null, .null] (by decide +kernel) rfl rfl (Nat.le_of_ble_eq_true rfl) rfl (fun p e R s m args below meth c C => b_X10_whoIsUp_0 C _ _ _ _ _ _ (h _ (b_X10_whoIsUp_4 C)))
def F_X10_whoIsUp : FT := fun As S μ ρ k => match As with
  | [.ref a] => S.2 a = (10, 6) ∧ ∃ A : Rw, RR A a S μ ρ ∧ k (some (.int (qUps A))) μ
  | _ => False
theorem r_X10_whoIsUp {As S μ ρ k} (h : F_X10_whoIsUp As S μ ρ k) : ∃ a As', As = Value.ref a :: As' ∧ S.2 a = (10, 6) := by
  unfold F_X10_whoIsUp at h
  split at h
  · exact ⟨_, _, rfl, h.1⟩
  · exact h.elim
set_option maxHeartbeats 1000000 in
theorem f_X10_whoIsUp {Z : Zt} {d : Nat} {As : List Value} {S : Sh} {μ : Mi} {ρ : Mr} {Rp : RT} (h : F_X10_whoIsUp As S μ ρ (fun r μ' => Rp r S μ' ρ)) : MS Z (d + 1) jX10_whoIsUp As S μ ρ Rp := by
  unfold F_X10_whoIsUp at h
  split at h
  · rename_i a
    obtain ⟨a, hNa⟩ : ∃ n : Nat, n = a := ⟨a, rfl⟩
    subst hNa
    obtain ⟨h1, A, hR, h⟩ := h
    unfold qUps at h
    refine ms_X10_whoIsUp _ (fun G g4 => ?_)
    have hW := RR_W hR
    have loop : ∀ (j t : Nat), j + t = 5 → G 4 [.ref a, .int (foldF (up1 A) 0 t), .int (nI t)] [] S (0, 0) μ ρ := by
      intro j
      induction j with
      | zero =>
        intro t ht
        obtain rfl : t = 5 := by omega
        rw [foldF_5]
        apply g4
        simp only [w_X10_whoIsUp_4, w_X10_whoIsUp_33, tAload, tIload, nth, tGetI, tGetR, tConst, tLconst, tBin, tUn, tI2l, tAld, tAldR, tAlen, tIast, tBast, tZast, tAast, tIret, tZret, tVret, tAret, tIf, tIf2, tGoto, tIstore, tAstore, sset, tIinc, tDup, tDup2, tPop, tPutI, tPutZ, tPutR, tCallV, tCallS, popN, tFn, tCopy, tMax, tMin, tSw, swc, tRem, tObjI, Option.toList, List.nil_append, List.cons_append, okR, true_and, and_true, true_or, or_true, Nat.zero_le, ne_eq, not_false_eq_true, Nat.reduceEqDiff]
        exact ⟨fun _ => h, fun c => absurd ((nI_le5 (by decide)).mpr rfl) c⟩
      | succ j ih =>
        intro t ht
        have ht5 : t < 5 := by omega
        obtain ⟨x1, x2, x3⟩ := W_st hW ht5
        have hSt := RR_st hR ht5
        have hA := hSt.1
        unfold StA at hA
        have nx := fun (_ : Nat) => ih (t + 1) (by omega)
        rw [foldF_s] at nx
        unfold up1 at nx
        apply g4
        simp only [w_X10_whoIsUp_4, w_X10_whoIsUp_27, tAload, tIload, nth, tGetI, tGetR, tConst, tLconst, tBin, tUn, tI2l, tAld, tAldR, tAlen, tIast, tBast, tZast, tAast, tIret, tZret, tVret, tAret, tIf, tIf2, tGoto, tIstore, tAstore, sset, tIinc, tDup, tDup2, tPop, tPutI, tPutZ, tPutR, tCallV, tCallS, popN, tFn, tCopy, tMax, tMin, tSw, swc, tRem, tObjI, Option.toList, List.nil_append, List.cons_append, okR, true_and, and_true, true_or, or_true, Nat.zero_le, ne_eq, not_false_eq_true, Nat.reduceEqDiff, h1, hW.2.2.2.2.1, hW.2.1, nI_s1]
        simp (disch := omega) only [nI_clamp, x3, x1, hA]
        rw [nI_le5 (by omega)]
        have u01 := hSt.2.1.1
        have nx := nx 0
        refine ⟨fun z => absurd z (by omega), fun _ => ⟨inb_nI ht5 (by decide), by omega, trivial, fun c => ?_, fun c => ?_⟩⟩
        · rw [if_neg (fun z => by rw [z] at c; exact absurd c (by decide)), Int32.or_zero] at nx
          exact nx
        · rw [if_pos (u01.elim (fun z => absurd z c) id)] at nx
          exact nx
    simp only [w_X10_whoIsUp_0, tAload, tIload, nth, tGetI, tGetR, tConst, tLconst, tBin, tUn, tI2l, tAld, tAldR, tAlen, tIast, tBast, tZast, tAast, tIret, tZret, tVret, tAret, tIf, tIf2, tGoto, tIstore, tAstore, sset, tIinc, tDup, tDup2, tPop, tPutI, tPutZ, tPutR, tCallV, tCallS, popN, tFn, tCopy, tMax, tMin, tSw, swc, tRem, tObjI, Option.toList, List.nil_append, List.cons_append, okR, true_and, and_true, true_or, or_true, Nat.zero_le, ne_eq, not_false_eq_true, Nat.reduceEqDiff]
    exact loop 5 0 rfl
  · exact h.elim
def w_X8_leadersNow_34 (M : CT) (G : Nat → PT) (Rp : RT) : PT := tIload 1 <| tIret Rp
def w_X8_leadersNow_28 (M : CT) (G : Nat → PT) (Rp : RT) : PT := tIinc 2 1 <| tGoto (G 4)
def w_X8_leadersNow_4 (M : CT) (G : Nat → PT) (Rp : RT) : PT := tIload 2 <| tConst 5 <| tIf2 (fun x y => y ≤ x) (w_X8_leadersNow_34 M G Rp) <| tAload 0 <| tGetR 10 6 0 <| tIload 2 <| tAldR 37 <| tGetI 7 18 4 <| tConst 2 <| tIf2 (fun x y => x ≠ y) (w_X8_leadersNow_28 M G Rp) <| tIload 1 <| tConst 1 <| tIload 2 <| tBin (fun x y => x <<< (y &&& 31)) <| tBin (fun x y => x ||| y) <| tIstore 1 <| w_X8_leadersNow_28 M G Rp
def w_X8_leadersNow_0 (M : CT) (G : Nat → PT) (Rp : RT) : PT := tConst 0 <| tIstore 1 <| tConst 0 <| tIstore 2 <| G 4
set_option maxRecDepth 20000 in
theorem b_X8_leadersNow_34 {Z : Zt} {d : Nat} {p : Program} {e : Env} {R : Room} {s : State} {m : MethodId} {args : Array Value} {below : List Frame} {meth : Method} {c : Code} {Rp : RT} (C : Cx Z d jX8_leadersNow RX8 p R s m args meth c) : Sd Z jX8_leadersNow p e R s m args below meth c (MQ below (QcS Z Rp) args s 0 0 (fun a => Z.2.2.1 < a)) 34 (w_X8_leadersNow_34 (MS Z d) (Gw Z 3 p e R s m args below meth c (MQ below (QcS Z Rp) args s 0 0 (fun a => Z.2.2.1 < a))) Rp) := by
  unfold w_X8_leadersNow_34
  refine s_iload_n (k := 1) C (by decide +kernel) ?_
  exact s_iret C rfl (by decide +kernel)
set_option maxRecDepth 20000 in
theorem b_X8_leadersNow_28 {Z : Zt} {d : Nat} {p : Program} {e : Env} {R : Room} {s : State} {m : MethodId} {args : Array Value} {below : List Frame} {meth : Method} {c : Code} {Rp : RT} (C : Cx Z d jX8_leadersNow RX8 p R s m args meth c) : Sd Z jX8_leadersNow p e R s m args below meth c (MQ below (QcS Z Rp) args s 0 0 (fun a => Z.2.2.1 < a)) 28 (w_X8_leadersNow_28 (MS Z d) (Gw Z 3 p e R s m args below meth c (MQ below (QcS Z Rp) args s 0 0 (fun a => Z.2.2.1 < a))) Rp) := by
  unfold w_X8_leadersNow_28
  refine s_iinc (n := 1) C (by decide +kernel) (by decide) ?_
  exact s_goto (off := (-27)) (tgt := 4) C (by decide +kernel) (by decide) (fun _ _ _ _ _ _ h => h)
set_option maxRecDepth 20000 in
theorem b_X8_leadersNow_4 {Z : Zt} {d : Nat} {p : Program} {e : Env} {R : Room} {s : State} {m : MethodId} {args : Array Value} {below : List Frame} {meth : Method} {c : Code} {Rp : RT} (C : Cx Z d jX8_leadersNow RX8 p R s m args meth c) : Sd Z jX8_leadersNow p e R s m args below meth c (MQ below (QcS Z Rp) args s 0 0 (fun a => Z.2.2.1 < a)) 4 (w_X8_leadersNow_4 (MS Z d) (Gw Z 3 p e R s m args below meth c (MQ below (QcS Z Rp) args s 0 0 (fun a => Z.2.2.1 < a))) Rp) := by
  unfold w_X8_leadersNow_4
  refine s_iload_n (k := 2) C (by decide +kernel) ?_
  refine s_iconst (n := 5) C (by decide +kernel) (by decide) ?_
  refine s_icmp_ge (off := 28) (tgt := 34) C (by decide +kernel) (by decide) (b_X8_leadersNow_34 C) ?_
  refine s_aload_n (k := 0) C (by decide +kernel) ?_
  refine s_getR C w_2_114 (by decide +kernel) rfl ?_
  refine s_iload_n (k := 2) C (by decide +kernel) ?_
  refine s_aald C rfl (by decide +kernel) ?_
  refine s_getI C w_1_232 (by decide +kernel) rfl ?_
  refine s_iconst (n := 2) C (by decide +kernel) (by decide) ?_
  refine s_icmp_ne (off := 9) (tgt := 28) C (by decide +kernel) (by decide) (b_X8_leadersNow_28 C) ?_
  refine s_iload_n (k := 1) C (by decide +kernel) ?_
  refine s_iconst (n := 1) C (by decide +kernel) (by decide) ?_
  refine s_iload_n (k := 2) C (by decide +kernel) ?_
  refine s_ishl C (by decide +kernel) ?_
  refine s_ior C (by decide +kernel) ?_
  refine s_istore_n (k := 1) C (by decide +kernel) ?_
  exact (b_X8_leadersNow_28 C)
set_option maxRecDepth 20000 in
theorem b_X8_leadersNow_0 {Z : Zt} {d : Nat} {p : Program} {e : Env} {R : Room} {s : State} {m : MethodId} {args : Array Value} {below : List Frame} {meth : Method} {c : Code} {Rp : RT} (C : Cx Z d jX8_leadersNow RX8 p R s m args meth c) : Sd Z jX8_leadersNow p e R s m args below meth c (MQ below (QcS Z Rp) args s 0 0 (fun a => Z.2.2.1 < a)) 0 (w_X8_leadersNow_0 (MS Z d) (Gw Z 3 p e R s m args below meth c (MQ below (QcS Z Rp) args s 0 0 (fun a => Z.2.2.1 < a))) Rp) := by
  unfold w_X8_leadersNow_0
  refine s_iconst (n := 0) C (by decide +kernel) (by decide) ?_
  refine s_istore_n (k := 1) C (by decide +kernel) ?_
  refine s_iconst (n := 0) C (by decide +kernel) (by decide) ?_
  refine s_istore_n (k := 2) C (by decide +kernel) ?_
  exact (fun _ _ _ _ _ _ h => h)
theorem ms_X8_leadersNow {Z : Zt} {d : Nat} {S : Sh} {μ : Mi} {ρ : Mr} {Rp : RT} (a1 : Nat) (h : ∀ G : Nat → PT, (∀ (L st : List Value) (S : Sh) (q : Nat × Nat) (μ : Mi) (ρ : Mr), w_X8_leadersNow_4 (MS Z d) G Rp L st S q μ ρ → G 4 L st S q μ ρ) → w_X8_leadersNow_0 (MS Z d) G Rp [.ref a1, .null, .null] [] S (0, 0) μ ρ) : MS Z (d + 1) jX8_leadersNow [.ref a1] S μ ρ Rp :=
  MS_of [.ref a1, .null, .null] (by decide +kernel) rfl rfl (Nat.le_of_ble_eq_true rfl) rfl (fun p e R s m args below meth c C => b_X8_leadersNow_0 C _ _ _ _ _ _ (h _ (b_X8_leadersNow_4 C)))
def F_X8_leadersNow : FT := fun As S μ ρ k => match As with
  | [.ref a] => S.2 a = (10, 6) ∧ ∃ A : Rw, RR A a S μ ρ ∧ k (some (.int (qLds A))) μ
  | _ => False
set_option maxHeartbeats 1000000 in
theorem f_X8_leadersNow {Z : Zt} {d : Nat} {As : List Value} {S : Sh} {μ : Mi} {ρ : Mr} {Rp : RT} (h : F_X8_leadersNow As S μ ρ (fun r μ' => Rp r S μ' ρ)) : MS Z (d + 1) jX8_leadersNow As S μ ρ Rp := by
  unfold F_X8_leadersNow at h
  split at h
  · rename_i a
    obtain ⟨a, hNa⟩ : ∃ n : Nat, n = a := ⟨a, rfl⟩
    subst hNa
    obtain ⟨h1, A, hR, h⟩ := h
    unfold qLds at h
    refine ms_X8_leadersNow _ (fun G g4 => ?_)
    have hW := RR_W hR
    have loop : ∀ (j t : Nat), j + t = 5 → G 4 [.ref a, .int (foldF (ld1 A) 0 t), .int (nI t)] [] S (0, 0) μ ρ := by
      intro j
      induction j with
      | zero =>
        intro t ht
        obtain rfl : t = 5 := by omega
        rw [foldF_5]
        apply g4
        simp only [w_X8_leadersNow_4, w_X8_leadersNow_34, tAload, tIload, nth, tGetI, tGetR, tConst, tLconst, tBin, tUn, tI2l, tAld, tAldR, tAlen, tIast, tBast, tZast, tAast, tIret, tZret, tVret, tAret, tIf, tIf2, tGoto, tIstore, tAstore, sset, tIinc, tDup, tDup2, tPop, tPutI, tPutZ, tPutR, tCallV, tCallS, popN, tFn, tCopy, tMax, tMin, tSw, swc, tRem, tObjI, Option.toList, List.nil_append, List.cons_append, okR, true_and, and_true, true_or, or_true, Nat.zero_le, ne_eq, not_false_eq_true, Nat.reduceEqDiff]
        exact ⟨fun _ => h, fun c => absurd ((nI_le5 (by decide)).mpr rfl) c⟩
      | succ j ih =>
        intro t ht
        have ht5 : t < 5 := by omega
        obtain ⟨x1, x2, x3⟩ := W_st hW ht5
        have hSt := RR_st hR ht5
        have hA := hSt.1
        unfold StA at hA
        have nx := fun (_ : Nat) => ih (t + 1) (by omega)
        rw [foldF_s] at nx
        unfold ld1 at nx
        apply g4
        simp only [w_X8_leadersNow_4, w_X8_leadersNow_28, tAload, tIload, nth, tGetI, tGetR, tConst, tLconst, tBin, tUn, tI2l, tAld, tAldR, tAlen, tIast, tBast, tZast, tAast, tIret, tZret, tVret, tAret, tIf, tIf2, tGoto, tIstore, tAstore, sset, tIinc, tDup, tDup2, tPop, tPutI, tPutZ, tPutR, tCallV, tCallS, popN, tFn, tCopy, tMax, tMin, tSw, swc, tRem, tObjI, Option.toList, List.nil_append, List.cons_append, okR, true_and, and_true, true_or, or_true, Nat.zero_le, ne_eq, not_false_eq_true, Nat.reduceEqDiff, h1, hW.2.2.2.2.1, hW.2.1, nI_s1]
        simp (disch := omega) only [nI_clamp, x3, x1, hA]
        rw [nI_le5 (by omega)]
        have nx := nx 0
        refine ⟨fun z => absurd z (by omega), fun _ => ⟨inb_nI ht5 (by decide), by omega, trivial, fun c => ?_, fun c => ?_⟩⟩
        · rw [if_neg c, Int32.or_zero] at nx
          exact nx
        · rw [if_pos (Classical.not_not.mp c)] at nx
          exact nx
    simp only [w_X8_leadersNow_0, tAload, tIload, nth, tGetI, tGetR, tConst, tLconst, tBin, tUn, tI2l, tAld, tAldR, tAlen, tIast, tBast, tZast, tAast, tIret, tZret, tVret, tAret, tIf, tIf2, tGoto, tIstore, tAstore, sset, tIinc, tDup, tDup2, tPop, tPutI, tPutZ, tPutR, tCallV, tCallS, popN, tFn, tCopy, tMax, tMin, tSw, swc, tRem, tObjI, Option.toList, List.nil_append, List.cons_append, okR, true_and, and_true, true_or, or_true, Nat.zero_le, ne_eq, not_false_eq_true, Nat.reduceEqDiff]
    exact loop 5 0 rfl
  · exact h.elim
def w_X8_greatestTerm_29 (M : CT) (G : Nat → PT) (Rp : RT) : PT := tIload 1 <| tIret Rp
def w_X8_greatestTerm_4 (M : CT) (G : Nat → PT) (Rp : RT) : PT := tIload 2 <| tConst 5 <| tIf2 (fun x y => y ≤ x) (w_X8_greatestTerm_29 M G Rp) <| tIload 1 <| tAload 0 <| tGetR 10 6 0 <| tIload 2 <| tAldR 37 <| tGetI 7 18 2 <| tMax <| tIstore 1 <| tIinc 2 1 <| tGoto (G 4)
def w_X8_greatestTerm_0 (M : CT) (G : Nat → PT) (Rp : RT) : PT := tConst 0 <| tIstore 1 <| tConst 0 <| tIstore 2 <| G 4
set_option maxRecDepth 20000 in
theorem b_X8_greatestTerm_29 {Z : Zt} {d : Nat} {p : Program} {e : Env} {R : Room} {s : State} {m : MethodId} {args : Array Value} {below : List Frame} {meth : Method} {c : Code} {Rp : RT} (C : Cx Z d jX8_greatestTerm RX8 p R s m args meth c) : Sd Z jX8_greatestTerm p e R s m args below meth c (MQ below (QcS Z Rp) args s 0 0 (fun a => Z.2.2.1 < a)) 29 (w_X8_greatestTerm_29 (MS Z d) (Gw Z 3 p e R s m args below meth c (MQ below (QcS Z Rp) args s 0 0 (fun a => Z.2.2.1 < a))) Rp) := by
  unfold w_X8_greatestTerm_29
  refine s_iload_n (k := 1) C (by decide +kernel) ?_
  exact s_iret C rfl (by decide +kernel)
set_option maxRecDepth 20000 in
theorem b_X8_greatestTerm_4 {Z : Zt} {d : Nat} {p : Program} {e : Env} {R : Room} {s : State} {m : MethodId} {args : Array Value} {below : List Frame} {meth : Method} {c : Code} {Rp : RT} (C : Cx Z d jX8_greatestTerm RX8 p R s m args meth c) : Sd Z jX8_greatestTerm p e R s m args below meth c (MQ below (QcS Z Rp) args s 0 0 (fun a => Z.2.2.1 < a)) 4 (w_X8_greatestTerm_4 (MS Z d) (Gw Z 3 p e R s m args below meth c (MQ below (QcS Z Rp) args s 0 0 (fun a => Z.2.2.1 < a))) Rp) := by
  unfold w_X8_greatestTerm_4
  refine s_iload_n (k := 2) C (by decide +kernel) ?_
  refine s_iconst (n := 5) C (by decide +kernel) (by decide) ?_
  refine s_icmp_ge (off := 23) (tgt := 29) C (by decide +kernel) (by decide) (b_X8_greatestTerm_29 C) ?_
  refine s_iload_n (k := 1) C (by decide +kernel) ?_
  refine s_aload_n (k := 0) C (by decide +kernel) ?_
  refine s_getR C w_2_114 (by decide +kernel) rfl ?_
  refine s_iload_n (k := 2) C (by decide +kernel) ?_
  refine s_aald C rfl (by decide +kernel) ?_
  refine s_getI C w_1_226 (by decide +kernel) rfl ?_
  refine s_max C w_5_150 w_3_168 w_1_16 w_max (by decide +kernel) ?_
  refine s_istore_n (k := 1) C (by decide +kernel) ?_
  refine s_iinc (n := 1) C (by decide +kernel) (by decide) ?_
  exact s_goto (off := (-22)) (tgt := 4) C (by decide +kernel) (by decide) (fun _ _ _ _ _ _ h => h)
set_option maxRecDepth 20000 in
theorem b_X8_greatestTerm_0 {Z : Zt} {d : Nat} {p : Program} {e : Env} {R : Room} {s : State} {m : MethodId} {args : Array Value} {below : List Frame} {meth : Method} {c : Code} {Rp : RT} (C : Cx Z d jX8_greatestTerm RX8 p R s m args meth c) : Sd Z jX8_greatestTerm p e R s m args below meth c (MQ below (QcS Z Rp) args s 0 0 (fun a => Z.2.2.1 < a)) 0 (w_X8_greatestTerm_0 (MS Z d) (Gw Z 3 p e R s m args below meth c (MQ below (QcS Z Rp) args s 0 0 (fun a => Z.2.2.1 < a))) Rp) := by
  unfold w_X8_greatestTerm_0
  refine s_iconst (n := 0) C (by decide +kernel) (by decide) ?_
  refine s_istore_n (k := 1) C (by decide +kernel) ?_
  refine s_iconst (n := 0) C (by decide +kernel) (by decide) ?_
  refine s_istore_n (k := 2) C (by decide +kernel) ?_
  exact (fun _ _ _ _ _ _ h => h)
theorem ms_X8_greatestTerm {Z : Zt} {d : Nat} {S : Sh} {μ : Mi} {ρ : Mr} {Rp : RT} (a1 : Nat) (h : ∀ G : Nat → PT, (∀ (L st : List Value) (S : Sh) (q : Nat × Nat) (μ : Mi) (ρ : Mr), w_X8_greatestTerm_4 (MS Z d) G Rp L st S q μ ρ → G 4 L st S q μ ρ) → w_X8_greatestTerm_0 (MS Z d) G Rp [.ref a1, .null, .null] [] S (0, 0) μ ρ) : MS Z (d + 1) jX8_greatestTerm [.ref a1] S μ ρ Rp :=
  MS_of [.ref a1, .null, .null] (by decide +kernel) rfl rfl (Nat.le_of_ble_eq_true rfl) rfl (fun p e R s m args below meth c C => b_X8_greatestTerm_0 C _ _ _ _ _ _ (h _ (b_X8_greatestTerm_4 C)))
def F_X8_greatestTerm : FT := fun As S μ ρ k => match As with
  | [.ref a] => S.2 a = (10, 6) ∧ ∃ A : Rw, RR A a S μ ρ ∧ k (some (.int (qGreatest A 1))) μ
  | _ => False
set_option maxHeartbeats 1000000 in
theorem f_X8_greatestTerm {Z : Zt} {d : Nat} {As : List Value} {S : Sh} {μ : Mi} {ρ : Mr} {Rp : RT} (h : F_X8_greatestTerm As S μ ρ (fun r μ' => Rp r S μ' ρ)) : MS Z (d + 1) jX8_greatestTerm As S μ ρ Rp := by
  unfold F_X8_greatestTerm at h
  split at h
  · rename_i a
    obtain ⟨a, hNa⟩ : ∃ n : Nat, n = a := ⟨a, rfl⟩
    subst hNa
    obtain ⟨h1, A, hR, h⟩ := h
    unfold qGreatest at h
    refine ms_X8_greatestTerm _ (fun G g4 => ?_)
    have hW := RR_W hR
    have loop : ∀ (j t : Nat), j + t = 5 → G 4 [.ref a, .int (foldF (grt1 A 1) 0 t), .int (nI t)] [] S (0, 0) μ ρ := by
      intro j
      induction j with
      | zero =>
        intro t ht
        obtain rfl : t = 5 := by omega
        rw [foldF_5]
        apply g4
        simp only [w_X8_greatestTerm_4, w_X8_greatestTerm_29, tAload, tIload, nth, tGetI, tGetR, tConst, tLconst, tBin, tUn, tI2l, tAld, tAldR, tAlen, tIast, tBast, tZast, tAast, tIret, tZret, tVret, tAret, tIf, tIf2, tGoto, tIstore, tAstore, sset, tIinc, tDup, tDup2, tPop, tPutI, tPutZ, tPutR, tCallV, tCallS, popN, tFn, tCopy, tMax, tMin, tSw, swc, tRem, tObjI, Option.toList, List.nil_append, List.cons_append, okR, true_and, and_true, true_or, or_true, Nat.zero_le, ne_eq, not_false_eq_true, Nat.reduceEqDiff]
        exact ⟨fun _ => h, fun c => absurd ((nI_le5 (by decide)).mpr rfl) c⟩
      | succ j ih =>
        intro t ht
        have ht5 : t < 5 := by omega
        obtain ⟨x1, x2, x3⟩ := W_st hW ht5
        have hSt := RR_st hR ht5
        have hA := hSt.1
        unfold StA at hA
        have nx := fun (_ : Nat) => ih (t + 1) (by omega)
        rw [foldF_s] at nx
        unfold grt1 at nx
        apply g4
        simp only [w_X8_greatestTerm_4, tAload, tIload, nth, tGetI, tGetR, tConst, tLconst, tBin, tUn, tI2l, tAld, tAldR, tAlen, tIast, tBast, tZast, tAast, tIret, tZret, tVret, tAret, tIf, tIf2, tGoto, tIstore, tAstore, sset, tIinc, tDup, tDup2, tPop, tPutI, tPutZ, tPutR, tCallV, tCallS, popN, tFn, tCopy, tMax, tMin, tSw, swc, tRem, tObjI, Option.toList, List.nil_append, List.cons_append, okR, true_and, and_true, true_or, or_true, Nat.zero_le, ne_eq, not_false_eq_true, Nat.reduceEqDiff, h1, hW.2.2.2.2.1, hW.2.1, nI_s1]
        simp (disch := omega) only [nI_clamp, x3, x1, hA]
        rw [nI_le5 (by omega)]
        have nx := nx 0
        rw [max_gt]
        exact ⟨fun z => absurd z (by omega), fun _ => ⟨inb_nI ht5 (by decide), by omega, trivial, nx⟩⟩
    simp only [w_X8_greatestTerm_0, tAload, tIload, nth, tGetI, tGetR, tConst, tLconst, tBin, tUn, tI2l, tAld, tAldR, tAlen, tIast, tBast, tZast, tAast, tIret, tZret, tVret, tAret, tIf, tIf2, tGoto, tIstore, tAstore, sset, tIinc, tDup, tDup2, tPop, tPutI, tPutZ, tPutR, tCallV, tCallS, popN, tFn, tCopy, tMax, tMin, tSw, swc, tRem, tObjI, Option.toList, List.nil_append, List.cons_append, okR, true_and, and_true, true_or, or_true, Nat.zero_le, ne_eq, not_false_eq_true, Nat.reduceEqDiff]
    exact loop 5 0 rfl
  · exact h.elim
def w_X8_greatestAgreed_29 (M : CT) (G : Nat → PT) (Rp : RT) : PT := tIload 1 <| tIret Rp
def w_X8_greatestAgreed_4 (M : CT) (G : Nat → PT) (Rp : RT) : PT := tIload 2 <| tConst 5 <| tIf2 (fun x y => y ≤ x) (w_X8_greatestAgreed_29 M G Rp) <| tIload 1 <| tAload 0 <| tGetR 10 6 0 <| tIload 2 <| tAldR 37 <| tGetI 7 18 8 <| tMax <| tIstore 1 <| tIinc 2 1 <| tGoto (G 4)
def w_X8_greatestAgreed_0 (M : CT) (G : Nat → PT) (Rp : RT) : PT := tConst 0 <| tIstore 1 <| tConst 0 <| tIstore 2 <| G 4
set_option maxRecDepth 20000 in
theorem b_X8_greatestAgreed_29 {Z : Zt} {d : Nat} {p : Program} {e : Env} {R : Room} {s : State} {m : MethodId} {args : Array Value} {below : List Frame} {meth : Method} {c : Code} {Rp : RT} (C : Cx Z d jX8_greatestAgreed RX8 p R s m args meth c) : Sd Z jX8_greatestAgreed p e R s m args below meth c (MQ below (QcS Z Rp) args s 0 0 (fun a => Z.2.2.1 < a)) 29 (w_X8_greatestAgreed_29 (MS Z d) (Gw Z 3 p e R s m args below meth c (MQ below (QcS Z Rp) args s 0 0 (fun a => Z.2.2.1 < a))) Rp) := by
  unfold w_X8_greatestAgreed_29
  refine s_iload_n (k := 1) C (by decide +kernel) ?_
  exact s_iret C rfl (by decide +kernel)
set_option maxRecDepth 20000 in
theorem b_X8_greatestAgreed_4 {Z : Zt} {d : Nat} {p : Program} {e : Env} {R : Room} {s : State} {m : MethodId} {args : Array Value} {below : List Frame} {meth : Method} {c : Code} {Rp : RT} (C : Cx Z d jX8_greatestAgreed RX8 p R s m args meth c) : Sd Z jX8_greatestAgreed p e R s m args below meth c (MQ below (QcS Z Rp) args s 0 0 (fun a => Z.2.2.1 < a)) 4 (w_X8_greatestAgreed_4 (MS Z d) (Gw Z 3 p e R s m args below meth c (MQ below (QcS Z Rp) args s 0 0 (fun a => Z.2.2.1 < a))) Rp) := by
  unfold w_X8_greatestAgreed_4
  refine s_iload_n (k := 2) C (by decide +kernel) ?_
  refine s_iconst (n := 5) C (by decide +kernel) (by decide) ?_
  refine s_icmp_ge (off := 23) (tgt := 29) C (by decide +kernel) (by decide) (b_X8_greatestAgreed_29 C) ?_
  refine s_iload_n (k := 1) C (by decide +kernel) ?_
  refine s_aload_n (k := 0) C (by decide +kernel) ?_
  refine s_getR C w_2_114 (by decide +kernel) rfl ?_
  refine s_iload_n (k := 2) C (by decide +kernel) ?_
  refine s_aald C rfl (by decide +kernel) ?_
  refine s_getI C w_2_7 (by decide +kernel) rfl ?_
  refine s_max C w_5_150 w_3_168 w_1_16 w_max (by decide +kernel) ?_
  refine s_istore_n (k := 1) C (by decide +kernel) ?_
  refine s_iinc (n := 1) C (by decide +kernel) (by decide) ?_
  exact s_goto (off := (-22)) (tgt := 4) C (by decide +kernel) (by decide) (fun _ _ _ _ _ _ h => h)
set_option maxRecDepth 20000 in
theorem b_X8_greatestAgreed_0 {Z : Zt} {d : Nat} {p : Program} {e : Env} {R : Room} {s : State} {m : MethodId} {args : Array Value} {below : List Frame} {meth : Method} {c : Code} {Rp : RT} (C : Cx Z d jX8_greatestAgreed RX8 p R s m args meth c) : Sd Z jX8_greatestAgreed p e R s m args below meth c (MQ below (QcS Z Rp) args s 0 0 (fun a => Z.2.2.1 < a)) 0 (w_X8_greatestAgreed_0 (MS Z d) (Gw Z 3 p e R s m args below meth c (MQ below (QcS Z Rp) args s 0 0 (fun a => Z.2.2.1 < a))) Rp) := by
  unfold w_X8_greatestAgreed_0
  refine s_iconst (n := 0) C (by decide +kernel) (by decide) ?_
  refine s_istore_n (k := 1) C (by decide +kernel) ?_
  refine s_iconst (n := 0) C (by decide +kernel) (by decide) ?_
  refine s_istore_n (k := 2) C (by decide +kernel) ?_
  exact (fun _ _ _ _ _ _ h => h)
theorem ms_X8_greatestAgreed {Z : Zt} {d : Nat} {S : Sh} {μ : Mi} {ρ : Mr} {Rp : RT} (a1 : Nat) (h : ∀ G : Nat → PT, (∀ (L st : List Value) (S : Sh) (q : Nat × Nat) (μ : Mi) (ρ : Mr), w_X8_greatestAgreed_4 (MS Z d) G Rp L st S q μ ρ → G 4 L st S q μ ρ) → w_X8_greatestAgreed_0 (MS Z d) G Rp [.ref a1, .null, .null] [] S (0, 0) μ ρ) : MS Z (d + 1) jX8_greatestAgreed [.ref a1] S μ ρ Rp :=
  MS_of [.ref a1, .null, .null] (by decide +kernel) rfl rfl (Nat.le_of_ble_eq_true rfl) rfl (fun p e R s m args below meth c C => b_X8_greatestAgreed_0 C _ _ _ _ _ _ (h _ (b_X8_greatestAgreed_4 C)))
def F_X8_greatestAgreed : FT := fun As S μ ρ k => match As with
  | [.ref a] => S.2 a = (10, 6) ∧ ∃ A : Rw, RR A a S μ ρ ∧ k (some (.int (qGreatest A 7))) μ
  | _ => False
set_option maxHeartbeats 1000000 in
theorem f_X8_greatestAgreed {Z : Zt} {d : Nat} {As : List Value} {S : Sh} {μ : Mi} {ρ : Mr} {Rp : RT} (h : F_X8_greatestAgreed As S μ ρ (fun r μ' => Rp r S μ' ρ)) : MS Z (d + 1) jX8_greatestAgreed As S μ ρ Rp := by
  unfold F_X8_greatestAgreed at h
  split at h
  · rename_i a
    obtain ⟨a, hNa⟩ : ∃ n : Nat, n = a := ⟨a, rfl⟩
    subst hNa
    obtain ⟨h1, A, hR, h⟩ := h
    unfold qGreatest at h
    refine ms_X8_greatestAgreed _ (fun G g4 => ?_)
    have hW := RR_W hR
    have loop : ∀ (j t : Nat), j + t = 5 → G 4 [.ref a, .int (foldF (grt1 A 7) 0 t), .int (nI t)] [] S (0, 0) μ ρ := by
      intro j
      induction j with
      | zero =>
        intro t ht
        obtain rfl : t = 5 := by omega
        rw [foldF_5]
        apply g4
        simp only [w_X8_greatestAgreed_4, w_X8_greatestAgreed_29, tAload, tIload, nth, tGetI, tGetR, tConst, tLconst, tBin, tUn, tI2l, tAld, tAldR, tAlen, tIast, tBast, tZast, tAast, tIret, tZret, tVret, tAret, tIf, tIf2, tGoto, tIstore, tAstore, sset, tIinc, tDup, tDup2, tPop, tPutI, tPutZ, tPutR, tCallV, tCallS, popN, tFn, tCopy, tMax, tMin, tSw, swc, tRem, tObjI, Option.toList, List.nil_append, List.cons_append, okR, true_and, and_true, true_or, or_true, Nat.zero_le, ne_eq, not_false_eq_true, Nat.reduceEqDiff]
        exact ⟨fun _ => h, fun c => absurd ((nI_le5 (by decide)).mpr rfl) c⟩
      | succ j ih =>
        intro t ht
        have ht5 : t < 5 := by omega
        obtain ⟨x1, x2, x3⟩ := W_st hW ht5
        have hSt := RR_st hR ht5
        have hA := hSt.1
        unfold StA at hA
        have nx := fun (_ : Nat) => ih (t + 1) (by omega)
        rw [foldF_s] at nx
        unfold grt1 at nx
        apply g4
        simp only [w_X8_greatestAgreed_4, tAload, tIload, nth, tGetI, tGetR, tConst, tLconst, tBin, tUn, tI2l, tAld, tAldR, tAlen, tIast, tBast, tZast, tAast, tIret, tZret, tVret, tAret, tIf, tIf2, tGoto, tIstore, tAstore, sset, tIinc, tDup, tDup2, tPop, tPutI, tPutZ, tPutR, tCallV, tCallS, popN, tFn, tCopy, tMax, tMin, tSw, swc, tRem, tObjI, Option.toList, List.nil_append, List.cons_append, okR, true_and, and_true, true_or, or_true, Nat.zero_le, ne_eq, not_false_eq_true, Nat.reduceEqDiff, h1, hW.2.2.2.2.1, hW.2.1, nI_s1]
        simp (disch := omega) only [nI_clamp, x3, x1, hA]
        rw [nI_le5 (by omega)]
        have nx := nx 0
        rw [max_gt]
        exact ⟨fun z => absurd z (by omega), fun _ => ⟨inb_nI ht5 (by decide), by omega, trivial, nx⟩⟩
    simp only [w_X8_greatestAgreed_0, tAload, tIload, nth, tGetI, tGetR, tConst, tLconst, tBin, tUn, tI2l, tAld, tAldR, tAlen, tIast, tBast, tZast, tAast, tIret, tZret, tVret, tAret, tIf, tIf2, tGoto, tIstore, tAstore, sset, tIinc, tDup, tDup2, tPop, tPutI, tPutZ, tPutR, tCallV, tCallS, popN, tFn, tCopy, tMax, tMin, tSw, swc, tRem, tObjI, Option.toList, List.nil_append, List.cons_append, okR, true_and, and_true, true_or, or_true, Nat.zero_le, ne_eq, not_false_eq_true, Nat.reduceEqDiff]
    exact loop 5 0 rfl
  · exact h.elim
def w_X8_leaderNow_53 (M : CT) (G : Nat → PT) (Rp : RT) : PT := tIload 1 <| tIret Rp
def w_X8_leaderNow_47 (M : CT) (G : Nat → PT) (Rp : RT) : PT := tIinc 2 1 <| tGoto (G 4)
def w_X8_leaderNow_45 (M : CT) (G : Nat → PT) (Rp : RT) : PT := tIload 2 <| tIstore 1 <| w_X8_leaderNow_47 M G Rp
def w_X8_leaderNow_4 (M : CT) (G : Nat → PT) (Rp : RT) : PT := tIload 2 <| tConst 5 <| tIf2 (fun x y => y ≤ x) (w_X8_leaderNow_53 M G Rp) <| tAload 0 <| tGetR 10 6 0 <| tIload 2 <| tAldR 37 <| tAstore 3 <| tAload 3 <| tGetI 7 18 4 <| tConst 2 <| tIf2 (fun x y => x ≠ y) (w_X8_leaderNow_47 M G Rp) <| tIload 1 <| tConst (-1) <| tIf2 (fun x y => x = y) (w_X8_leaderNow_45 M G Rp) <| tAload 3 <| tGetI 7 18 2 <| tAload 0 <| tGetR 10 6 0 <| tIload 1 <| tAldR 37 <| tGetI 7 18 2 <| tIf2 (fun x y => x ≤ y) (w_X8_leaderNow_47 M G Rp) <| w_X8_leaderNow_45 M G Rp
def w_X8_leaderNow_0 (M : CT) (G : Nat → PT) (Rp : RT) : PT := tConst (-1) <| tIstore 1 <| tConst 0 <| tIstore 2 <| G 4
set_option maxRecDepth 20000 in
theorem b_X8_leaderNow_53 {Z : Zt} {d : Nat} {p : Program} {e : Env} {R : Room} {s : State} {m : MethodId} {args : Array Value} {below : List Frame} {meth : Method} {c : Code} {Rp : RT} (C : Cx Z d jX8_leaderNow RX8 p R s m args meth c) : Sd Z jX8_leaderNow p e R s m args below meth c (MQ below (QcS Z Rp) args s 0 0 (fun a => Z.2.2.1 < a)) 53 (w_X8_leaderNow_53 (MS Z d) (Gw Z 4 p e R s m args below meth c (MQ below (QcS Z Rp) args s 0 0 (fun a => Z.2.2.1 < a))) Rp) := by
  unfold w_X8_leaderNow_53
  refine s_iload_n (k := 1) C (by decide +kernel) ?_
  exact s_iret C rfl (by decide +kernel)
set_option maxRecDepth 20000 in
theorem b_X8_leaderNow_47 {Z : Zt} {d : Nat} {p : Program} {e : Env} {R : Room} {s : State} {m : MethodId} {args : Array Value} {below : List Frame} {meth : Method} {c : Code} {Rp : RT} (C : Cx Z d jX8_leaderNow RX8 p R s m args meth c) : Sd Z jX8_leaderNow p e R s m args below meth c (MQ below (QcS Z Rp) args s 0 0 (fun a => Z.2.2.1 < a)) 47 (w_X8_leaderNow_47 (MS Z d) (Gw Z 4 p e R s m args below meth c (MQ below (QcS Z Rp) args s 0 0 (fun a => Z.2.2.1 < a))) Rp) := by
  unfold w_X8_leaderNow_47
  refine s_iinc (n := 1) C (by decide +kernel) (by decide) ?_
  exact s_goto (off := (-46)) (tgt := 4) C (by decide +kernel) (by decide) (fun _ _ _ _ _ _ h => h)
set_option maxRecDepth 20000 in
theorem b_X8_leaderNow_45 {Z : Zt} {d : Nat} {p : Program} {e : Env} {R : Room} {s : State} {m : MethodId} {args : Array Value} {below : List Frame} {meth : Method} {c : Code} {Rp : RT} (C : Cx Z d jX8_leaderNow RX8 p R s m args meth c) : Sd Z jX8_leaderNow p e R s m args below meth c (MQ below (QcS Z Rp) args s 0 0 (fun a => Z.2.2.1 < a)) 45 (w_X8_leaderNow_45 (MS Z d) (Gw Z 4 p e R s m args below meth c (MQ below (QcS Z Rp) args s 0 0 (fun a => Z.2.2.1 < a))) Rp) := by
  unfold w_X8_leaderNow_45
  refine s_iload_n (k := 2) C (by decide +kernel) ?_
  refine s_istore_n (k := 1) C (by decide +kernel) ?_
  exact (b_X8_leaderNow_47 C)
set_option maxRecDepth 20000 in
theorem b_X8_leaderNow_4 {Z : Zt} {d : Nat} {p : Program} {e : Env} {R : Room} {s : State} {m : MethodId} {args : Array Value} {below : List Frame} {meth : Method} {c : Code} {Rp : RT} (C : Cx Z d jX8_leaderNow RX8 p R s m args meth c) : Sd Z jX8_leaderNow p e R s m args below meth c (MQ below (QcS Z Rp) args s 0 0 (fun a => Z.2.2.1 < a)) 4 (w_X8_leaderNow_4 (MS Z d) (Gw Z 4 p e R s m args below meth c (MQ below (QcS Z Rp) args s 0 0 (fun a => Z.2.2.1 < a))) Rp) := by
  unfold w_X8_leaderNow_4
  refine s_iload_n (k := 2) C (by decide +kernel) ?_
  refine s_iconst (n := 5) C (by decide +kernel) (by decide) ?_
  refine s_icmp_ge (off := 47) (tgt := 53) C (by decide +kernel) (by decide) (b_X8_leaderNow_53 C) ?_
  refine s_aload_n (k := 0) C (by decide +kernel) ?_
  refine s_getR C w_2_114 (by decide +kernel) rfl ?_
  refine s_iload_n (k := 2) C (by decide +kernel) ?_
  refine s_aald C rfl (by decide +kernel) ?_
  refine s_astore_n (k := 3) C (by decide +kernel) ?_
  refine s_aload_n (k := 3) C (by decide +kernel) ?_
  refine s_getI C w_1_232 (by decide +kernel) rfl ?_
  refine s_iconst (n := 2) C (by decide +kernel) (by decide) ?_
  refine s_icmp_ne (off := 26) (tgt := 47) C (by decide +kernel) (by decide) (b_X8_leaderNow_47 C) ?_
  refine s_iload_n (k := 1) C (by decide +kernel) ?_
  refine s_iconst (n := (-1)) C (by decide +kernel) (by decide) ?_
  refine s_icmp_eq (off := 19) (tgt := 45) C (by decide +kernel) (by decide) (b_X8_leaderNow_45 C) ?_
  refine s_aload_n (k := 3) C (by decide +kernel) ?_
  refine s_getI C w_1_226 (by decide +kernel) rfl ?_
  refine s_aload_n (k := 0) C (by decide +kernel) ?_
  refine s_getR C w_2_114 (by decide +kernel) rfl ?_
  refine s_iload_n (k := 1) C (by decide +kernel) ?_
  refine s_aald C rfl (by decide +kernel) ?_
  refine s_getI C w_1_226 (by decide +kernel) rfl ?_
  refine s_icmp_le (off := 5) (tgt := 47) C (by decide +kernel) (by decide) (b_X8_leaderNow_47 C) ?_
  exact (b_X8_leaderNow_45 C)
set_option maxRecDepth 20000 in
theorem b_X8_leaderNow_0 {Z : Zt} {d : Nat} {p : Program} {e : Env} {R : Room} {s : State} {m : MethodId} {args : Array Value} {below : List Frame} {meth : Method} {c : Code} {Rp : RT} (C : Cx Z d jX8_leaderNow RX8 p R s m args meth c) : Sd Z jX8_leaderNow p e R s m args below meth c (MQ below (QcS Z Rp) args s 0 0 (fun a => Z.2.2.1 < a)) 0 (w_X8_leaderNow_0 (MS Z d) (Gw Z 4 p e R s m args below meth c (MQ below (QcS Z Rp) args s 0 0 (fun a => Z.2.2.1 < a))) Rp) := by
  unfold w_X8_leaderNow_0
  refine s_iconst (n := (-1)) C (by decide +kernel) (by decide) ?_
  refine s_istore_n (k := 1) C (by decide +kernel) ?_
  refine s_iconst (n := 0) C (by decide +kernel) (by decide) ?_
  refine s_istore_n (k := 2) C (by decide +kernel) ?_
  exact (fun _ _ _ _ _ _ h => h)
theorem ms_X8_leaderNow {Z : Zt} {d : Nat} {S : Sh} {μ : Mi} {ρ : Mr} {Rp : RT} (a1 : Nat) (h : ∀ G : Nat → PT, (∀ (L st : List Value) (S : Sh) (q : Nat × Nat) (μ : Mi) (ρ : Mr), w_X8_leaderNow_4 (MS Z d) G Rp L st S q μ ρ → G 4 L st S q μ ρ) → w_X8_leaderNow_0 (MS Z d) G Rp [.ref a1, .null, .null, .null] [] S (0, 0) μ ρ) : MS Z (d + 1) jX8_leaderNow [.ref a1] S μ ρ Rp :=
  MS_of [.ref a1, .null, .null, .null] (by decide +kernel) rfl rfl (Nat.le_of_ble_eq_true rfl) rfl (fun p e R s m args below meth c C => b_X8_leaderNow_0 C _ _ _ _ _ _ (h _ (b_X8_leaderNow_4 C)))
def F_X8_leaderNow : FT := fun As S μ ρ k => match As with
  | [.ref a] => S.2 a = (10, 6) ∧ ∃ A : Rw, RR A a S μ ρ ∧ k (some (.int (qLeader A))) μ
  | _ => False
set_option maxHeartbeats 1000000 in
theorem f_X8_leaderNow {Z : Zt} {d : Nat} {As : List Value} {S : Sh} {μ : Mi} {ρ : Mr} {Rp : RT} (h : F_X8_leaderNow As S μ ρ (fun r μ' => Rp r S μ' ρ)) : MS Z (d + 1) jX8_leaderNow As S μ ρ Rp := by
  unfold F_X8_leaderNow at h
  split at h
  · rename_i a
    obtain ⟨a, hNa⟩ : ∃ n : Nat, n = a := ⟨a, rfl⟩
    subst hNa
    obtain ⟨h1, A, hR, h⟩ := h
    unfold qLeader at h
    refine ms_X8_leaderNow _ (fun G g4 => ?_)
    have hW := RR_W hR
    have bst : ∀ t, t ≤ 5 → foldF (ln1 A) (-1) t = -1 ∨ ∃ b, b < 5 ∧ foldF (ln1 A) (-1) t = nI b := by
      intro t
      induction t with
      | zero => intro _; exact Or.inl rfl
      | succ t ih =>
        intro ht
        rw [foldF_s]
        unfold ln1
        split
        · exact Or.inr ⟨t, by omega, rfl⟩
        · exact ih (by omega)
    have loop : ∀ (j t : Nat) (v : Value), j + t = 5 → G 4 [.ref a, .int (foldF (ln1 A) (-1) t), .int (nI t), v] [] S (0, 0) μ ρ := by
      intro j
      induction j with
      | zero =>
        intro t v ht
        obtain rfl : t = 5 := by omega
        rw [foldF_5]
        apply g4
        simp only [w_X8_leaderNow_4, w_X8_leaderNow_53, tAload, tIload, nth, tGetI, tGetR, tConst, tLconst, tBin, tUn, tI2l, tAld, tAldR, tAlen, tIast, tBast, tZast, tAast, tIret, tZret, tVret, tAret, tIf, tIf2, tGoto, tIstore, tAstore, sset, tIinc, tDup, tDup2, tPop, tPutI, tPutZ, tPutR, tCallV, tCallS, popN, tFn, tCopy, tMax, tMin, tSw, swc, tRem, tObjI, Option.toList, List.nil_append, List.cons_append, okR, true_and, and_true, true_or, or_true, Nat.zero_le, ne_eq, not_false_eq_true, Nat.reduceEqDiff]
        exact ⟨fun _ => h, fun c => absurd ((nI_le5 (by decide)).mpr rfl) c⟩
      | succ j ih =>
        intro t v ht
        have ht5 : t < 5 := by omega
        obtain ⟨x1, x2, x3⟩ := W_st hW ht5
        have hSt := RR_st hR ht5
        have hA := hSt.1
        unfold StA at hA
        have nx := fun (v : Value) => ih (t + 1) v (by omega)
        rw [foldF_s] at nx
        have e1 : ∀ x, ln1 A t x = (if A (514 * t + 3) = 2 ∧ (x = -1 ∨ A (514 * x.toNatClampNeg + 1) < A (514 * t + 1)) then nI t else x) := fun _ => rfl
        simp only [e1] at nx
        apply g4
        simp only [w_X8_leaderNow_4, w_X8_leaderNow_45, w_X8_leaderNow_47, tAload, tIload, nth, tGetI, tGetR, tConst, tLconst, tBin, tUn, tI2l, tAld, tAldR, tAlen, tIast, tBast, tZast, tAast, tIret, tZret, tVret, tAret, tIf, tIf2, tGoto, tIstore, tAstore, sset, tIinc, tDup, tDup2, tPop, tPutI, tPutZ, tPutR, tCallV, tCallS, popN, tFn, tCopy, tMax, tMin, tSw, swc, tRem, tObjI, Option.toList, List.nil_append, List.cons_append, okR, true_and, and_true, true_or, or_true, Nat.zero_le, ne_eq, not_false_eq_true, Nat.reduceEqDiff, h1, hW.2.2.2.2.1, hW.2.1, nI_s1]
        simp (disch := omega) only [nI_clamp, x3, x1, hA]
        rw [nI_le5 (by omega)]
        have nx := nx (.ref (a + 130 + 8 * t))
        refine ⟨fun z => absurd z (by omega), fun _ => ⟨inb_nI ht5 (by decide), by omega, trivial, fun c => ?_, fun c => ⟨fun c2 => ?_, fun c2 => ?_⟩⟩⟩
        · rw [if_neg (fun z => c z.1)] at nx
          exact nx
        · rw [if_pos ⟨Classical.not_not.mp c, Or.inl c2⟩] at nx
          exact nx
        · obtain ⟨b, b1, b2⟩ := (bst t (by omega)).resolve_left c2
          rw [b2] at nx c2 ⊢
          rw [nI_clamp (by omega)] at nx ⊢
          obtain ⟨y1, y2, y3⟩ := W_st hW b1
          have e2 : μ (a + 130 + 8 * b) 2 = A (514 * b + 1) := (RR_st hR b1).1.2.2.1
          rw [y3, y1, e2]
          refine ⟨trivial, inb_nI b1 (by decide), by omega, rfl, fun c3 => ?_, fun c3 => ?_⟩
          · rw [if_neg (fun z => z.2.elim c2 (fun z => absurd z (Int32.not_lt.mpr c3)))] at nx
            exact nx
          · rw [if_pos ⟨Classical.not_not.mp c, Or.inr (Int32.not_le.mp c3)⟩] at nx
            exact nx
    simp only [w_X8_leaderNow_0, tAload, tIload, nth, tGetI, tGetR, tConst, tLconst, tBin, tUn, tI2l, tAld, tAldR, tAlen, tIast, tBast, tZast, tAast, tIret, tZret, tVret, tAret, tIf, tIf2, tGoto, tIstore, tAstore, sset, tIinc, tDup, tDup2, tPop, tPutI, tPutZ, tPutR, tCallV, tCallS, popN, tFn, tCopy, tMax, tMin, tSw, swc, tRem, tObjI, Option.toList, List.nil_append, List.cons_append, okR, true_and, and_true, true_or, or_true, Nat.zero_le, ne_eq, not_false_eq_true, Nat.reduceEqDiff]
    exact loop 5 0 _ rfl
  · exact h.elim
def w_X8_granting_61 (M : CT) (G : Nat → PT) (Rp : RT) : PT := tIload 4 <| tIret Rp
def w_X8_granting_55 (M : CT) (G : Nat → PT) (Rp : RT) : PT := tIinc 5 1 <| tGoto (G 22)
def w_X8_granting_22 (M : CT) (G : Nat → PT) (Rp : RT) : PT := tIload 5 <| tConst 5 <| tIf2 (fun x y => y ≤ x) (w_X8_granting_61 M G Rp) <| tAload 0 <| tGetR 10 6 0 <| tIload 5 <| tAldR 37 <| tIload 3 <| tAload 2 <| tGetI 7 18 7 <| tFn 3 F_X7_findsFresh <| tIf (fun x => x = 0) (w_X8_granting_55 M G Rp) <| tIload 4 <| tConst 1 <| tIload 5 <| tBin (fun x y => x <<< (y &&& 31)) <| tBin (fun x y => x ||| y) <| tIstore 4 <| w_X8_granting_55 M G Rp
def w_X8_granting_0 (M : CT) (G : Nat → PT) (Rp : RT) : PT := tAload 0 <| tGetR 10 6 0 <| tIload 1 <| tAldR 37 <| tAstore 2 <| tAload 2 <| tAload 2 <| tGetI 7 18 7 <| tFn 2 F_X7_termAt <| tIstore 3 <| tConst 0 <| tIstore 4 <| tConst 0 <| tIstore 5 <| G 22
set_option maxRecDepth 20000 in
theorem b_X8_granting_61 {Z : Zt} {d : Nat} {p : Program} {e : Env} {R : Room} {s : State} {m : MethodId} {args : Array Value} {below : List Frame} {meth : Method} {c : Code} {Rp : RT} (C : Cx Z (d + 2) jX8_granting RX8 p R s m args meth c) : Sd Z jX8_granting p e R s m args below meth c (MQ below (QcS Z Rp) args s 0 0 (fun a => Z.2.2.1 < a)) 61 (w_X8_granting_61 (MS Z (d + 2)) (Gw Z 6 p e R s m args below meth c (MQ below (QcS Z Rp) args s 0 0 (fun a => Z.2.2.1 < a))) Rp) := by
  unfold w_X8_granting_61
  refine s_iload (k := 4) C (by decide +kernel) ?_
  exact s_iret C rfl (by decide +kernel)
set_option maxRecDepth 20000 in
theorem b_X8_granting_55 {Z : Zt} {d : Nat} {p : Program} {e : Env} {R : Room} {s : State} {m : MethodId} {args : Array Value} {below : List Frame} {meth : Method} {c : Code} {Rp : RT} (C : Cx Z (d + 2) jX8_granting RX8 p R s m args meth c) : Sd Z jX8_granting p e R s m args below meth c (MQ below (QcS Z Rp) args s 0 0 (fun a => Z.2.2.1 < a)) 55 (w_X8_granting_55 (MS Z (d + 2)) (Gw Z 6 p e R s m args below meth c (MQ below (QcS Z Rp) args s 0 0 (fun a => Z.2.2.1 < a))) Rp) := by
  unfold w_X8_granting_55
  refine s_iinc (n := 1) C (by decide +kernel) (by decide) ?_
  exact s_goto (off := (-36)) (tgt := 22) C (by decide +kernel) (by decide) (fun _ _ _ _ _ _ h => h)
set_option maxRecDepth 20000 in
theorem b_X8_granting_22 {Z : Zt} {d : Nat} {p : Program} {e : Env} {R : Room} {s : State} {m : MethodId} {args : Array Value} {below : List Frame} {meth : Method} {c : Code} {Rp : RT} (C : Cx Z (d + 2) jX8_granting RX8 p R s m args meth c) : Sd Z jX8_granting p e R s m args below meth c (MQ below (QcS Z Rp) args s 0 0 (fun a => Z.2.2.1 < a)) 22 (w_X8_granting_22 (MS Z (d + 2)) (Gw Z 6 p e R s m args below meth c (MQ below (QcS Z Rp) args s 0 0 (fun a => Z.2.2.1 < a))) Rp) := by
  unfold w_X8_granting_22
  refine s_iload (k := 5) C (by decide +kernel) ?_
  refine s_iconst (n := 5) C (by decide +kernel) (by decide) ?_
  refine s_icmp_ge (off := 36) (tgt := 61) C (by decide +kernel) (by decide) (b_X8_granting_61 C) ?_
  refine s_aload_n (k := 0) C (by decide +kernel) ?_
  refine s_getR C w_2_114 (by decide +kernel) rfl ?_
  refine s_iload (k := 5) C (by decide +kernel) ?_
  refine s_aald C rfl (by decide +kernel) ?_
  refine s_iload_n (k := 3) C (by decide +kernel) ?_
  refine s_aload_n (k := 2) C (by decide +kernel) ?_
  refine s_getI C w_2_3 (by decide +kernel) rfl ?_
  refine s_fnV C (j2 := jX7_findsFresh) (cl := 7) (nf := 18) rfl rfl (by decide +kernel) rfl w_5_159 w_4_88 w_4_89 w_1_5 w_4_90 (by decide +kernel) (fun _ _ _ _ _ h => f_X7_findsFresh h) (fun _ _ _ _ _ h => r_X7_findsFresh h) ?_
  refine s_if_eq (off := 12) (tgt := 55) C (by decide +kernel) (by decide) (b_X8_granting_55 C) ?_
  refine s_iload (k := 4) C (by decide +kernel) ?_
  refine s_iconst (n := 1) C (by decide +kernel) (by decide) ?_
  refine s_iload (k := 5) C (by decide +kernel) ?_
  refine s_ishl C (by decide +kernel) ?_
  refine s_ior C (by decide +kernel) ?_
  refine s_istore (k := 4) C (by decide +kernel) ?_
  exact (b_X8_granting_55 C)
set_option maxRecDepth 20000 in
theorem b_X8_granting_0 {Z : Zt} {d : Nat} {p : Program} {e : Env} {R : Room} {s : State} {m : MethodId} {args : Array Value} {below : List Frame} {meth : Method} {c : Code} {Rp : RT} (C : Cx Z (d + 2) jX8_granting RX8 p R s m args meth c) : Sd Z jX8_granting p e R s m args below meth c (MQ below (QcS Z Rp) args s 0 0 (fun a => Z.2.2.1 < a)) 0 (w_X8_granting_0 (MS Z (d + 2)) (Gw Z 6 p e R s m args below meth c (MQ below (QcS Z Rp) args s 0 0 (fun a => Z.2.2.1 < a))) Rp) := by
  unfold w_X8_granting_0
  refine s_aload_n (k := 0) C (by decide +kernel) ?_
  refine s_getR C w_2_114 (by decide +kernel) rfl ?_
  refine s_iload_n (k := 1) C (by decide +kernel) ?_
  refine s_aald C rfl (by decide +kernel) ?_
  refine s_astore_n (k := 2) C (by decide +kernel) ?_
  refine s_aload_n (k := 2) C (by decide +kernel) ?_
  refine s_aload_n (k := 2) C (by decide +kernel) ?_
  refine s_getI C w_2_3 (by decide +kernel) rfl ?_
  refine s_fnV C (j2 := jX7_termAt) (cl := 7) (nf := 18) rfl rfl (by decide +kernel) rfl w_5_95 w_3_130 w_3_131 w_1_5 w_3_132 (by decide +kernel) (fun _ _ _ _ _ h => f_X7_termAt h) (fun _ _ _ _ _ h => r_X7_termAt h) ?_
  refine s_istore_n (k := 3) C (by decide +kernel) ?_
  refine s_iconst (n := 0) C (by decide +kernel) (by decide) ?_
  refine s_istore (k := 4) C (by decide +kernel) ?_
  refine s_iconst (n := 0) C (by decide +kernel) (by decide) ?_
  refine s_istore (k := 5) C (by decide +kernel) ?_
  exact (fun _ _ _ _ _ _ h => h)
theorem ms_X8_granting {Z : Zt} {d : Nat} {S : Sh} {μ : Mi} {ρ : Mr} {Rp : RT} (a1 : Nat) (x2 : Int32) (h : ∀ G : Nat → PT, (∀ (L st : List Value) (S : Sh) (q : Nat × Nat) (μ : Mi) (ρ : Mr), w_X8_granting_22 (MS Z (d + 2)) G Rp L st S q μ ρ → G 22 L st S q μ ρ) → w_X8_granting_0 (MS Z (d + 2)) G Rp [.ref a1, .int x2, .null, .null, .null, .null] [] S (0, 0) μ ρ) : MS Z (d + 3) jX8_granting [.ref a1, .int x2] S μ ρ Rp :=
  MS_of [.ref a1, .int x2, .null, .null, .null, .null] (by decide +kernel) rfl rfl (Nat.le_of_ble_eq_true rfl) rfl (fun p e R s m args below meth c C => b_X8_granting_0 C _ _ _ _ _ _ (h _ (b_X8_granting_22 C)))
def F_X8_granting : FT := fun As S μ ρ k => match As with
  | [.ref a, .int n] => S.2 a = (10, 6) ∧ ∃ (s : Nat) (A : Rw), RR A a S μ ρ ∧ n = nI s ∧ s < 5 ∧ k (some (.int (qGrants A s))) μ
  | _ => False
set_option maxHeartbeats 1000000 in
theorem f_X8_granting {Z : Zt} {d : Nat} {As : List Value} {S : Sh} {μ : Mi} {ρ : Mr} {Rp : RT} (h : F_X8_granting As S μ ρ (fun r μ' => Rp r S μ' ρ)) : MS Z (d + 3) jX8_granting As S μ ρ Rp := by
  unfold F_X8_granting at h
  split at h
  · rename_i a n
    obtain ⟨a, hNa⟩ : ∃ n : Nat, n = a := ⟨a, rfl⟩
    subst hNa
    obtain ⟨h1, s, A, hR, rfl, hs, h⟩ := h
    unfold qGrants at h
    refine ms_X8_granting _ _ (fun G g22 => ?_)
    have hW := RR_W hR
    obtain ⟨z1, z2, z3⟩ := W_st hW hs
    have hSs := RR_st hR hs
    have hi5 := inb_nI hs (show (5 : Nat) < 2 ^ 31 by decide)
    have e7 : μ (a + 130 + 8 * s) 7 = A (514 * s + 4) := hSs.1.2.2.2.2.2.2.2.1
    have loop : ∀ (j t : Nat), j + t = 5 → G 22 [.ref a, .int (nI s), .ref (a + 130 + 8 * s), .int (qTermAt A s (A (514 * s + 4))), .int (foldF (gr1 A (A (514 * s + 4)) (qTermAt A s (A (514 * s + 4)))) 0 t), .int (nI t)] [] S (0, 0) μ ρ := by
      intro j
      induction j with
      | zero =>
        intro t ht
        obtain rfl : t = 5 := by omega
        rw [foldF_5]
        apply g22
        simp only [w_X8_granting_22, w_X8_granting_61, tAload, tIload, nth, tGetI, tGetR, tConst, tLconst, tBin, tUn, tI2l, tAld, tAldR, tAlen, tIast, tBast, tZast, tAast, tIret, tZret, tVret, tAret, tIf, tIf2, tGoto, tIstore, tAstore, sset, tIinc, tDup, tDup2, tPop, tPutI, tPutZ, tPutR, tCallV, tCallS, popN, tFn, tCopy, tMax, tMin, tSw, swc, tRem, tObjI, Option.toList, List.nil_append, List.cons_append, okR, true_and, and_true, true_or, or_true, Nat.zero_le, ne_eq, not_false_eq_true, Nat.reduceEqDiff]
        exact ⟨fun _ => h, fun c => absurd ((nI_le5 (by decide)).mpr rfl) c⟩
      | succ j ih =>
        intro t ht
        have ht5 : t < 5 := by omega
        obtain ⟨x1, x2, x3⟩ := W_st hW ht5
        have hSt := RR_st hR ht5
        have hA := hSt.1
        unfold StA at hA
        have nx := fun (_ : Nat) => ih (t + 1) (by omega)
        rw [foldF_s] at nx
        unfold gr1 at nx
        apply g22
        simp only [w_X8_granting_22, w_X8_granting_55, tAload, tIload, nth, tGetI, tGetR, tConst, tLconst, tBin, tUn, tI2l, tAld, tAldR, tAlen, tIast, tBast, tZast, tAast, tIret, tZret, tVret, tAret, tIf, tIf2, tGoto, tIstore, tAstore, sset, tIinc, tDup, tDup2, tPop, tPutI, tPutZ, tPutR, tCallV, tCallS, popN, tFn, tCopy, tMax, tMin, tSw, swc, tRem, tObjI, Option.toList, List.nil_append, List.cons_append, okR, true_and, and_true, true_or, or_true, Nat.zero_le, ne_eq, not_false_eq_true, Nat.reduceEqDiff, F_X7_findsFresh, b2_z, z1, e7, h1, hW.2.2.2.2.1, hW.2.1, nI_s1]
        simp (disch := omega) only [nI_clamp, x3, x1, hA]
        rw [nI_le5 (by omega)]
        have nx := nx 0
        refine ⟨fun z => absurd z (by omega), fun _ => ⟨inb_nI ht5 (by decide), by omega, trivial, x2, hSt.2.1.2.2.1.1, hSt.2.1.2.1.2, fun c => ?_, fun c => ?_⟩⟩
        · rw [St_termAt hSt] at c
          rw [if_neg c, Int32.or_zero] at nx
          exact nx
        · rw [St_termAt hSt] at c
          rw [if_pos (Decidable.not_not.mp c)] at nx
          exact nx
    simp only [w_X8_granting_0, tAload, tIload, nth, tGetI, tGetR, tConst, tLconst, tBin, tUn, tI2l, tAld, tAldR, tAlen, tIast, tBast, tZast, tAast, tIret, tZret, tVret, tAret, tIf, tIf2, tGoto, tIstore, tAstore, sset, tIinc, tDup, tDup2, tPop, tPutI, tPutZ, tPutR, tCallV, tCallS, popN, tFn, tCopy, tMax, tMin, tSw, swc, tRem, tObjI, Option.toList, List.nil_append, List.cons_append, okR, true_and, and_true, true_or, or_true, Nat.zero_le, ne_eq, not_false_eq_true, Nat.reduceEqDiff, F_X7_termAt, h1, hW.2.2.2.2.1, hW.2.1, nI_clamp (show s < 2 ^ 31 by omega), z3, z1, hi5, e7]
    refine ⟨by omega, z2, by rw [hSs.1.2.2.2.2.2.2.2.2.2.1]; exact hSs.2.1.2.2.1.1, hSs.2.1.2.1.2, ?_⟩
    rw [St_termAt hSs]
    exact loop 5 0 rfl
  · exact h.elim
