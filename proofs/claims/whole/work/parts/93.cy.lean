/-! ===== the class: votes, what would be ===== -/
def hK (A : Rw) (s : Nat) : Prop := stOK A s ∧ agR A s ∧ (A (514 * s + 3) = 2 → 1 ≤ (A (514 * s + 1)).toInt)
theorem agOK_8 {A : Rw} {s : Nat} {v : Int32} (hs : s < 5) (ha : agOK A s) : agOK (up A (514 * s + 8) v) s :=
  agOK_of hs ha (by rw [up_ne (by omega)]; exact ha.1.1) (up_ne (by omega)) (up_ne (by omega)) (up_ne (by omega)) (fun t ht => by rw [up_ne (by omega)]; exact ha.1.2.2.2 t ht) (fun i i1 i2 => up_ne (by omega))
theorem agR_8 {A : Rw} {s : Nat} {v : Int32} (h : agR A s) : agR (up A (514 * s + 8) v) s := agR_of h (up_ne (by omega)) (up_ne (by omega)) (up_ne (by omega))
theorem qMem_8 {A : Rw} {s : Nat} {v : Int32} : qMem (up A (514 * s + 8) v) s = qMem A s := by
  unfold qMem
  rw [up_ne (by omega)]
  by_cases hs : s < 5
  · exact qCfg_c (up_ne (by omega)) (up_ne (by omega)) (up_ne (by omega)) (up_ne (by omega)) _ (fun i i1 i2 => up_ne (by omega))
  · by_cases hz : 4514 = 514 * s + 8
    · omega
    · exact qCfg_c (up_ne (by omega)) (up_ne (by omega)) (up_ne (by omega)) (up_ne hz) _ (fun i i1 i2 => up_ne (by omega))
def w_X10_hearVote_60 (M : CT) (G : Nat → PT) (Rp : RT) : PT := tIret Rp
def w_X10_hearVote_59 (M : CT) (G : Nat → PT) (Rp : RT) : PT := tConst 0 <| w_X10_hearVote_60 M G Rp
def w_X10_hearVote_29 (M : CT) (G : Nat → PT) (Rp : RT) : PT := tAload 1 <| tDup <| tGetI 7 18 5 <| tConst 1 <| tAload 2 <| tGetI 2 10 0 <| tBin (fun x y => x <<< (y &&& 31)) <| tBin (fun x y => x ||| y) <| tPutI 7 18 5 <| tAload 1 <| tAload 1 <| tGetI 7 18 5 <| tFn 2 F_X7_isMajority <| tIf (fun x => x = 0) (w_X10_hearVote_59 M G Rp) <| tConst 2 <| tGoto (w_X10_hearVote_60 M G Rp)
def w_X10_hearVote_27 (M : CT) (G : Nat → PT) (Rp : RT) : PT := tConst 0 <| tIret Rp
def w_X10_hearVote_0 (M : CT) (G : Nat → PT) (Rp : RT) : PT := tAload 2 <| tGetI 2 10 4 <| tConst 1 <| tIf2 (fun x y => x ≠ y) (w_X10_hearVote_27 M G Rp) <| tAload 2 <| tGetI 2 10 3 <| tAload 1 <| tGetI 7 18 2 <| tIf2 (fun x y => x ≠ y) (w_X10_hearVote_27 M G Rp) <| tAload 1 <| tGetI 7 18 4 <| tConst 1 <| tIf2 (fun x y => x = y) (w_X10_hearVote_29 M G Rp) <| w_X10_hearVote_27 M G Rp
set_option maxRecDepth 20000 in
theorem b_X10_hearVote_60 {Z : Zt} {d : Nat} {p : Program} {e : Env} {R : Room} {s : State} {m : MethodId} {args : Array Value} {below : List Frame} {meth : Method} {c : Code} {Rp : RT} (C : Cx Z (d + 2) jX10_hearVote RX10 p R s m args meth c) : Sd Z jX10_hearVote p e R s m args below meth c (MQ below (QcS Z Rp) args s 0 0 (fun a => Z.2.2.1 < a)) 60 (w_X10_hearVote_60 (MS Z (d + 2)) (Gw Z 3 p e R s m args below meth c (MQ below (QcS Z Rp) args s 0 0 (fun a => Z.2.2.1 < a))) Rp) := by
  unfold w_X10_hearVote_60
  exact s_iret C rfl (by decide +kernel)
set_option maxRecDepth 20000 in
theorem b_X10_hearVote_59 {Z : Zt} {d : Nat} {p : Program} {e : Env} {R : Room} {s : State} {m : MethodId} {args : Array Value} {below : List Frame} {meth : Method} {c : Code} {Rp : RT} (C : Cx Z (d + 2) jX10_hearVote RX10 p R s m args meth c) : Sd Z jX10_hearVote p e R s m args below meth c (MQ below (QcS Z Rp) args s 0 0 (fun a => Z.2.2.1 < a)) 59 (w_X10_hearVote_59 (MS Z (d + 2)) (Gw Z 3 p e R s m args below meth c (MQ below (QcS Z Rp) args s 0 0 (fun a => Z.2.2.1 < a))) Rp) := by
  unfold w_X10_hearVote_59
  refine s_iconst (n := 0) C (by decide +kernel) (by decide) ?_
  exact (b_X10_hearVote_60 C)
set_option maxRecDepth 20000 in
theorem b_X10_hearVote_29 {Z : Zt} {d : Nat} {p : Program} {e : Env} {R : Room} {s : State} {m : MethodId} {args : Array Value} {below : List Frame} {meth : Method} {c : Code} {Rp : RT} (C : Cx Z (d + 2) jX10_hearVote RX10 p R s m args meth c) : Sd Z jX10_hearVote p e R s m args below meth c (MQ below (QcS Z Rp) args s 0 0 (fun a => Z.2.2.1 < a)) 29 (w_X10_hearVote_29 (MS Z (d + 2)) (Gw Z 3 p e R s m args below meth c (MQ below (QcS Z Rp) args s 0 0 (fun a => Z.2.2.1 < a))) Rp) := by
  unfold w_X10_hearVote_29
  refine s_aload_n (k := 1) C (by decide +kernel) ?_
  refine s_dup C (by decide +kernel) ?_
  refine s_getI C w_1_238 (by decide +kernel) rfl ?_
  refine s_iconst (n := 1) C (by decide +kernel) (by decide) ?_
  refine s_aload_n (k := 2) C (by decide +kernel) ?_
  refine s_getI C w_1_55 (by decide +kernel) rfl ?_
  refine s_ishl C (by decide +kernel) ?_
  refine s_ior C (by decide +kernel) ?_
  refine s_putI C w_1_238 (by decide +kernel) rfl (Or.inl rfl) ?_
  refine s_aload_n (k := 1) C (by decide +kernel) ?_
  refine s_aload_n (k := 1) C (by decide +kernel) ?_
  refine s_getI C w_1_238 (by decide +kernel) rfl ?_
  refine s_fnV C (j2 := jX7_isMajority) (cl := 7) (nf := 18) rfl rfl (by decide +kernel) rfl w_3_133 w_3_134 w_3_135 w_1_5 w_3_136 (by decide +kernel) (fun _ _ _ _ _ h => f_X7_isMajority h) (fun _ _ _ _ _ h => r_X7_isMajority h) ?_
  refine s_if_eq (off := 7) (tgt := 59) C (by decide +kernel) (by decide) (b_X10_hearVote_59 C) ?_
  refine s_iconst (n := 2) C (by decide +kernel) (by decide) ?_
  exact s_goto (off := 4) (tgt := 60) C (by decide +kernel) (by decide) (b_X10_hearVote_60 C)
set_option maxRecDepth 20000 in
theorem b_X10_hearVote_27 {Z : Zt} {d : Nat} {p : Program} {e : Env} {R : Room} {s : State} {m : MethodId} {args : Array Value} {below : List Frame} {meth : Method} {c : Code} {Rp : RT} (C : Cx Z (d + 2) jX10_hearVote RX10 p R s m args meth c) : Sd Z jX10_hearVote p e R s m args below meth c (MQ below (QcS Z Rp) args s 0 0 (fun a => Z.2.2.1 < a)) 27 (w_X10_hearVote_27 (MS Z (d + 2)) (Gw Z 3 p e R s m args below meth c (MQ below (QcS Z Rp) args s 0 0 (fun a => Z.2.2.1 < a))) Rp) := by
  unfold w_X10_hearVote_27
  refine s_iconst (n := 0) C (by decide +kernel) (by decide) ?_
  exact s_iret C rfl (by decide +kernel)
set_option maxRecDepth 20000 in
theorem b_X10_hearVote_0 {Z : Zt} {d : Nat} {p : Program} {e : Env} {R : Room} {s : State} {m : MethodId} {args : Array Value} {below : List Frame} {meth : Method} {c : Code} {Rp : RT} (C : Cx Z (d + 2) jX10_hearVote RX10 p R s m args meth c) : Sd Z jX10_hearVote p e R s m args below meth c (MQ below (QcS Z Rp) args s 0 0 (fun a => Z.2.2.1 < a)) 0 (w_X10_hearVote_0 (MS Z (d + 2)) (Gw Z 3 p e R s m args below meth c (MQ below (QcS Z Rp) args s 0 0 (fun a => Z.2.2.1 < a))) Rp) := by
  unfold w_X10_hearVote_0
  refine s_aload_n (k := 2) C (by decide +kernel) ?_
  refine s_getI C w_1_74 (by decide +kernel) rfl ?_
  refine s_iconst (n := 1) C (by decide +kernel) (by decide) ?_
  refine s_icmp_ne (off := 22) (tgt := 27) C (by decide +kernel) (by decide) (b_X10_hearVote_27 C) ?_
  refine s_aload_n (k := 2) C (by decide +kernel) ?_
  refine s_getI C w_1_69 (by decide +kernel) rfl ?_
  refine s_aload_n (k := 1) C (by decide +kernel) ?_
  refine s_getI C w_1_227 (by decide +kernel) rfl ?_
  refine s_icmp_ne (off := 11) (tgt := 27) C (by decide +kernel) (by decide) (b_X10_hearVote_27 C) ?_
  refine s_aload_n (k := 1) C (by decide +kernel) ?_
  refine s_getI C w_1_234 (by decide +kernel) rfl ?_
  refine s_iconst (n := 1) C (by decide +kernel) (by decide) ?_
  refine s_icmp_eq (off := 5) (tgt := 29) C (by decide +kernel) (by decide) (b_X10_hearVote_29 C) ?_
  exact (b_X10_hearVote_27 C)
theorem ms_X10_hearVote {Z : Zt} {d : Nat} {S : Sh} {μ : Mi} {ρ : Mr} {Rp : RT} (a0 : Nat) (a1 : Nat) (a2 : Nat) (h : ∀ G : Nat → PT, w_X10_hearVote_0 (MS Z (d + 2)) G Rp [.ref a0, .ref a1, .ref a2] [] S (0, 0) μ ρ) : MS Z (d + 3) jX10_hearVote [.ref a0, .ref a1, .ref a2] S μ ρ Rp :=
  MS_of [.ref a0, .ref a1, .ref a2] (by decide +kernel) rfl rfl (Nat.le_of_ble_eq_true rfl) rfl (fun p e R s m args below meth c C => b_X10_hearVote_0 C _ _ _ _ _ _ (h _ ))
def F_X10_hearVote : FT := fun As S μ ρ k => match As with
  | [.ref a, .ref x, .ref q] => S.2 a = (10, 6) ∧ ∃ (s f : Nat) (A g : Rw), s < 5 ∧ x = a + 130 + 8 * s ∧ RR A a S μ ρ ∧ Mg A g a q μ ρ s f ∧ hK A s ∧ ∀ (μ' : Mi) (A' : Rw) (td : Int32), RR A' a S μ' ρ → Ot a μ μ' → (td = 0 ∨ μ' q = μ q) → finQ A' s f (nI f) td (if g 2 = A (514 * s + 1) ∧ g 4 = 1 ∧ A (514 * s + 3) = 1 then qVoted A s f else A) → k (some (.int td)) μ'
  | _ => False
theorem r_X10_hearVote {As S μ ρ k} (h : F_X10_hearVote As S μ ρ k) : ∃ a As', As = Value.ref a :: As' ∧ S.2 a = (10, 6) := by
  unfold F_X10_hearVote at h
  split at h
  · exact ⟨_, _, rfl, h.1⟩
  · exact h.elim
set_option maxHeartbeats 1000000 in
theorem f_X10_hearVote {Z : Zt} {d : Nat} {As : List Value} {S : Sh} {μ : Mi} {ρ : Mr} {Rp : RT} (h : F_X10_hearVote As S μ ρ (fun r μ' => Rp r S μ' ρ)) : MS Z (d + 3) jX10_hearVote As S μ ρ Rp := by
  unfold F_X10_hearVote at h
  split at h
  · rename_i a x q
    obtain ⟨a, hNa⟩ : ∃ n : Nat, n = a := ⟨a, rfl⟩
    subst hNa
    obtain ⟨q, hNq⟩ : ∃ n : Nat, n = q := ⟨q, rfl⟩
    subst hNq
    obtain ⟨h1, s, f, A, g, hs, rfl, hR, hM, hK0, h⟩ := h
    refine ms_X10_hearVote _ _ _ (fun G => ?_)
    have hW := RR_W hR
    obtain ⟨x1, x2, -⟩ := W_st hW hs
    obtain ⟨⟨jq, jq1, jq2⟩, m1, m2, m3⟩ := Mg_at hM hW
    obtain ⟨hq60, hMs, hg0, hf, hg1, hsf⟩ := hM
    have hSt := RR_st hR hs
    have hA := hSt.1
    unfold StA at hA
    have hmem := St_mem hSt
    rw [hSt.2.2.2.2.2.1, hSt.2.2.2.2.2.2] at hmem
    have no : ¬ (g 2 = A (514 * s + 1) ∧ g 4 = 1 ∧ A (514 * s + 3) = 1) → Rp (some (.int 0)) S μ ρ := fun c => h μ A 0 hR (fun _ _ => rfl) (Or.inr rfl) (by rw [if_neg c]; exact Or.inl ⟨rfl, rfl⟩)
    have r5 := RR_o (v := A (514 * s + 8) ||| (1 : Int32) <<< (nI f &&& 31)) hs hR
    have e8 : up A (514 * s + 8) (A (514 * s + 8) ||| (1 : Int32) <<< (nI f &&& 31)) (514 * s + 8) = A (514 * s + 8) ||| (1 : Int32) <<< (nI f &&& 31) := up_at
    have s10 : upI μ (a + 130 + 8 * s) 5 (A (514 * s + 8) ||| (1 : Int32) <<< (nI f &&& 31)) (a + 130 + 8 * s) 10 = (qMem A s).1 := by rw [upI_k (by omega)]; exact hSt.2.2.2.2.2.1
    have s11 : upI μ (a + 130 + 8 * s) 5 (A (514 * s + 8) ||| (1 : Int32) <<< (nI f &&& 31)) (a + 130 + 8 * s) 11 = (qMem A s).2.1 := by rw [upI_k (by omega)]; exact hSt.2.2.2.2.2.2
    simp only [w_X10_hearVote_0, w_X10_hearVote_27, w_X10_hearVote_29, w_X10_hearVote_59, w_X10_hearVote_60, tAload, tIload, nth, tGetI, tGetR, tConst, tLconst, tBin, tUn, tI2l, tAld, tAldR, tAlen, tIast, tBast, tZast, tAast, tIret, tZret, tVret, tAret, tIf, tIf2, tGoto, tIstore, tAstore, sset, tIinc, tDup, tDup2, tPop, tPutI, tPutZ, tPutR, tCallV, tCallS, popN, tFn, tCopy, tMax, tMin, tSw, swc, tRem, tObjI, Option.toList, List.nil_append, List.cons_append, okR, true_and, and_true, true_or, or_true, Nat.zero_le, ne_eq, not_false_eq_true, Nat.reduceEqDiff, F_X7_isMajority, x1, m1, hA, hMs.1, hg0, upI_at, s10, s11, hmem, Decidable.not_not]
    refine ⟨fun c => no (fun z => c z.2.1), fun c => ⟨fun c2 => no (fun z => c2 z.1), fun c2 => ⟨fun c3 => ?_, fun c3 => no (fun z => c3 z.2.2)⟩⟩⟩
    refine ⟨fun c4 => ⟨fun z => absurd z (by decide), fun _ => ?_⟩, fun c4 => ⟨fun _ => ?_, fun z => absurd trivial z⟩⟩
    · refine h _ _ 2 r5 (fun y hy => upI_ne (by omega)) (Or.inr (upI_ne (by omega))) (Or.inr (Or.inr (Or.inl ⟨rfl, ?_, agOK_8 hs hK0.1.1, agR_8 hK0.2.1, ?_⟩)))
      · rw [if_pos ⟨c2, c, c3⟩]
        unfold qVoted
        simp only [e8, qMem_8]
        unfold cMaj at c4
        rw [if_pos c4]
      · rw [up_ne (by omega)]
        exact ⟨hK0.1.2.2.2.2.2 c3, hK0.1.2.2.1.2⟩
    · refine h _ _ 0 r5 (fun y hy => upI_ne (by omega)) (Or.inr (upI_ne (by omega))) (Or.inl ⟨rfl, ?_⟩)
      rw [if_pos ⟨c2, c, c3⟩]
      unfold qVoted
      simp only [e8, qMem_8]
      unfold cMaj at c4
      rw [if_neg c4]
  · exact h.elim
def w_X10_hearNow_55 (M : CT) (G : Nat → PT) (Rp : RT) : PT := tIret Rp
def w_X10_hearNow_54 (M : CT) (G : Nat → PT) (Rp : RT) : PT := tConst 0 <| w_X10_hearNow_55 M G Rp
def w_X10_hearNow_35 (M : CT) (G : Nat → PT) (Rp : RT) : PT := tIstore 3 <| tIload 3 <| tIf (fun x => x = 0) (w_X10_hearNow_54 M G Rp) <| tAload 1 <| tGetI 7 18 2 <| tConst 200 <| tIf2 (fun x y => y ≤ x) (w_X10_hearNow_54 M G Rp) <| tConst 1 <| tGoto (w_X10_hearNow_55 M G Rp)
def w_X10_hearNow_34 (M : CT) (G : Nat → PT) (Rp : RT) : PT := tConst 0 <| w_X10_hearNow_35 M G Rp
def w_X10_hearNow_0 (M : CT) (G : Nat → PT) (Rp : RT) : PT := tAload 2 <| tGetI 2 10 3 <| tAload 1 <| tGetI 7 18 2 <| tIf2 (fun x y => x ≠ y) (w_X10_hearNow_34 M G Rp) <| tAload 1 <| tAload 1 <| tGetI 7 18 0 <| tFn 2 F_X7_isMember <| tIf (fun x => x = 0) (w_X10_hearNow_34 M G Rp) <| tAload 1 <| tGetI 7 18 4 <| tConst 2 <| tIf2 (fun x y => x = y) (w_X10_hearNow_34 M G Rp) <| tConst 1 <| tGoto (w_X10_hearNow_35 M G Rp)
set_option maxRecDepth 20000 in
theorem b_X10_hearNow_55 {Z : Zt} {d : Nat} {p : Program} {e : Env} {R : Room} {s : State} {m : MethodId} {args : Array Value} {below : List Frame} {meth : Method} {c : Code} {Rp : RT} (C : Cx Z (d + 1) jX10_hearNow RX10 p R s m args meth c) : Sd Z jX10_hearNow p e R s m args below meth c (MQ below (QcS Z Rp) args s 0 0 (fun a => Z.2.2.1 < a)) 55 (w_X10_hearNow_55 (MS Z (d + 1)) (Gw Z 4 p e R s m args below meth c (MQ below (QcS Z Rp) args s 0 0 (fun a => Z.2.2.1 < a))) Rp) := by
  unfold w_X10_hearNow_55
  exact s_iret C rfl (by decide +kernel)
set_option maxRecDepth 20000 in
theorem b_X10_hearNow_54 {Z : Zt} {d : Nat} {p : Program} {e : Env} {R : Room} {s : State} {m : MethodId} {args : Array Value} {below : List Frame} {meth : Method} {c : Code} {Rp : RT} (C : Cx Z (d + 1) jX10_hearNow RX10 p R s m args meth c) : Sd Z jX10_hearNow p e R s m args below meth c (MQ below (QcS Z Rp) args s 0 0 (fun a => Z.2.2.1 < a)) 54 (w_X10_hearNow_54 (MS Z (d + 1)) (Gw Z 4 p e R s m args below meth c (MQ below (QcS Z Rp) args s 0 0 (fun a => Z.2.2.1 < a))) Rp) := by
  unfold w_X10_hearNow_54
  refine s_iconst (n := 0) C (by decide +kernel) (by decide) ?_
  exact (b_X10_hearNow_55 C)
set_option maxRecDepth 20000 in
theorem b_X10_hearNow_35 {Z : Zt} {d : Nat} {p : Program} {e : Env} {R : Room} {s : State} {m : MethodId} {args : Array Value} {below : List Frame} {meth : Method} {c : Code} {Rp : RT} (C : Cx Z (d + 1) jX10_hearNow RX10 p R s m args meth c) : Sd Z jX10_hearNow p e R s m args below meth c (MQ below (QcS Z Rp) args s 0 0 (fun a => Z.2.2.1 < a)) 35 (w_X10_hearNow_35 (MS Z (d + 1)) (Gw Z 4 p e R s m args below meth c (MQ below (QcS Z Rp) args s 0 0 (fun a => Z.2.2.1 < a))) Rp) := by
  unfold w_X10_hearNow_35
  refine s_istore_n (k := 3) C (by decide +kernel) ?_
  refine s_iload_n (k := 3) C (by decide +kernel) ?_
  refine s_if_eq (off := 17) (tgt := 54) C (by decide +kernel) (by decide) (b_X10_hearNow_54 C) ?_
  refine s_aload_n (k := 1) C (by decide +kernel) ?_
  refine s_getI C w_1_227 (by decide +kernel) rfl ?_
  refine s_sipush (n := 200) C (by decide +kernel) (by decide) ?_
  refine s_icmp_ge (off := 7) (tgt := 54) C (by decide +kernel) (by decide) (b_X10_hearNow_54 C) ?_
  refine s_iconst (n := 1) C (by decide +kernel) (by decide) ?_
  exact s_goto (off := 4) (tgt := 55) C (by decide +kernel) (by decide) (b_X10_hearNow_55 C)
set_option maxRecDepth 20000 in
theorem b_X10_hearNow_34 {Z : Zt} {d : Nat} {p : Program} {e : Env} {R : Room} {s : State} {m : MethodId} {args : Array Value} {below : List Frame} {meth : Method} {c : Code} {Rp : RT} (C : Cx Z (d + 1) jX10_hearNow RX10 p R s m args meth c) : Sd Z jX10_hearNow p e R s m args below meth c (MQ below (QcS Z Rp) args s 0 0 (fun a => Z.2.2.1 < a)) 34 (w_X10_hearNow_34 (MS Z (d + 1)) (Gw Z 4 p e R s m args below meth c (MQ below (QcS Z Rp) args s 0 0 (fun a => Z.2.2.1 < a))) Rp) := by
  unfold w_X10_hearNow_34
  refine s_iconst (n := 0) C (by decide +kernel) (by decide) ?_
  exact (b_X10_hearNow_35 C)
set_option maxRecDepth 20000 in
theorem b_X10_hearNow_0 {Z : Zt} {d : Nat} {p : Program} {e : Env} {R : Room} {s : State} {m : MethodId} {args : Array Value} {below : List Frame} {meth : Method} {c : Code} {Rp : RT} (C : Cx Z (d + 1) jX10_hearNow RX10 p R s m args meth c) : Sd Z jX10_hearNow p e R s m args below meth c (MQ below (QcS Z Rp) args s 0 0 (fun a => Z.2.2.1 < a)) 0 (w_X10_hearNow_0 (MS Z (d + 1)) (Gw Z 4 p e R s m args below meth c (MQ below (QcS Z Rp) args s 0 0 (fun a => Z.2.2.1 < a))) Rp) := by
  unfold w_X10_hearNow_0
  refine s_aload_n (k := 2) C (by decide +kernel) ?_
  refine s_getI C w_1_69 (by decide +kernel) rfl ?_
  refine s_aload_n (k := 1) C (by decide +kernel) ?_
  refine s_getI C w_1_227 (by decide +kernel) rfl ?_
  refine s_icmp_ne (off := 26) (tgt := 34) C (by decide +kernel) (by decide) (b_X10_hearNow_34 C) ?_
  refine s_aload_n (k := 1) C (by decide +kernel) ?_
  refine s_aload_n (k := 1) C (by decide +kernel) ?_
  refine s_getI C w_1_221 (by decide +kernel) rfl ?_
  refine s_fnV C (j2 := jX7_isMember) (cl := 7) (nf := 18) rfl rfl (by decide +kernel) rfl w_3_109 w_3_110 w_3_111 w_1_5 w_3_112 (by decide +kernel) (fun _ _ _ _ _ h => f_X7_isMember h) (fun _ _ _ _ _ h => r_X7_isMember h) ?_
  refine s_if_eq (off := 15) (tgt := 34) C (by decide +kernel) (by decide) (b_X10_hearNow_34 C) ?_
  refine s_aload_n (k := 1) C (by decide +kernel) ?_
  refine s_getI C w_1_234 (by decide +kernel) rfl ?_
  refine s_iconst (n := 2) C (by decide +kernel) (by decide) ?_
  refine s_icmp_eq (off := 7) (tgt := 34) C (by decide +kernel) (by decide) (b_X10_hearNow_34 C) ?_
  refine s_iconst (n := 1) C (by decide +kernel) (by decide) ?_
  exact s_goto (off := 4) (tgt := 35) C (by decide +kernel) (by decide) (b_X10_hearNow_35 C)
theorem ms_X10_hearNow {Z : Zt} {d : Nat} {S : Sh} {μ : Mi} {ρ : Mr} {Rp : RT} (a0 : Nat) (a1 : Nat) (a2 : Nat) (h : ∀ G : Nat → PT, w_X10_hearNow_0 (MS Z (d + 1)) G Rp [.ref a0, .ref a1, .ref a2, .null] [] S (0, 0) μ ρ) : MS Z (d + 2) jX10_hearNow [.ref a0, .ref a1, .ref a2] S μ ρ Rp :=
  MS_of [.ref a0, .ref a1, .ref a2, .null] (by decide +kernel) rfl rfl (Nat.le_of_ble_eq_true rfl) rfl (fun p e R s m args below meth c C => b_X10_hearNow_0 C _ _ _ _ _ _ (h _ ))
def F_X10_hearNow : FT := fun As S μ ρ k => match As with
  | [.ref a, .ref x, .ref q] => S.2 a = (10, 6) ∧ ∃ (s f : Nat) (A g : Rw), s < 5 ∧ x = a + 130 + 8 * s ∧ RR A a S μ ρ ∧ Mg A g a q μ ρ s f ∧ hK A s ∧ ∀ (μ' : Mi) (A' : Rw) (td : Int32), RR A' a S μ' ρ → Ot a μ μ' → (td = 0 ∨ μ' q = μ q) → finQ A' s f (nI f) td (if g 2 = A (514 * s + 1) ∧ ¬ A (514 * s + 3) = 2 ∧ (((qMem A s).1 ||| (qMem A s).2.1) >>> (nI s &&& 31)) &&& 1 = 1 ∧ A (514 * s + 1) < 200 then qStands A s else A) → k (some (.int td)) μ'
  | _ => False
theorem r_X10_hearNow {As S μ ρ k} (h : F_X10_hearNow As S μ ρ k) : ∃ a As', As = Value.ref a :: As' ∧ S.2 a = (10, 6) := by
  unfold F_X10_hearNow at h
  split at h
  · exact ⟨_, _, rfl, h.1⟩
  · exact h.elim
set_option maxHeartbeats 1000000 in
theorem f_X10_hearNow {Z : Zt} {d : Nat} {As : List Value} {S : Sh} {μ : Mi} {ρ : Mr} {Rp : RT} (h : F_X10_hearNow As S μ ρ (fun r μ' => Rp r S μ' ρ)) : MS Z (d + 2) jX10_hearNow As S μ ρ Rp := by
  unfold F_X10_hearNow at h
  split at h
  · rename_i a x q
    obtain ⟨a, hNa⟩ : ∃ n : Nat, n = a := ⟨a, rfl⟩
    subst hNa
    obtain ⟨q, hNq⟩ : ∃ n : Nat, n = q := ⟨q, rfl⟩
    subst hNq
    obtain ⟨h1, s, f, A, g, hs, rfl, hR, hM, hK0, h⟩ := h
    refine ms_X10_hearNow _ _ _ (fun G => ?_)
    have hW := RR_W hR
    obtain ⟨x1, x2, -⟩ := W_st hW hs
    obtain ⟨⟨jq, jq1, jq2⟩, m1, m2, m3⟩ := Mg_at hM hW
    obtain ⟨hq60, hMs, hg0, hf, hg1, hsf⟩ := hM
    have hSt := RR_st hR hs
    have hA := hSt.1
    unfold StA at hA
    have hmem := St_mem hSt
    rw [hSt.2.2.2.2.2.1, hSt.2.2.2.2.2.2] at hmem
    have no : ¬ (g 2 = A (514 * s + 1) ∧ ¬ A (514 * s + 3) = 2 ∧ (((qMem A s).1 ||| (qMem A s).2.1) >>> (nI s &&& 31)) &&& 1 = 1 ∧ A (514 * s + 1) < 200) → Rp (some (.int 0)) S μ ρ := fun c => h μ A 0 hR (fun _ _ => rfl) (Or.inr rfl) (by rw [if_neg c]; exact Or.inl ⟨rfl, rfl⟩)
    simp only [w_X10_hearNow_0, w_X10_hearNow_34, w_X10_hearNow_35, w_X10_hearNow_54, w_X10_hearNow_55, tAload, tIload, nth, tGetI, tGetR, tConst, tLconst, tBin, tUn, tI2l, tAld, tAldR, tAlen, tIast, tBast, tZast, tAast, tIret, tZret, tVret, tAret, tIf, tIf2, tGoto, tIstore, tAstore, sset, tIinc, tDup, tDup2, tPop, tPutI, tPutZ, tPutR, tCallV, tCallS, popN, tFn, tCopy, tMax, tMin, tSw, swc, tRem, tObjI, Option.toList, List.nil_append, List.cons_append, okR, true_and, and_true, true_or, or_true, Nat.zero_le, ne_eq, not_false_eq_true, Nat.reduceEqDiff, F_X7_isMember, b2_z, x1, m1, hA, hMs.1, hSt.2.2.2.2.2.1, hSt.2.2.2.2.2.2, Decidable.not_not]
    refine ⟨fun c => ⟨fun _ => no (fun z => c z.1), fun z => absurd trivial z⟩, fun c => ⟨fun c2 => ⟨fun _ => no (fun z => c2 z.2.2.1), fun z => absurd trivial z⟩, fun c2 => ⟨fun c3 => ⟨fun _ => no (fun z => z.2.1 c3), fun z => absurd trivial z⟩, fun c3 => ⟨fun z => absurd z (by decide), fun _ => ⟨fun c4 => no (fun z => absurd z.2.2.2 (Int32.not_lt.mpr c4)), fun c4 => ?_⟩⟩⟩⟩⟩
    have c5 : A (514 * s + 1) < 200 := Int32.not_le.mp c4
    refine h μ A 1 hR (fun _ _ => rfl) (Or.inr rfl) (Or.inr (Or.inl ⟨rfl, ?_, hK0.1.1, hK0.2.1, ⟨hK0.1.2.2.1.1, ?_⟩⟩))
    · rw [if_pos ⟨c, c3, c2, c5⟩]
    · rw [Int32.lt_iff_toInt_lt] at c5
      have : (200 : Int32).toInt = 200 := by decide
      omega
  · exact h.elim
def w_X10_hearMay_81 (M : CT) (G : Nat → PT) (Rp : RT) : PT := tPutI 2 10 4 <| tVret Rp
def w_X10_hearMay_80 (M : CT) (G : Nat → PT) (Rp : RT) : PT := tConst 0 <| w_X10_hearMay_81 M G Rp
def w_X10_hearMay_69 (M : CT) (G : Nat → PT) (Rp : RT) : PT := tFn 5 F_X1_post <| tIload 3 <| tIf (fun x => x = 0) (w_X10_hearMay_80 M G Rp) <| tConst 1 <| tGoto (w_X10_hearMay_81 M G Rp)
def w_X10_hearMay_65 (M : CT) (G : Nat → PT) (Rp : RT) : PT := tAload 1 <| tGetI 7 18 2 <| w_X10_hearMay_69 M G Rp
def w_X10_hearMay_39 (M : CT) (G : Nat → PT) (Rp : RT) : PT := tIstore 3 <| tAload 0 <| tGetR 10 6 1 <| tAload 1 <| tGetI 7 18 0 <| tAload 2 <| tGetI 2 10 0 <| tConst 8 <| tIload 3 <| tIf (fun x => x = 0) (w_X10_hearMay_65 M G Rp) <| tAload 2 <| tGetI 2 10 3 <| tGoto (w_X10_hearMay_69 M G Rp)
def w_X10_hearMay_38 (M : CT) (G : Nat → PT) (Rp : RT) : PT := tConst 0 <| w_X10_hearMay_39 M G Rp
def w_X10_hearMay_0 (M : CT) (G : Nat → PT) (Rp : RT) : PT := tAload 2 <| tGetI 2 10 3 <| tAload 1 <| tGetI 7 18 2 <| tIf2 (fun x y => x ≤ y) (w_X10_hearMay_38 M G Rp) <| tAload 1 <| tGetI 7 18 4 <| tConst 2 <| tIf2 (fun x y => x = y) (w_X10_hearMay_38 M G Rp) <| tAload 1 <| tAload 2 <| tGetI 2 10 5 <| tAload 2 <| tGetI 2 10 4 <| tFn 3 F_X7_findsFresh <| tIf (fun x => x = 0) (w_X10_hearMay_38 M G Rp) <| tConst 1 <| tGoto (w_X10_hearMay_39 M G Rp)
set_option maxRecDepth 20000 in
theorem b_X10_hearMay_81 {Z : Zt} {d : Nat} {p : Program} {e : Env} {R : Room} {s : State} {m : MethodId} {args : Array Value} {below : List Frame} {meth : Method} {c : Code} {Rp : RT} (C : Cx Z (d + 2) jX10_hearMay RX10 p R s m args meth c) : Sd Z jX10_hearMay p e R s m args below meth c (MQ below (QcS Z Rp) args s 0 0 (fun a => Z.2.2.1 < a)) 81 (w_X10_hearMay_81 (MS Z (d + 2)) (Gw Z 4 p e R s m args below meth c (MQ below (QcS Z Rp) args s 0 0 (fun a => Z.2.2.1 < a))) Rp) := by
  unfold w_X10_hearMay_81
  refine s_putI C w_1_74 (by decide +kernel) rfl (Or.inl rfl) ?_
  exact s_vret C rfl (by decide +kernel)
set_option maxRecDepth 20000 in
theorem b_X10_hearMay_80 {Z : Zt} {d : Nat} {p : Program} {e : Env} {R : Room} {s : State} {m : MethodId} {args : Array Value} {below : List Frame} {meth : Method} {c : Code} {Rp : RT} (C : Cx Z (d + 2) jX10_hearMay RX10 p R s m args meth c) : Sd Z jX10_hearMay p e R s m args below meth c (MQ below (QcS Z Rp) args s 0 0 (fun a => Z.2.2.1 < a)) 80 (w_X10_hearMay_80 (MS Z (d + 2)) (Gw Z 4 p e R s m args below meth c (MQ below (QcS Z Rp) args s 0 0 (fun a => Z.2.2.1 < a))) Rp) := by
  unfold w_X10_hearMay_80
  refine s_iconst (n := 0) C (by decide +kernel) (by decide) ?_
  exact (b_X10_hearMay_81 C)
set_option maxRecDepth 20000 in
theorem b_X10_hearMay_69 {Z : Zt} {d : Nat} {p : Program} {e : Env} {R : Room} {s : State} {m : MethodId} {args : Array Value} {below : List Frame} {meth : Method} {c : Code} {Rp : RT} (C : Cx Z (d + 2) jX10_hearMay RX10 p R s m args meth c) : Sd Z jX10_hearMay p e R s m args below meth c (MQ below (QcS Z Rp) args s 0 0 (fun a => Z.2.2.1 < a)) 69 (w_X10_hearMay_69 (MS Z (d + 2)) (Gw Z 4 p e R s m args below meth c (MQ below (QcS Z Rp) args s 0 0 (fun a => Z.2.2.1 < a))) Rp) := by
  unfold w_X10_hearMay_69
  refine s_fnV C (j2 := jX1_post) (cl := 1) (nf := 6) rfl rfl (by decide +kernel) rfl w_3_125 w_3_126 w_3_127 w_1_3 w_3_128 (by decide +kernel) (fun _ _ _ _ _ h => f_X1_post h) (fun _ _ _ _ _ h => r_X1_post h) ?_
  refine s_iload_n (k := 3) C (by decide +kernel) ?_
  refine s_if_eq (off := 7) (tgt := 80) C (by decide +kernel) (by decide) (b_X10_hearMay_80 C) ?_
  refine s_iconst (n := 1) C (by decide +kernel) (by decide) ?_
  exact s_goto (off := 4) (tgt := 81) C (by decide +kernel) (by decide) (b_X10_hearMay_81 C)
set_option maxRecDepth 20000 in
theorem b_X10_hearMay_65 {Z : Zt} {d : Nat} {p : Program} {e : Env} {R : Room} {s : State} {m : MethodId} {args : Array Value} {below : List Frame} {meth : Method} {c : Code} {Rp : RT} (C : Cx Z (d + 2) jX10_hearMay RX10 p R s m args meth c) : Sd Z jX10_hearMay p e R s m args below meth c (MQ below (QcS Z Rp) args s 0 0 (fun a => Z.2.2.1 < a)) 65 (w_X10_hearMay_65 (MS Z (d + 2)) (Gw Z 4 p e R s m args below meth c (MQ below (QcS Z Rp) args s 0 0 (fun a => Z.2.2.1 < a))) Rp) := by
  unfold w_X10_hearMay_65
  refine s_aload_n (k := 1) C (by decide +kernel) ?_
  refine s_getI C w_1_227 (by decide +kernel) rfl ?_
  exact (b_X10_hearMay_69 C)
set_option maxRecDepth 20000 in
theorem b_X10_hearMay_39 {Z : Zt} {d : Nat} {p : Program} {e : Env} {R : Room} {s : State} {m : MethodId} {args : Array Value} {below : List Frame} {meth : Method} {c : Code} {Rp : RT} (C : Cx Z (d + 2) jX10_hearMay RX10 p R s m args meth c) : Sd Z jX10_hearMay p e R s m args below meth c (MQ below (QcS Z Rp) args s 0 0 (fun a => Z.2.2.1 < a)) 39 (w_X10_hearMay_39 (MS Z (d + 2)) (Gw Z 4 p e R s m args below meth c (MQ below (QcS Z Rp) args s 0 0 (fun a => Z.2.2.1 < a))) Rp) := by
  unfold w_X10_hearMay_39
  refine s_istore_n (k := 3) C (by decide +kernel) ?_
  refine s_aload_n (k := 0) C (by decide +kernel) ?_
  refine s_getR C w_2_117 (by decide +kernel) rfl ?_
  refine s_aload_n (k := 1) C (by decide +kernel) ?_
  refine s_getI C w_1_221 (by decide +kernel) rfl ?_
  refine s_aload_n (k := 2) C (by decide +kernel) ?_
  refine s_getI C w_1_55 (by decide +kernel) rfl ?_
  refine s_bipush (n := 8) C (by decide +kernel) (by decide) ?_
  refine s_iload_n (k := 3) C (by decide +kernel) ?_
  refine s_if_eq (off := 10) (tgt := 65) C (by decide +kernel) (by decide) (b_X10_hearMay_65 C) ?_
  refine s_aload_n (k := 2) C (by decide +kernel) ?_
  refine s_getI C w_1_69 (by decide +kernel) rfl ?_
  exact s_goto (off := 7) (tgt := 69) C (by decide +kernel) (by decide) (b_X10_hearMay_69 C)
set_option maxRecDepth 20000 in
theorem b_X10_hearMay_38 {Z : Zt} {d : Nat} {p : Program} {e : Env} {R : Room} {s : State} {m : MethodId} {args : Array Value} {below : List Frame} {meth : Method} {c : Code} {Rp : RT} (C : Cx Z (d + 2) jX10_hearMay RX10 p R s m args meth c) : Sd Z jX10_hearMay p e R s m args below meth c (MQ below (QcS Z Rp) args s 0 0 (fun a => Z.2.2.1 < a)) 38 (w_X10_hearMay_38 (MS Z (d + 2)) (Gw Z 4 p e R s m args below meth c (MQ below (QcS Z Rp) args s 0 0 (fun a => Z.2.2.1 < a))) Rp) := by
  unfold w_X10_hearMay_38
  refine s_iconst (n := 0) C (by decide +kernel) (by decide) ?_
  exact (b_X10_hearMay_39 C)
set_option maxRecDepth 20000 in
theorem b_X10_hearMay_0 {Z : Zt} {d : Nat} {p : Program} {e : Env} {R : Room} {s : State} {m : MethodId} {args : Array Value} {below : List Frame} {meth : Method} {c : Code} {Rp : RT} (C : Cx Z (d + 2) jX10_hearMay RX10 p R s m args meth c) : Sd Z jX10_hearMay p e R s m args below meth c (MQ below (QcS Z Rp) args s 0 0 (fun a => Z.2.2.1 < a)) 0 (w_X10_hearMay_0 (MS Z (d + 2)) (Gw Z 4 p e R s m args below meth c (MQ below (QcS Z Rp) args s 0 0 (fun a => Z.2.2.1 < a))) Rp) := by
  unfold w_X10_hearMay_0
  refine s_aload_n (k := 2) C (by decide +kernel) ?_
  refine s_getI C w_1_69 (by decide +kernel) rfl ?_
  refine s_aload_n (k := 1) C (by decide +kernel) ?_
  refine s_getI C w_1_227 (by decide +kernel) rfl ?_
  refine s_icmp_le (off := 30) (tgt := 38) C (by decide +kernel) (by decide) (b_X10_hearMay_38 C) ?_
  refine s_aload_n (k := 1) C (by decide +kernel) ?_
  refine s_getI C w_1_234 (by decide +kernel) rfl ?_
  refine s_iconst (n := 2) C (by decide +kernel) (by decide) ?_
  refine s_icmp_eq (off := 22) (tgt := 38) C (by decide +kernel) (by decide) (b_X10_hearMay_38 C) ?_
  refine s_aload_n (k := 1) C (by decide +kernel) ?_
  refine s_aload_n (k := 2) C (by decide +kernel) ?_
  refine s_getI C w_1_79 (by decide +kernel) rfl ?_
  refine s_aload_n (k := 2) C (by decide +kernel) ?_
  refine s_getI C w_1_74 (by decide +kernel) rfl ?_
  refine s_fnV C (j2 := jX7_findsFresh) (cl := 7) (nf := 18) rfl rfl (by decide +kernel) rfl w_4_87 w_4_88 w_4_89 w_1_5 w_4_90 (by decide +kernel) (fun _ _ _ _ _ h => f_X7_findsFresh h) (fun _ _ _ _ _ h => r_X7_findsFresh h) ?_
  refine s_if_eq (off := 7) (tgt := 38) C (by decide +kernel) (by decide) (b_X10_hearMay_38 C) ?_
  refine s_iconst (n := 1) C (by decide +kernel) (by decide) ?_
  exact s_goto (off := 4) (tgt := 39) C (by decide +kernel) (by decide) (b_X10_hearMay_39 C)
theorem ms_X10_hearMay {Z : Zt} {d : Nat} {S : Sh} {μ : Mi} {ρ : Mr} {Rp : RT} (a0 : Nat) (a1 : Nat) (a2 : Nat) (h : ∀ G : Nat → PT, w_X10_hearMay_0 (MS Z (d + 2)) G Rp [.ref a0, .ref a1, .ref a2, .null] [] S (0, 0) μ ρ) : MS Z (d + 3) jX10_hearMay [.ref a0, .ref a1, .ref a2] S μ ρ Rp :=
  MS_of [.ref a0, .ref a1, .ref a2, .null] (by decide +kernel) rfl rfl (Nat.le_of_ble_eq_true rfl) rfl (fun p e R s m args below meth c C => b_X10_hearMay_0 C _ _ _ _ _ _ (h _ ))
def F_X10_hearMay : FT := fun As S μ ρ k => match As with
  | [.ref a, .ref x, .ref q] => S.2 a = (10, 6) ∧ ∃ (s f : Nat) (A g : Rw), s < 5 ∧ x = a + 130 + 8 * s ∧ RR A a S μ ρ ∧ Mg A g a q μ ρ s f ∧ hK A s ∧ ∀ μ', RR (qWouldBe A s f (g 2) (g 4) (g 5)) a S μ' ρ → Ot a μ μ' → k none μ'
  | _ => False
theorem r_X10_hearMay {As S μ ρ k} (h : F_X10_hearMay As S μ ρ k) : ∃ a As', As = Value.ref a :: As' ∧ S.2 a = (10, 6) := by
  unfold F_X10_hearMay at h
  split at h
  · exact ⟨_, _, rfl, h.1⟩
  · exact h.elim
set_option maxHeartbeats 1000000 in
theorem f_X10_hearMay {Z : Zt} {d : Nat} {As : List Value} {S : Sh} {μ : Mi} {ρ : Mr} {Rp : RT} (h : F_X10_hearMay As S μ ρ (fun r μ' => Rp r S μ' ρ)) : MS Z (d + 3) jX10_hearMay As S μ ρ Rp := by
  unfold F_X10_hearMay at h
  split at h
  · rename_i a x q
    obtain ⟨a, hNa⟩ : ∃ n : Nat, n = a := ⟨a, rfl⟩
    subst hNa
    obtain ⟨q, hNq⟩ : ∃ n : Nat, n = q := ⟨q, rfl⟩
    subst hNq
    obtain ⟨h1, s, f, A, g, hs, rfl, hR, hM, hK0, h⟩ := h
    refine ms_X10_hearMay _ _ _ (fun G => ?_)
    have hW := RR_W hR
    obtain ⟨x1, x2, -⟩ := W_st hW hs
    obtain ⟨⟨jq, jq1, jq2⟩, m1, m2, m3⟩ := Mg_at hM hW
    obtain ⟨hq60, hMs, hg0, hf, hg1, hsf⟩ := hM
    have hSt := RR_st hR hs
    have hA := hSt.1
    unfold StA at hA
    have hmem := St_mem hSt
    rw [hSt.2.2.2.2.2.1, hSt.2.2.2.2.2.2] at hmem
    have hrs : rg (nI s) 0 4 := (rg_nI (by omega)).mpr ⟨by omega, by omega⟩
    have hrf : rg (nI f) 0 4 := (rg_nI (by omega)).mpr ⟨by omega, by omega⟩
    have hrn : ¬ nI s = nI f := by rw [nI_eq (by omega) (by omega)]; exact hsf
    have f69 : ∀ (gr tm : Int32), (gr = 0 ∨ gr = 1) → (∀ μ', RR (qPost A s f (rowS (nI s) (nI f) tm 8 gr 0 0)) a S μ' ρ → Ot a μ μ' → Rp none S μ' ρ) → w_X10_hearMay_69 (MS Z (d + 2)) G Rp [.ref a, .ref (a + 130 + 8 * s), .ref q, .int gr] [.int tm, .int 8, .int (nI f), .int (nI s), .ref (a + 2)] S (0, 0) μ ρ := by
      intro gr tm hgr hh
      have fin : ∀ (q' : Nat) (μ1 : Mi), PostD A a μ ρ s f q' μ1 → msgAt a q' S ρ → (μ1 q' 0 = nI s ∧ μ1 q' 1 = nI f ∧ μ1 q' 2 = 8 ∧ μ1 q' 3 = tm ∧ ∀ i, 4 ≤ i → i < 9 → μ1 q' i = 0) → Rp none S (upI μ1 q' 4 gr) ρ := by
        intro q' μ1 p1 p2 p3
        have r2 := RR_sent (μ' := upI μ1 q' 4 gr) hR hs hf hsf p1 p2 (fun y y1 y2 => upI_ne y1) (MsR_S (f := nI s) (t := nI f) (tm := tm) (kd := 8) (x := gr) (y := 0) (rd := 0) (by simp (disch := omega) only [upI_k, upI_at, p3, and_self]) hrs hrf hrn (by decide))
        exact hh _ r2.1 (Fm_Ot r2.2)
      simp only [w_X10_hearMay_69, w_X10_hearMay_80, w_X10_hearMay_81, tAload, tIload, nth, tGetI, tGetR, tConst, tLconst, tBin, tUn, tI2l, tAld, tAldR, tAlen, tIast, tBast, tZast, tAast, tIret, tZret, tVret, tAret, tIf, tIf2, tGoto, tIstore, tAstore, sset, tIinc, tDup, tDup2, tPop, tPutI, tPutZ, tPutR, tCallV, tCallS, popN, tFn, tCopy, tMax, tMin, tSw, swc, tRem, tObjI, Option.toList, List.nil_append, List.cons_append, okR, true_and, and_true, true_or, or_true, Nat.zero_le, ne_eq, not_false_eq_true, Nat.reduceEqDiff, F_X1_post, hW.2.1]
      refine ⟨a, s, f, A, rfl, hR.1, rfl, rfl, hs, hf, hsf, fun q' μ1 p1 p2 p3 => ?_⟩
      have p2' := p2
      obtain ⟨j, -, -, j3, -⟩ := p2
      simp only [j3]
      rcases hgr with z | z
      · subst z
        exact ⟨fun _ => ⟨trivial, fin q' μ1 p1 p2' p3⟩, fun z => absurd rfl z⟩
      · subst z
        exact ⟨fun z => absurd z (by decide), fun _ => ⟨trivial, fin q' μ1 p1 p2' p3⟩⟩
    have no : ¬ (A (514 * s + 1) < g 2 ∧ ¬ A (514 * s + 3) = 2 ∧ (qTermAt A s (A (514 * s + 4)) < g 5 ∨ (g 5 = qTermAt A s (A (514 * s + 4)) ∧ ¬ g 4 < A (514 * s + 4)))) → w_X10_hearMay_38 (MS Z (d + 2)) G Rp [.ref a, .ref (a + 130 + 8 * s), .ref q, .null] [] S (0, 0) μ ρ := by
      intro c
      unfold qWouldBe at h
      rw [if_neg c] at h
      simp only [w_X10_hearMay_38, w_X10_hearMay_39, w_X10_hearMay_65, tAload, tIload, nth, tGetI, tGetR, tConst, tLconst, tBin, tUn, tI2l, tAld, tAldR, tAlen, tIast, tBast, tZast, tAast, tIret, tZret, tVret, tAret, tIf, tIf2, tGoto, tIstore, tAstore, sset, tIinc, tDup, tDup2, tPop, tPutI, tPutZ, tPutR, tCallV, tCallS, popN, tFn, tCopy, tMax, tMin, tSw, swc, tRem, tObjI, Option.toList, List.nil_append, List.cons_append, okR, true_and, and_true, true_or, or_true, Nat.zero_le, ne_eq, not_false_eq_true, Nat.reduceEqDiff, h1, x1, m1, hA, hMs.1, hg0, hW.2.2.2.2.1]
      exact ⟨fun _ => f69 0 _ (Or.inl rfl) h, fun z => absurd trivial z⟩
    simp only [w_X10_hearMay_0, w_X10_hearMay_39, tAload, tIload, nth, tGetI, tGetR, tConst, tLconst, tBin, tUn, tI2l, tAld, tAldR, tAlen, tIast, tBast, tZast, tAast, tIret, tZret, tVret, tAret, tIf, tIf2, tGoto, tIstore, tAstore, sset, tIinc, tDup, tDup2, tPop, tPutI, tPutZ, tPutR, tCallV, tCallS, popN, tFn, tCopy, tMax, tMin, tSw, swc, tRem, tObjI, Option.toList, List.nil_append, List.cons_append, okR, true_and, and_true, true_or, or_true, Nat.zero_le, ne_eq, not_false_eq_true, Nat.reduceEqDiff, F_X7_findsFresh, b2_z, h1, x1, x2, m1, hA, hMs.1, hg0, hW.2.2.2.2.1]
    refine ⟨fun c => no (fun z => absurd z.1 (Int32.not_lt.mpr c)), fun c => ⟨fun c2 => no (fun z => z.2.1 c2), fun c2 => ⟨hSt.2.1.2.2.1.1, hSt.2.1.2.1.2, fun c3 => no (fun z => c3 ?_), fun c3 => ⟨fun z => absurd z (by decide), fun _ => f69 1 _ (Or.inr rfl) ?_⟩⟩⟩⟩
    · have := z.2.2
      rw [← St_termAt hSt] at this
      exact this
    · have c4 := Decidable.not_not.mp c3
      rw [St_termAt hSt] at c4
      unfold qWouldBe at h
      rw [if_pos ⟨Int32.not_le.mp c, c2, c4⟩] at h
      exact h
  · exact h.elim
def w_X10_hearWould_89 (M : CT) (G : Nat → PT) (Rp : RT) : PT := tConst 0 <| tIret Rp
def w_X10_hearWould_63 (M : CT) (G : Nat → PT) (Rp : RT) : PT := tAload 2 <| tGetI 2 10 4 <| tIf (fun x => x ≠ 0) (w_X10_hearWould_89 M G Rp) <| tAload 2 <| tGetI 2 10 3 <| tAload 1 <| tGetI 7 18 2 <| tIf2 (fun x y => x ≤ y) (w_X10_hearWould_89 M G Rp) <| tAload 1 <| tAload 2 <| tGetI 2 10 3 <| tFn 2 F_X7_fallBack <| w_X10_hearWould_89 M G Rp
def w_X10_hearWould_62 (M : CT) (G : Nat → PT) (Rp : RT) : PT := tIret Rp
def w_X10_hearWould_61 (M : CT) (G : Nat → PT) (Rp : RT) : PT := tConst 0 <| w_X10_hearWould_62 M G Rp
def w_X10_hearWould_10 (M : CT) (G : Nat → PT) (Rp : RT) : PT := tAload 2 <| tGetI 2 10 4 <| tConst 1 <| tIf2 (fun x y => x ≠ y) (w_X10_hearWould_63 M G Rp) <| tAload 2 <| tGetI 2 10 3 <| tAload 1 <| tGetI 7 18 2 <| tConst 1 <| tBin (fun x y => x + y) <| tIf2 (fun x y => x ≠ y) (w_X10_hearWould_63 M G Rp) <| tAload 1 <| tDup <| tGetI 7 18 5 <| tConst 1 <| tAload 2 <| tGetI 2 10 0 <| tBin (fun x y => x <<< (y &&& 31)) <| tBin (fun x y => x ||| y) <| tPutI 7 18 5 <| tAload 1 <| tAload 1 <| tGetI 7 18 5 <| tFn 2 F_X7_isMajority <| tIf (fun x => x = 0) (w_X10_hearWould_61 M G Rp) <| tConst 1 <| tGoto (w_X10_hearWould_62 M G Rp)
def w_X10_hearWould_0 (M : CT) (G : Nat → PT) (Rp : RT) : PT := tAload 1 <| tGetI 7 18 4 <| tConst 3 <| tIf2 (fun x y => x = y) (w_X10_hearWould_10 M G Rp) <| tConst 0 <| tIret Rp
set_option maxRecDepth 20000 in
theorem b_X10_hearWould_89 {Z : Zt} {d : Nat} {p : Program} {e : Env} {R : Room} {s : State} {m : MethodId} {args : Array Value} {below : List Frame} {meth : Method} {c : Code} {Rp : RT} (C : Cx Z (d + 3) jX10_hearWould RX10 p R s m args meth c) : Sd Z jX10_hearWould p e R s m args below meth c (MQ below (QcS Z Rp) args s 0 0 (fun a => Z.2.2.1 < a)) 89 (w_X10_hearWould_89 (MS Z (d + 3)) (Gw Z 3 p e R s m args below meth c (MQ below (QcS Z Rp) args s 0 0 (fun a => Z.2.2.1 < a))) Rp) := by
  unfold w_X10_hearWould_89
  refine s_iconst (n := 0) C (by decide +kernel) (by decide) ?_
  exact s_iret C rfl (by decide +kernel)
set_option maxRecDepth 20000 in
theorem b_X10_hearWould_63 {Z : Zt} {d : Nat} {p : Program} {e : Env} {R : Room} {s : State} {m : MethodId} {args : Array Value} {below : List Frame} {meth : Method} {c : Code} {Rp : RT} (C : Cx Z (d + 3) jX10_hearWould RX10 p R s m args meth c) : Sd Z jX10_hearWould p e R s m args below meth c (MQ below (QcS Z Rp) args s 0 0 (fun a => Z.2.2.1 < a)) 63 (w_X10_hearWould_63 (MS Z (d + 3)) (Gw Z 3 p e R s m args below meth c (MQ below (QcS Z Rp) args s 0 0 (fun a => Z.2.2.1 < a))) Rp) := by
  unfold w_X10_hearWould_63
  refine s_aload_n (k := 2) C (by decide +kernel) ?_
  refine s_getI C w_1_74 (by decide +kernel) rfl ?_
  refine s_if_ne (off := 22) (tgt := 89) C (by decide +kernel) (by decide) (b_X10_hearWould_89 C) ?_
  refine s_aload_n (k := 2) C (by decide +kernel) ?_
  refine s_getI C w_1_69 (by decide +kernel) rfl ?_
  refine s_aload_n (k := 1) C (by decide +kernel) ?_
  refine s_getI C w_1_227 (by decide +kernel) rfl ?_
  refine s_icmp_le (off := 11) (tgt := 89) C (by decide +kernel) (by decide) (b_X10_hearWould_89 C) ?_
  refine s_aload_n (k := 1) C (by decide +kernel) ?_
  refine s_aload_n (k := 2) C (by decide +kernel) ?_
  refine s_getI C w_1_69 (by decide +kernel) rfl ?_
  refine s_fnV C (j2 := jX7_fallBack) (cl := 7) (nf := 18) rfl rfl (by decide +kernel) rfl w_4_79 w_4_80 w_4_81 w_1_5 w_4_82 (by decide +kernel) (fun _ _ _ _ _ h => f_X7_fallBack h) (fun _ _ _ _ _ h => r_X7_fallBack h) ?_
  exact (b_X10_hearWould_89 C)
set_option maxRecDepth 20000 in
theorem b_X10_hearWould_62 {Z : Zt} {d : Nat} {p : Program} {e : Env} {R : Room} {s : State} {m : MethodId} {args : Array Value} {below : List Frame} {meth : Method} {c : Code} {Rp : RT} (C : Cx Z (d + 3) jX10_hearWould RX10 p R s m args meth c) : Sd Z jX10_hearWould p e R s m args below meth c (MQ below (QcS Z Rp) args s 0 0 (fun a => Z.2.2.1 < a)) 62 (w_X10_hearWould_62 (MS Z (d + 3)) (Gw Z 3 p e R s m args below meth c (MQ below (QcS Z Rp) args s 0 0 (fun a => Z.2.2.1 < a))) Rp) := by
  unfold w_X10_hearWould_62
  exact s_iret C rfl (by decide +kernel)
set_option maxRecDepth 20000 in
theorem b_X10_hearWould_61 {Z : Zt} {d : Nat} {p : Program} {e : Env} {R : Room} {s : State} {m : MethodId} {args : Array Value} {below : List Frame} {meth : Method} {c : Code} {Rp : RT} (C : Cx Z (d + 3) jX10_hearWould RX10 p R s m args meth c) : Sd Z jX10_hearWould p e R s m args below meth c (MQ below (QcS Z Rp) args s 0 0 (fun a => Z.2.2.1 < a)) 61 (w_X10_hearWould_61 (MS Z (d + 3)) (Gw Z 3 p e R s m args below meth c (MQ below (QcS Z Rp) args s 0 0 (fun a => Z.2.2.1 < a))) Rp) := by
  unfold w_X10_hearWould_61
  refine s_iconst (n := 0) C (by decide +kernel) (by decide) ?_
  exact (b_X10_hearWould_62 C)
set_option maxRecDepth 20000 in
theorem b_X10_hearWould_10 {Z : Zt} {d : Nat} {p : Program} {e : Env} {R : Room} {s : State} {m : MethodId} {args : Array Value} {below : List Frame} {meth : Method} {c : Code} {Rp : RT} (C : Cx Z (d + 3) jX10_hearWould RX10 p R s m args meth c) : Sd Z jX10_hearWould p e R s m args below meth c (MQ below (QcS Z Rp) args s 0 0 (fun a => Z.2.2.1 < a)) 10 (w_X10_hearWould_10 (MS Z (d + 3)) (Gw Z 3 p e R s m args below meth c (MQ below (QcS Z Rp) args s 0 0 (fun a => Z.2.2.1 < a))) Rp) := by
  unfold w_X10_hearWould_10
  refine s_aload_n (k := 2) C (by decide +kernel) ?_
  refine s_getI C w_1_74 (by decide +kernel) rfl ?_
  refine s_iconst (n := 1) C (by decide +kernel) (by decide) ?_
  refine s_icmp_ne (off := 48) (tgt := 63) C (by decide +kernel) (by decide) (b_X10_hearWould_63 C) ?_
  refine s_aload_n (k := 2) C (by decide +kernel) ?_
  refine s_getI C w_1_69 (by decide +kernel) rfl ?_
  refine s_aload_n (k := 1) C (by decide +kernel) ?_
  refine s_getI C w_1_227 (by decide +kernel) rfl ?_
  refine s_iconst (n := 1) C (by decide +kernel) (by decide) ?_
  refine s_iadd C (by decide +kernel) ?_
  refine s_icmp_ne (off := 35) (tgt := 63) C (by decide +kernel) (by decide) (b_X10_hearWould_63 C) ?_
  refine s_aload_n (k := 1) C (by decide +kernel) ?_
  refine s_dup C (by decide +kernel) ?_
  refine s_getI C w_1_238 (by decide +kernel) rfl ?_
  refine s_iconst (n := 1) C (by decide +kernel) (by decide) ?_
  refine s_aload_n (k := 2) C (by decide +kernel) ?_
  refine s_getI C w_1_55 (by decide +kernel) rfl ?_
  refine s_ishl C (by decide +kernel) ?_
  refine s_ior C (by decide +kernel) ?_
  refine s_putI C w_1_238 (by decide +kernel) rfl (Or.inl rfl) ?_
  refine s_aload_n (k := 1) C (by decide +kernel) ?_
  refine s_aload_n (k := 1) C (by decide +kernel) ?_
  refine s_getI C w_1_238 (by decide +kernel) rfl ?_
  refine s_fnV C (j2 := jX7_isMajority) (cl := 7) (nf := 18) rfl rfl (by decide +kernel) rfl w_3_133 w_3_134 w_3_135 w_1_5 w_3_136 (by decide +kernel) (fun _ _ _ _ _ h => f_X7_isMajority h) (fun _ _ _ _ _ h => r_X7_isMajority h) ?_
  refine s_if_eq (off := 7) (tgt := 61) C (by decide +kernel) (by decide) (b_X10_hearWould_61 C) ?_
  refine s_iconst (n := 1) C (by decide +kernel) (by decide) ?_
  exact s_goto (off := 4) (tgt := 62) C (by decide +kernel) (by decide) (b_X10_hearWould_62 C)
set_option maxRecDepth 20000 in
theorem b_X10_hearWould_0 {Z : Zt} {d : Nat} {p : Program} {e : Env} {R : Room} {s : State} {m : MethodId} {args : Array Value} {below : List Frame} {meth : Method} {c : Code} {Rp : RT} (C : Cx Z (d + 3) jX10_hearWould RX10 p R s m args meth c) : Sd Z jX10_hearWould p e R s m args below meth c (MQ below (QcS Z Rp) args s 0 0 (fun a => Z.2.2.1 < a)) 0 (w_X10_hearWould_0 (MS Z (d + 3)) (Gw Z 3 p e R s m args below meth c (MQ below (QcS Z Rp) args s 0 0 (fun a => Z.2.2.1 < a))) Rp) := by
  unfold w_X10_hearWould_0
  refine s_aload_n (k := 1) C (by decide +kernel) ?_
  refine s_getI C w_1_234 (by decide +kernel) rfl ?_
  refine s_iconst (n := 3) C (by decide +kernel) (by decide) ?_
  refine s_icmp_eq (off := 5) (tgt := 10) C (by decide +kernel) (by decide) (b_X10_hearWould_10 C) ?_
  refine s_iconst (n := 0) C (by decide +kernel) (by decide) ?_
  exact s_iret C rfl (by decide +kernel)
theorem ms_X10_hearWould {Z : Zt} {d : Nat} {S : Sh} {μ : Mi} {ρ : Mr} {Rp : RT} (a0 : Nat) (a1 : Nat) (a2 : Nat) (h : ∀ G : Nat → PT, w_X10_hearWould_0 (MS Z (d + 3)) G Rp [.ref a0, .ref a1, .ref a2] [] S (0, 0) μ ρ) : MS Z (d + 4) jX10_hearWould [.ref a0, .ref a1, .ref a2] S μ ρ Rp :=
  MS_of [.ref a0, .ref a1, .ref a2] (by decide +kernel) rfl rfl (Nat.le_of_ble_eq_true rfl) rfl (fun p e R s m args below meth c C => b_X10_hearWould_0 C _ _ _ _ _ _ (h _ ))
def F_X10_hearWould : FT := fun As S μ ρ k => match As with
  | [.ref a, .ref x, .ref q] => S.2 a = (10, 6) ∧ ∃ (s f : Nat) (A g : Rw), s < 5 ∧ x = a + 130 + 8 * s ∧ RR A a S μ ρ ∧ Mg A g a q μ ρ s f ∧ hK A s ∧ (g 4 = 0 ∨ g 4 = 1) ∧ rg (g 2) 0 200 ∧ ∀ (μ' : Mi) (A' : Rw) (td : Int32), RR A' a S μ' ρ → Ot a μ μ' → (td = 0 ∨ μ' q = μ q) → finQ A' s f (nI f) td (if A (514 * s + 3) = 3 then qWould A s f (g 4 = 1) (g 2) else A) → k (some (.int td)) μ'
  | _ => False
theorem r_X10_hearWould {As S μ ρ k} (h : F_X10_hearWould As S μ ρ k) : ∃ a As', As = Value.ref a :: As' ∧ S.2 a = (10, 6) := by
  unfold F_X10_hearWould at h
  split at h
  · exact ⟨_, _, rfl, h.1⟩
  · exact h.elim
set_option maxHeartbeats 1000000 in
theorem f_X10_hearWould {Z : Zt} {d : Nat} {As : List Value} {S : Sh} {μ : Mi} {ρ : Mr} {Rp : RT} (h : F_X10_hearWould As S μ ρ (fun r μ' => Rp r S μ' ρ)) : MS Z (d + 4) jX10_hearWould As S μ ρ Rp := by
  unfold F_X10_hearWould at h
  split at h
  · rename_i a x q
    obtain ⟨a, hNa⟩ : ∃ n : Nat, n = a := ⟨a, rfl⟩
    subst hNa
    obtain ⟨q, hNq⟩ : ∃ n : Nat, n = q := ⟨q, rfl⟩
    subst hNq
    obtain ⟨h1, s, f, A, g, hs, rfl, hR, hM, hK0, hg4, hg2, h⟩ := h
    refine ms_X10_hearWould _ _ _ (fun G => ?_)
    have hW := RR_W hR
    obtain ⟨x1, x2, -⟩ := W_st hW hs
    obtain ⟨⟨jq, jq1, jq2⟩, m1, m2, m3⟩ := Mg_at hM hW
    obtain ⟨hq60, hMs, hg0, hf, hg1, hsf⟩ := hM
    have hSt := RR_st hR hs
    have hA := hSt.1
    unfold StA at hA
    have hmem := St_mem hSt
    rw [hSt.2.2.2.2.2.1, hSt.2.2.2.2.2.2] at hmem
    have r5 := RR_o (v := A (514 * s + 8) ||| (1 : Int32) <<< (nI f &&& 31)) hs hR
    have e8 : up A (514 * s + 8) (A (514 * s + 8) ||| (1 : Int32) <<< (nI f &&& 31)) (514 * s + 8) = A (514 * s + 8) ||| (1 : Int32) <<< (nI f &&& 31) := up_at
    have s10 : upI μ (a + 130 + 8 * s) 5 (A (514 * s + 8) ||| (1 : Int32) <<< (nI f &&& 31)) (a + 130 + 8 * s) 10 = (qMem A s).1 := by rw [upI_k (by omega)]; exact hSt.2.2.2.2.2.1
    have s11 : upI μ (a + 130 + 8 * s) 5 (A (514 * s + 8) ||| (1 : Int32) <<< (nI f &&& 31)) (a + 130 + 8 * s) 11 = (qMem A s).2.1 := by rw [upI_k (by omega)]; exact hSt.2.2.2.2.2.2
    simp only [w_X10_hearWould_0, w_X10_hearWould_10, w_X10_hearWould_61, w_X10_hearWould_62, w_X10_hearWould_63, w_X10_hearWould_89, tAload, tIload, nth, tGetI, tGetR, tConst, tLconst, tBin, tUn, tI2l, tAld, tAldR, tAlen, tIast, tBast, tZast, tAast, tIret, tZret, tVret, tAret, tIf, tIf2, tGoto, tIstore, tAstore, sset, tIinc, tDup, tDup2, tPop, tPutI, tPutZ, tPutR, tCallV, tCallS, popN, tFn, tCopy, tMax, tMin, tSw, swc, tRem, tObjI, Option.toList, List.nil_append, List.cons_append, okR, true_and, and_true, true_or, or_true, Nat.zero_le, ne_eq, not_false_eq_true, Nat.reduceEqDiff, F_X7_isMajority, F_X7_fallBack, x1, x2, m1, hA, hMs.1, hg0, upI_at, s10, s11, hmem, Decidable.not_not]
    refine ⟨fun c => ⟨fun c2 => ⟨fun c3 => ?_, fun c3 => ⟨fun c4 => ?_, fun c4 => ?_⟩⟩, fun c2 => ⟨fun c3 => ⟨fun c4 => ?_, fun c4 => absurd (c4.symm.trans c2) (by decide)⟩, fun c3 => ⟨fun c4 => ⟨fun z => absurd z (by decide), fun _ => ?_⟩, fun c4 => ⟨fun _ => ?_, fun z => absurd trivial z⟩⟩⟩⟩, fun c => ?_⟩
    · exact absurd (hg4.elim (fun z => c3 z) (fun z => c2 z)) id
    · refine h μ A 0 hR (fun _ _ => rfl) (Or.inr rfl) (Or.inl ⟨rfl, ?_⟩)
      unfold qWould
      rw [if_pos c, if_pos c2, if_neg (Int32.not_lt.mpr c4)]
    · refine h _ _ 0 ⟨R0_store hs hR.1 (fun i hi => ?_) (fun y hy => ?_) (St_follow hs hSt), Nx_other hs hR.2 ?_ (fun i hi => ?_) (fun y hy => ?_)⟩ (fun y hy => ?_) (Or.inl rfl) (Or.inl ⟨rfl, ?_⟩)
      · unfold qFollow; rw [qPlays_out (by omega), up_ne (by omega), up_ne (by omega)]
      · rw [cBec_ne (by omega) (by omega), upI_ne (by omega), upI_ne (by omega)]
      · unfold qFollow; rw [qPlays_3]; decide
      · unfold qFollow; rw [qPlays_out (by omega), up_ne (by omega), up_ne (by omega)]
      · rw [cBec_ne (by omega) (by omega), upI_ne (by omega), upI_ne (by omega)]
      · rw [cBec_ne (by omega) (by omega), upI_ne (by omega), upI_ne (by omega)]
      · unfold qWould
        rw [if_pos c, if_pos c2, if_pos (Int32.not_le.mp c4)]
    · refine h μ A 0 hR (fun _ _ => rfl) (Or.inr rfl) (Or.inl ⟨rfl, ?_⟩)
      unfold qWould
      rw [if_pos c, if_neg (not_not_intro c2), if_pos c3]
    · refine h _ _ 1 r5 (fun y hy => upI_ne (by omega)) (Or.inr (upI_ne (by omega))) (Or.inr (Or.inl ⟨rfl, ?_, agOK_8 hs hK0.1.1, agR_8 hK0.2.1, ?_⟩))
      · unfold qWould
        rw [if_pos c, if_neg (not_not_intro c2), if_neg (not_not_intro c3)]
        simp only [e8, qMem_8]
        unfold cMaj at c4
        rw [if_pos c4]
      · rw [up_ne (by omega)]
        obtain ⟨tm, t1, t2, -, t3⟩ := rg_ex hK0.1.2.2.1
        have := hg2.2
        rw [c3, t1, nI_s1, nI_toInt (by omega)] at this
        rw [t1]
        exact (rg_nI t2).mpr ⟨by omega, by omega⟩
    · refine h _ _ 0 r5 (fun y hy => upI_ne (by omega)) (Or.inr (upI_ne (by omega))) (Or.inl ⟨rfl, ?_⟩)
      unfold qWould
      rw [if_pos c, if_neg (not_not_intro c2), if_neg (not_not_intro c3)]
      simp only [e8, qMem_8]
      unfold cMaj at c4
      rw [if_neg c4]
    · exact h μ A 0 hR (fun _ _ => rfl) (Or.inr rfl) (Or.inl ⟨rfl, by rw [if_neg c]⟩)
  · exact h.elim
