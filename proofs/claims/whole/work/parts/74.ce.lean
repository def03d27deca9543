/-! ===== the class: what a store does ===== -/
theorem rg_and {x y : Int32} (h : rg y 0 31) : rg (x &&& y) 0 31 := by
  obtain ⟨n, rfl, n0, -, n1⟩ := rg_ex h
  have key : ∀ m : Fin 32, ∀ z : Int32, rg (z &&& nI m.val) 0 31 := by
    intro m z
    have h1 : (z &&& nI m.val).toBitVec.toNat ≤ m.val := by
      rw [Int32.toBitVec_and, BitVec.toNat_and]
      refine Nat.le_trans Nat.and_le_right ?_
      have : ∀ m : Fin 32, (nI m.val).toBitVec.toNat = m.val := by decide +kernel
      exact Nat.le_of_eq (this m)
    have h2 := m.isLt
    unfold rg
    rw [← Int32.toInt_toBitVec, BitVec.toInt_eq_toNat_cond]
    have : 2 * (z &&& nI m.val).toBitVec.toNat < 2 ^ 32 := by omega
    rw [if_pos this]
    omega
  exact key ⟨n, by omega⟩ x
def cMaj (one two set : Int32) : Prop := cnt5 one < 2 * cnt5 (set &&& one) ∧ (two = 0 ∨ cnt5 two < 2 * cnt5 (set &&& two))
def w_X7_isMajority_56 (M : CT) (G : Nat → PT) (Rp : RT) : PT := tZret Rp
def w_X7_isMajority_55 (M : CT) (G : Nat → PT) (Rp : RT) : PT := tConst 0 <| w_X7_isMajority_56 M G Rp
def w_X7_isMajority_51 (M : CT) (G : Nat → PT) (Rp : RT) : PT := tConst 1 <| tGoto (w_X7_isMajority_56 M G Rp)
def w_X7_isMajority_23 (M : CT) (G : Nat → PT) (Rp : RT) : PT := tAload 0 <| tGetI 7 18 11 <| tIf (fun x => x = 0) (w_X7_isMajority_51 M G Rp) <| tConst 2 <| tIload 1 <| tAload 0 <| tGetI 7 18 11 <| tBin (fun x y => x &&& y) <| tFn 1 F_J6_bitCount_0f7a4 <| tBin (fun x y => x * y) <| tAload 0 <| tGetI 7 18 11 <| tFn 1 F_J6_bitCount_0f7a4 <| tIf2 (fun x y => x ≤ y) (w_X7_isMajority_55 M G Rp) <| w_X7_isMajority_51 M G Rp
def w_X7_isMajority_0 (M : CT) (G : Nat → PT) (Rp : RT) : PT := tConst 2 <| tIload 1 <| tAload 0 <| tGetI 7 18 10 <| tBin (fun x y => x &&& y) <| tFn 1 F_J6_bitCount_0f7a4 <| tBin (fun x y => x * y) <| tAload 0 <| tGetI 7 18 10 <| tFn 1 F_J6_bitCount_0f7a4 <| tIf2 (fun x y => y < x) (w_X7_isMajority_23 M G Rp) <| tConst 0 <| tZret Rp
set_option maxRecDepth 20000 in
theorem b_X7_isMajority_56 {Z : Zt} {d : Nat} {p : Program} {e : Env} {R : Room} {s : State} {m : MethodId} {args : Array Value} {below : List Frame} {meth : Method} {c : Code} {Rp : RT} (C : Cx Z (d + 1) jX7_isMajority RX7 p R s m args meth c) : Sd Z jX7_isMajority p e R s m args below meth c (MQ below (QcS Z Rp) args s 0 0 (fun a => Z.2.2.1 < a)) 56 (w_X7_isMajority_56 (MS Z (d + 1)) (Gw Z 2 p e R s m args below meth c (MQ below (QcS Z Rp) args s 0 0 (fun a => Z.2.2.1 < a))) Rp) := by
  unfold w_X7_isMajority_56
  exact s_zret C rfl (by decide +kernel)
set_option maxRecDepth 20000 in
theorem b_X7_isMajority_55 {Z : Zt} {d : Nat} {p : Program} {e : Env} {R : Room} {s : State} {m : MethodId} {args : Array Value} {below : List Frame} {meth : Method} {c : Code} {Rp : RT} (C : Cx Z (d + 1) jX7_isMajority RX7 p R s m args meth c) : Sd Z jX7_isMajority p e R s m args below meth c (MQ below (QcS Z Rp) args s 0 0 (fun a => Z.2.2.1 < a)) 55 (w_X7_isMajority_55 (MS Z (d + 1)) (Gw Z 2 p e R s m args below meth c (MQ below (QcS Z Rp) args s 0 0 (fun a => Z.2.2.1 < a))) Rp) := by
  unfold w_X7_isMajority_55
  refine s_iconst (n := 0) C (by decide +kernel) (by decide) ?_
  exact (b_X7_isMajority_56 C)
set_option maxRecDepth 20000 in
theorem b_X7_isMajority_51 {Z : Zt} {d : Nat} {p : Program} {e : Env} {R : Room} {s : State} {m : MethodId} {args : Array Value} {below : List Frame} {meth : Method} {c : Code} {Rp : RT} (C : Cx Z (d + 1) jX7_isMajority RX7 p R s m args meth c) : Sd Z jX7_isMajority p e R s m args below meth c (MQ below (QcS Z Rp) args s 0 0 (fun a => Z.2.2.1 < a)) 51 (w_X7_isMajority_51 (MS Z (d + 1)) (Gw Z 2 p e R s m args below meth c (MQ below (QcS Z Rp) args s 0 0 (fun a => Z.2.2.1 < a))) Rp) := by
  unfold w_X7_isMajority_51
  refine s_iconst (n := 1) C (by decide +kernel) (by decide) ?_
  exact s_goto (off := 4) (tgt := 56) C (by decide +kernel) (by decide) (b_X7_isMajority_56 C)
set_option maxRecDepth 20000 in
theorem b_X7_isMajority_23 {Z : Zt} {d : Nat} {p : Program} {e : Env} {R : Room} {s : State} {m : MethodId} {args : Array Value} {below : List Frame} {meth : Method} {c : Code} {Rp : RT} (C : Cx Z (d + 1) jX7_isMajority RX7 p R s m args meth c) : Sd Z jX7_isMajority p e R s m args below meth c (MQ below (QcS Z Rp) args s 0 0 (fun a => Z.2.2.1 < a)) 23 (w_X7_isMajority_23 (MS Z (d + 1)) (Gw Z 2 p e R s m args below meth c (MQ below (QcS Z Rp) args s 0 0 (fun a => Z.2.2.1 < a))) Rp) := by
  unfold w_X7_isMajority_23
  refine s_aload_n (k := 0) C (by decide +kernel) ?_
  refine s_getI C w_2_17 (by decide +kernel) rfl ?_
  refine s_if_eq (off := 24) (tgt := 51) C (by decide +kernel) (by decide) (b_X7_isMajority_51 C) ?_
  refine s_iconst (n := 2) C (by decide +kernel) (by decide) ?_
  refine s_iload_n (k := 1) C (by decide +kernel) ?_
  refine s_aload_n (k := 0) C (by decide +kernel) ?_
  refine s_getI C w_2_17 (by decide +kernel) rfl ?_
  refine s_iand C (by decide +kernel) ?_
  refine s_fnS C (j2 := jJ6_bitCount_0f7a4) (by decide +kernel) rfl w_3_137 w_3_74 w_1_15 w_3_75 (by decide +kernel) (fun _ _ _ _ _ h => f_J6_bitCount_0f7a4 h) ?_
  refine s_imul C (by decide +kernel) ?_
  refine s_aload_n (k := 0) C (by decide +kernel) ?_
  refine s_getI C w_2_17 (by decide +kernel) rfl ?_
  refine s_fnS C (j2 := jJ6_bitCount_0f7a4) (by decide +kernel) rfl w_3_137 w_3_74 w_1_15 w_3_75 (by decide +kernel) (fun _ _ _ _ _ h => f_J6_bitCount_0f7a4 h) ?_
  refine s_icmp_le (off := 7) (tgt := 55) C (by decide +kernel) (by decide) (b_X7_isMajority_55 C) ?_
  exact (b_X7_isMajority_51 C)
set_option maxRecDepth 20000 in
theorem b_X7_isMajority_0 {Z : Zt} {d : Nat} {p : Program} {e : Env} {R : Room} {s : State} {m : MethodId} {args : Array Value} {below : List Frame} {meth : Method} {c : Code} {Rp : RT} (C : Cx Z (d + 1) jX7_isMajority RX7 p R s m args meth c) : Sd Z jX7_isMajority p e R s m args below meth c (MQ below (QcS Z Rp) args s 0 0 (fun a => Z.2.2.1 < a)) 0 (w_X7_isMajority_0 (MS Z (d + 1)) (Gw Z 2 p e R s m args below meth c (MQ below (QcS Z Rp) args s 0 0 (fun a => Z.2.2.1 < a))) Rp) := by
  unfold w_X7_isMajority_0
  refine s_iconst (n := 2) C (by decide +kernel) (by decide) ?_
  refine s_iload_n (k := 1) C (by decide +kernel) ?_
  refine s_aload_n (k := 0) C (by decide +kernel) ?_
  refine s_getI C w_2_13 (by decide +kernel) rfl ?_
  refine s_iand C (by decide +kernel) ?_
  refine s_fnS C (j2 := jJ6_bitCount_0f7a4) (by decide +kernel) rfl w_3_137 w_3_74 w_1_15 w_3_75 (by decide +kernel) (fun _ _ _ _ _ h => f_J6_bitCount_0f7a4 h) ?_
  refine s_imul C (by decide +kernel) ?_
  refine s_aload_n (k := 0) C (by decide +kernel) ?_
  refine s_getI C w_2_13 (by decide +kernel) rfl ?_
  refine s_fnS C (j2 := jJ6_bitCount_0f7a4) (by decide +kernel) rfl w_3_137 w_3_74 w_1_15 w_3_75 (by decide +kernel) (fun _ _ _ _ _ h => f_J6_bitCount_0f7a4 h) ?_
  refine s_icmp_gt (off := 5) (tgt := 23) C (by decide +kernel) (by decide) (b_X7_isMajority_23 C) ?_
  refine s_iconst (n := 0) C (by decide +kernel) (by decide) ?_
  exact s_zret C rfl (by decide +kernel)
theorem ms_X7_isMajority {Z : Zt} {d : Nat} {S : Sh} {μ : Mi} {ρ : Mr} {Rp : RT} (a0 : Nat) (x1 : Int32) (h : ∀ G : Nat → PT, w_X7_isMajority_0 (MS Z (d + 1)) G Rp [.ref a0, .int x1] [] S (0, 0) μ ρ) : MS Z (d + 2) jX7_isMajority [.ref a0, .int x1] S μ ρ Rp :=
  MS_of [.ref a0, .int x1] (by decide +kernel) rfl rfl (Nat.le_of_ble_eq_true rfl) rfl (fun p e R s m args below meth c C => b_X7_isMajority_0 C _ _ _ _ _ _ (h _ ))
def F_X7_isMajority : FT := fun As S μ ρ k => match As with
  | [.ref a, .int z] => S.2 a = (7, 18) ∧ rg (μ a 10) 0 31 ∧ rg (μ a 11) 0 31 ∧ (cMaj (μ a 10) (μ a 11) z → k (some (.int 1)) μ) ∧ (¬ cMaj (μ a 10) (μ a 11) z → k (some (.int 0)) μ)
  | _ => False
theorem r_X7_isMajority {As S μ ρ k} (h : F_X7_isMajority As S μ ρ k) : ∃ a As', As = Value.ref a :: As' ∧ S.2 a = (7, 18) := by
  unfold F_X7_isMajority at h
  split at h
  · exact ⟨_, _, rfl, h.1⟩
  · exact h.elim
set_option maxHeartbeats 1000000 in
theorem f_X7_isMajority {Z : Zt} {d : Nat} {As : List Value} {S : Sh} {μ : Mi} {ρ : Mr} {Rp : RT} (h : F_X7_isMajority As S μ ρ (fun r μ' => Rp r S μ' ρ)) : MS Z (d + 2) jX7_isMajority As S μ ρ Rp := by
  unfold F_X7_isMajority at h
  split at h
  · rename_i a z
    obtain ⟨h1, h2, h3, hy, hn⟩ := h
    unfold cMaj at hy hn
    refine ms_X7_isMajority _ _ (fun G => ?_)
    simp only [w_X7_isMajority_0, w_X7_isMajority_23, w_X7_isMajority_51, w_X7_isMajority_55, w_X7_isMajority_56, tAload, tIload, nth, tGetI, tGetR, tConst, tLconst, tBin, tUn, tI2l, tAld, tAldR, tAlen, tIast, tBast, tZast, tAast, tIret, tZret, tVret, tAret, tIf, tIf2, tGoto, tIstore, tAstore, sset, tIinc, tDup, tDup2, tPop, tPutI, tPutZ, tPutR, tCallV, tCallS, popN, tFn, tCopy, tMax, tMin, tSw, swc, tRem, tObjI, Option.toList, List.nil_append, List.cons_append, okR, true_and, and_true, true_or, or_true, Nat.zero_le, ne_eq, not_false_eq_true, Nat.reduceEqDiff, F_J6_bitCount_0f7a4, h1, h2, h3, rg_and h2, rg_and h3]
    refine ⟨fun c => ⟨fun c2 => hy ⟨c, Or.inl c2⟩, fun c2 => ⟨fun c3 => hn (fun z => z.2.elim c2 (fun z => ?_)), fun c3 => hy ⟨c, Or.inr ?_⟩⟩⟩, fun c => hn (fun z => c z.1)⟩
    · exact absurd z (Int32.not_lt.mpr c3)
    · rw [Int32.not_le] at c3; exact c3
  · exact h.elim
def clr (μ : Mi) (r : Nat) : Mi := upI (upI (upI (upI μ r 0 0) r 1 0) r 2 0) r 3 0
def w_X5_clear_0 (M : CT) (G : Nat → PT) (Rp : RT) : PT := tAload 0 <| tConst 0 <| tPutI 5 4 0 <| tAload 0 <| tConst 0 <| tPutI 5 4 1 <| tAload 0 <| tConst 0 <| tPutI 5 4 2 <| tAload 0 <| tConst 0 <| tPutI 5 4 3 <| tVret Rp
set_option maxRecDepth 20000 in
theorem b_X5_clear_0 {Z : Zt} {d : Nat} {p : Program} {e : Env} {R : Room} {s : State} {m : MethodId} {args : Array Value} {below : List Frame} {meth : Method} {c : Code} {Rp : RT} (C : Cx Z d jX5_clear RX5 p R s m args meth c) : Sd Z jX5_clear p e R s m args below meth c (MQ below (QcS Z Rp) args s 0 0 (fun a => Z.2.2.1 < a)) 0 (w_X5_clear_0 (MS Z d) (Gw Z 1 p e R s m args below meth c (MQ below (QcS Z Rp) args s 0 0 (fun a => Z.2.2.1 < a))) Rp) := by
  unfold w_X5_clear_0
  refine s_aload_n (k := 0) C (by decide +kernel) ?_
  refine s_iconst (n := 0) C (by decide +kernel) (by decide) ?_
  refine s_putI C w_1_194 (by decide +kernel) rfl (Or.inl rfl) ?_
  refine s_aload_n (k := 0) C (by decide +kernel) ?_
  refine s_iconst (n := 0) C (by decide +kernel) (by decide) ?_
  refine s_putI C w_1_198 (by decide +kernel) rfl (Or.inl rfl) ?_
  refine s_aload_n (k := 0) C (by decide +kernel) ?_
  refine s_iconst (n := 0) C (by decide +kernel) (by decide) ?_
  refine s_putI C w_1_202 (by decide +kernel) rfl (Or.inl rfl) ?_
  refine s_aload_n (k := 0) C (by decide +kernel) ?_
  refine s_iconst (n := 0) C (by decide +kernel) (by decide) ?_
  refine s_putI C w_1_206 (by decide +kernel) rfl (Or.inl rfl) ?_
  exact s_vret C rfl (by decide +kernel)
theorem ms_X5_clear {Z : Zt} {d : Nat} {S : Sh} {μ : Mi} {ρ : Mr} {Rp : RT} (a0 : Nat) (h : ∀ G : Nat → PT, w_X5_clear_0 (MS Z d) G Rp [.ref a0] [] S (0, 0) μ ρ) : MS Z (d + 1) jX5_clear [.ref a0] S μ ρ Rp :=
  MS_of [.ref a0] (by decide +kernel) rfl rfl (Nat.le_of_ble_eq_true rfl) rfl (fun p e R s m args below meth c C => b_X5_clear_0 C _ _ _ _ _ _ (h _ ))
def F_X5_clear : FT := fun As S μ ρ k => match As with
  | [.ref a] => S.2 a = (5, 4) ∧ k none (clr μ a)
  | _ => False
theorem r_X5_clear {As S μ ρ k} (h : F_X5_clear As S μ ρ k) : ∃ a As', As = Value.ref a :: As' ∧ S.2 a = (5, 4) := by
  unfold F_X5_clear at h
  split at h
  · exact ⟨_, _, rfl, h.1⟩
  · exact h.elim
set_option maxHeartbeats 1000000 in
theorem f_X5_clear {Z : Zt} {d : Nat} {As : List Value} {S : Sh} {μ : Mi} {ρ : Mr} {Rp : RT} (h : F_X5_clear As S μ ρ (fun r μ' => Rp r S μ' ρ)) : MS Z (d + 1) jX5_clear As S μ ρ Rp := by
  unfold F_X5_clear at h
  split at h
  · rename_i a
    obtain ⟨h1, h⟩ := h
    refine ms_X5_clear _ (fun G => ?_)
    simp only [w_X5_clear_0, tAload, tIload, nth, tGetI, tGetR, tConst, tLconst, tBin, tUn, tI2l, tAld, tAldR, tAlen, tIast, tBast, tZast, tAast, tIret, tZret, tVret, tAret, tIf, tIf2, tGoto, tIstore, tAstore, sset, tIinc, tDup, tDup2, tPop, tPutI, tPutZ, tPutR, tCallV, tCallS, popN, tFn, tCopy, tMax, tMin, tSw, swc, tRem, tObjI, Option.toList, List.nil_append, List.cons_append, okR, true_and, and_true, true_or, or_true, Nat.zero_le, ne_eq, not_false_eq_true, Nat.reduceEqDiff, h1]
    exact h
  · exact h.elim
def cBec (μ : Mi) (x : Nat) (o : Int32) : Mi := if μ x 4 = o then μ else if μ (x + 7) 0 = 1 then clr (upI (upI μ x 4 o) x 5 0) (x + 7) else upI (upI μ x 4 o) x 5 0
def w_X7_becomes_37 (M : CT) (G : Nat → PT) (Rp : RT) : PT := tVret Rp
def w_X7_becomes_9 (M : CT) (G : Nat → PT) (Rp : RT) : PT := tAload 0 <| tIload 1 <| tPutI 7 18 4 <| tAload 0 <| tConst 0 <| tPutI 7 18 5 <| tAload 0 <| tGetR 7 18 17 <| tGetI 5 4 0 <| tConst 1 <| tIf2 (fun x y => x ≠ y) (w_X7_becomes_37 M G Rp) <| tAload 0 <| tGetR 7 18 17 <| tFn 1 F_X5_clear <| w_X7_becomes_37 M G Rp
def w_X7_becomes_0 (M : CT) (G : Nat → PT) (Rp : RT) : PT := tAload 0 <| tGetI 7 18 4 <| tIload 1 <| tIf2 (fun x y => x ≠ y) (w_X7_becomes_9 M G Rp) <| tVret Rp
set_option maxRecDepth 20000 in
theorem b_X7_becomes_37 {Z : Zt} {d : Nat} {p : Program} {e : Env} {R : Room} {s : State} {m : MethodId} {args : Array Value} {below : List Frame} {meth : Method} {c : Code} {Rp : RT} (C : Cx Z (d + 1) jX7_becomes RX7 p R s m args meth c) : Sd Z jX7_becomes p e R s m args below meth c (MQ below (QcS Z Rp) args s 0 0 (fun a => Z.2.2.1 < a)) 37 (w_X7_becomes_37 (MS Z (d + 1)) (Gw Z 2 p e R s m args below meth c (MQ below (QcS Z Rp) args s 0 0 (fun a => Z.2.2.1 < a))) Rp) := by
  unfold w_X7_becomes_37
  exact s_vret C rfl (by decide +kernel)
set_option maxRecDepth 20000 in
theorem b_X7_becomes_9 {Z : Zt} {d : Nat} {p : Program} {e : Env} {R : Room} {s : State} {m : MethodId} {args : Array Value} {below : List Frame} {meth : Method} {c : Code} {Rp : RT} (C : Cx Z (d + 1) jX7_becomes RX7 p R s m args meth c) : Sd Z jX7_becomes p e R s m args below meth c (MQ below (QcS Z Rp) args s 0 0 (fun a => Z.2.2.1 < a)) 9 (w_X7_becomes_9 (MS Z (d + 1)) (Gw Z 2 p e R s m args below meth c (MQ below (QcS Z Rp) args s 0 0 (fun a => Z.2.2.1 < a))) Rp) := by
  unfold w_X7_becomes_9
  refine s_aload_n (k := 0) C (by decide +kernel) ?_
  refine s_iload_n (k := 1) C (by decide +kernel) ?_
  refine s_putI C w_1_231 (by decide +kernel) rfl (Or.inl rfl) ?_
  refine s_aload_n (k := 0) C (by decide +kernel) ?_
  refine s_iconst (n := 0) C (by decide +kernel) (by decide) ?_
  refine s_putI C w_1_236 (by decide +kernel) rfl (Or.inl rfl) ?_
  refine s_aload_n (k := 0) C (by decide +kernel) ?_
  refine s_getR C w_2_35 (by decide +kernel) rfl ?_
  refine s_getI C w_1_196 (by decide +kernel) rfl ?_
  refine s_iconst (n := 1) C (by decide +kernel) (by decide) ?_
  refine s_icmp_ne (off := 10) (tgt := 37) C (by decide +kernel) (by decide) (b_X7_becomes_37 C) ?_
  refine s_aload_n (k := 0) C (by decide +kernel) ?_
  refine s_getR C w_2_35 (by decide +kernel) rfl ?_
  refine s_fnV C (j2 := jX5_clear) (cl := 5) (nf := 4) rfl rfl (by decide +kernel) rfl w_2_90 w_2_91 w_2_92 w_1_7 w_2_93 (by decide +kernel) (fun _ _ _ _ _ h => f_X5_clear h) (fun _ _ _ _ _ h => r_X5_clear h) ?_
  exact (b_X7_becomes_37 C)
set_option maxRecDepth 20000 in
theorem b_X7_becomes_0 {Z : Zt} {d : Nat} {p : Program} {e : Env} {R : Room} {s : State} {m : MethodId} {args : Array Value} {below : List Frame} {meth : Method} {c : Code} {Rp : RT} (C : Cx Z (d + 1) jX7_becomes RX7 p R s m args meth c) : Sd Z jX7_becomes p e R s m args below meth c (MQ below (QcS Z Rp) args s 0 0 (fun a => Z.2.2.1 < a)) 0 (w_X7_becomes_0 (MS Z (d + 1)) (Gw Z 2 p e R s m args below meth c (MQ below (QcS Z Rp) args s 0 0 (fun a => Z.2.2.1 < a))) Rp) := by
  unfold w_X7_becomes_0
  refine s_aload_n (k := 0) C (by decide +kernel) ?_
  refine s_getI C w_1_231 (by decide +kernel) rfl ?_
  refine s_iload_n (k := 1) C (by decide +kernel) ?_
  refine s_icmp_ne (off := 4) (tgt := 9) C (by decide +kernel) (by decide) (b_X7_becomes_9 C) ?_
  exact s_vret C rfl (by decide +kernel)
theorem ms_X7_becomes {Z : Zt} {d : Nat} {S : Sh} {μ : Mi} {ρ : Mr} {Rp : RT} (a0 : Nat) (x1 : Int32) (h : ∀ G : Nat → PT, w_X7_becomes_0 (MS Z (d + 1)) G Rp [.ref a0, .int x1] [] S (0, 0) μ ρ) : MS Z (d + 2) jX7_becomes [.ref a0, .int x1] S μ ρ Rp :=
  MS_of [.ref a0, .int x1] (by decide +kernel) rfl rfl (Nat.le_of_ble_eq_true rfl) rfl (fun p e R s m args below meth c C => b_X7_becomes_0 C _ _ _ _ _ _ (h _ ))
def F_X7_becomes : FT := fun As S μ ρ k => match As with
  | [.ref a, .int o] => S.2 a = (7, 18) ∧ StS S ρ a ∧ k none (cBec μ a o)
  | _ => False
theorem r_X7_becomes {As S μ ρ k} (h : F_X7_becomes As S μ ρ k) : ∃ a As', As = Value.ref a :: As' ∧ S.2 a = (7, 18) := by
  unfold F_X7_becomes at h
  split at h
  · exact ⟨_, _, rfl, h.1⟩
  · exact h.elim
set_option maxHeartbeats 1000000 in
theorem f_X7_becomes {Z : Zt} {d : Nat} {As : List Value} {S : Sh} {μ : Mi} {ρ : Mr} {Rp : RT} (h : F_X7_becomes As S μ ρ (fun r μ' => Rp r S μ' ρ)) : MS Z (d + 2) jX7_becomes As S μ ρ Rp := by
  unfold F_X7_becomes at h
  split at h
  · rename_i a o
    obtain ⟨h1, h2, h⟩ := h
    unfold StS at h2
    unfold cBec at h
    refine ms_X7_becomes _ _ (fun G => ?_)
    simp only [w_X7_becomes_0, w_X7_becomes_9, w_X7_becomes_37, tAload, tIload, nth, tGetI, tGetR, tConst, tLconst, tBin, tUn, tI2l, tAld, tAldR, tAlen, tIast, tBast, tZast, tAast, tIret, tZret, tVret, tAret, tIf, tIf2, tGoto, tIstore, tAstore, sset, tIinc, tDup, tDup2, tPop, tPutI, tPutZ, tPutR, tCallV, tCallS, popN, tFn, tCopy, tMax, tMin, tSw, swc, tRem, tObjI, Option.toList, List.nil_append, List.cons_append, okR, true_and, and_true, true_or, or_true, Nat.zero_le, ne_eq, not_false_eq_true, Nat.reduceEqDiff, F_X5_clear, h1, h2, Decidable.not_not]
    simp (disch := omega) only [upI_ne]
    refine ⟨fun c => ⟨fun c2 => ?_, fun c2 => ?_⟩, fun c => ?_⟩
    · rw [if_neg c, if_neg c2] at h; exact h
    · rw [if_neg c, if_pos c2] at h; exact h
    · rw [if_pos c] at h; exact h
  · exact h.elim
def w_X7_fallBack_0 (M : CT) (G : Nat → PT) (Rp : RT) : PT := tAload 0 <| tIload 1 <| tPutI 7 18 2 <| tAload 0 <| tConst (-1) <| tPutI 7 18 3 <| tAload 0 <| tConst 0 <| tFn 2 F_X7_becomes <| tVret Rp
set_option maxRecDepth 20000 in
theorem b_X7_fallBack_0 {Z : Zt} {d : Nat} {p : Program} {e : Env} {R : Room} {s : State} {m : MethodId} {args : Array Value} {below : List Frame} {meth : Method} {c : Code} {Rp : RT} (C : Cx Z (d + 2) jX7_fallBack RX7 p R s m args meth c) : Sd Z jX7_fallBack p e R s m args below meth c (MQ below (QcS Z Rp) args s 0 0 (fun a => Z.2.2.1 < a)) 0 (w_X7_fallBack_0 (MS Z (d + 2)) (Gw Z 2 p e R s m args below meth c (MQ below (QcS Z Rp) args s 0 0 (fun a => Z.2.2.1 < a))) Rp) := by
  unfold w_X7_fallBack_0
  refine s_aload_n (k := 0) C (by decide +kernel) ?_
  refine s_iload_n (k := 1) C (by decide +kernel) ?_
  refine s_putI C w_1_225 (by decide +kernel) rfl (Or.inl rfl) ?_
  refine s_aload_n (k := 0) C (by decide +kernel) ?_
  refine s_iconst (n := (-1)) C (by decide +kernel) (by decide) ?_
  refine s_putI C w_1_228 (by decide +kernel) rfl (Or.inl rfl) ?_
  refine s_aload_n (k := 0) C (by decide +kernel) ?_
  refine s_iconst (n := 0) C (by decide +kernel) (by decide) ?_
  refine s_fnV C (j2 := jX7_becomes) (cl := 7) (nf := 18) rfl rfl (by decide +kernel) rfl w_4_30 w_3_118 w_3_119 w_1_5 w_3_120 (by decide +kernel) (fun _ _ _ _ _ h => f_X7_becomes h) (fun _ _ _ _ _ h => r_X7_becomes h) ?_
  exact s_vret C rfl (by decide +kernel)
theorem ms_X7_fallBack {Z : Zt} {d : Nat} {S : Sh} {μ : Mi} {ρ : Mr} {Rp : RT} (a0 : Nat) (x1 : Int32) (h : ∀ G : Nat → PT, w_X7_fallBack_0 (MS Z (d + 2)) G Rp [.ref a0, .int x1] [] S (0, 0) μ ρ) : MS Z (d + 3) jX7_fallBack [.ref a0, .int x1] S μ ρ Rp :=
  MS_of [.ref a0, .int x1] (by decide +kernel) rfl rfl (Nat.le_of_ble_eq_true rfl) rfl (fun p e R s m args below meth c C => b_X7_fallBack_0 C _ _ _ _ _ _ (h _ ))
def F_X7_fallBack : FT := fun As S μ ρ k => match As with
  | [.ref a, .int t] => S.2 a = (7, 18) ∧ StS S ρ a ∧ k none (cBec (upI (upI μ a 2 t) a 3 (-1)) a 0)
  | _ => False
theorem r_X7_fallBack {As S μ ρ k} (h : F_X7_fallBack As S μ ρ k) : ∃ a As', As = Value.ref a :: As' ∧ S.2 a = (7, 18) := by
  unfold F_X7_fallBack at h
  split at h
  · exact ⟨_, _, rfl, h.1⟩
  · exact h.elim
set_option maxHeartbeats 1000000 in
theorem f_X7_fallBack {Z : Zt} {d : Nat} {As : List Value} {S : Sh} {μ : Mi} {ρ : Mr} {Rp : RT} (h : F_X7_fallBack As S μ ρ (fun r μ' => Rp r S μ' ρ)) : MS Z (d + 3) jX7_fallBack As S μ ρ Rp := by
  unfold F_X7_fallBack at h
  split at h
  · rename_i a t
    obtain ⟨h1, h2, h⟩ := h
    refine ms_X7_fallBack _ _ (fun G => ?_)
    simp only [w_X7_fallBack_0, tAload, tIload, nth, tGetI, tGetR, tConst, tLconst, tBin, tUn, tI2l, tAld, tAldR, tAlen, tIast, tBast, tZast, tAast, tIret, tZret, tVret, tAret, tIf, tIf2, tGoto, tIstore, tAstore, sset, tIinc, tDup, tDup2, tPop, tPutI, tPutZ, tPutR, tCallV, tCallS, popN, tFn, tCopy, tMax, tMin, tSw, swc, tRem, tObjI, Option.toList, List.nil_append, List.cons_append, okR, true_and, and_true, true_or, or_true, Nat.zero_le, ne_eq, not_false_eq_true, Nat.reduceEqDiff, F_X7_becomes, h1]
    exact ⟨h2, h⟩
  · exact h.elim
def cDown1 (μ : Mi) (x : Nat) : Mi := clr (cBec (upI μ x 1 0) x 0) (x + 7)
def cDown (μ : Mi) (x : Nat) : Mi := upF (upI (cDown1 μ x) x 8 (cDown1 μ x (x + 5) 0)) (x + 2) (va_cpy (cDown1 μ x (x + 6)) (cDown1 μ x (x + 2)) 0 0 4)
def w_X7_goesDown_0 (M : CT) (G : Nat → PT) (Rp : RT) : PT := tAload 0 <| tConst 0 <| tPutZ 7 18 1 <| tAload 0 <| tConst 0 <| tFn 2 F_X7_becomes <| tAload 0 <| tGetR 7 18 17 <| tFn 1 F_X5_clear <| tAload 0 <| tAload 0 <| tGetR 7 18 16 <| tGetI 6 5 0 <| tPutI 7 18 8 <| tAload 0 <| tGetR 7 18 16 <| tGetR 6 5 4 <| tConst 0 <| tAload 0 <| tGetR 7 18 13 <| tConst 0 <| tConst 4 <| tCopy <| tVret Rp
set_option maxRecDepth 20000 in
theorem b_X7_goesDown_0 {Z : Zt} {d : Nat} {p : Program} {e : Env} {R : Room} {s : State} {m : MethodId} {args : Array Value} {below : List Frame} {meth : Method} {c : Code} {Rp : RT} (C : Cx Z (d + 2) jX7_goesDown RX7 p R s m args meth c) : Sd Z jX7_goesDown p e R s m args below meth c (MQ below (QcS Z Rp) args s 0 0 (fun a => Z.2.2.1 < a)) 0 (w_X7_goesDown_0 (MS Z (d + 2)) (Gw Z 1 p e R s m args below meth c (MQ below (QcS Z Rp) args s 0 0 (fun a => Z.2.2.1 < a))) Rp) := by
  unfold w_X7_goesDown_0
  refine s_aload_n (k := 0) C (by decide +kernel) ?_
  refine s_iconst (n := 0) C (by decide +kernel) (by decide) ?_
  refine s_putZ C w_1_222 (by decide +kernel) rfl (Or.inl rfl) ?_
  refine s_aload_n (k := 0) C (by decide +kernel) ?_
  refine s_iconst (n := 0) C (by decide +kernel) (by decide) ?_
  refine s_fnV C (j2 := jX7_becomes) (cl := 7) (nf := 18) rfl rfl (by decide +kernel) rfl w_4_30 w_3_118 w_3_119 w_1_5 w_3_120 (by decide +kernel) (fun _ _ _ _ _ h => f_X7_becomes h) (fun _ _ _ _ _ h => r_X7_becomes h) ?_
  refine s_aload_n (k := 0) C (by decide +kernel) ?_
  refine s_getR C w_2_35 (by decide +kernel) rfl ?_
  refine s_fnV C (j2 := jX5_clear) (cl := 5) (nf := 4) rfl rfl (by decide +kernel) rfl w_2_90 w_2_91 w_2_92 w_1_7 w_2_93 (by decide +kernel) (fun _ _ _ _ _ h => f_X5_clear h) (fun _ _ _ _ _ h => r_X5_clear h) ?_
  refine s_aload_n (k := 0) C (by decide +kernel) ?_
  refine s_aload_n (k := 0) C (by decide +kernel) ?_
  refine s_getR C w_2_32 (by decide +kernel) rfl ?_
  refine s_getI C w_1_162 (by decide +kernel) rfl ?_
  refine s_putI C w_2_6 (by decide +kernel) rfl (Or.inl rfl) ?_
  refine s_aload_n (k := 0) C (by decide +kernel) ?_
  refine s_getR C w_2_32 (by decide +kernel) rfl ?_
  refine s_getR C w_1_175 (by decide +kernel) rfl ?_
  refine s_iconst (n := 0) C (by decide +kernel) (by decide) ?_
  refine s_aload_n (k := 0) C (by decide +kernel) ?_
  refine s_getR C w_2_23 (by decide +kernel) rfl ?_
  refine s_iconst (n := 0) C (by decide +kernel) (by decide) ?_
  refine s_iconst (n := 4) C (by decide +kernel) (by decide) ?_
  refine s_copy C w_3_44 w_3_46 w_3_45 w_1_14 (by decide +kernel) ?_
  exact s_vret C rfl (by decide +kernel)
theorem ms_X7_goesDown {Z : Zt} {d : Nat} {S : Sh} {μ : Mi} {ρ : Mr} {Rp : RT} (a0 : Nat) (h : ∀ G : Nat → PT, w_X7_goesDown_0 (MS Z (d + 2)) G Rp [.ref a0] [] S (0, 0) μ ρ) : MS Z (d + 3) jX7_goesDown [.ref a0] S μ ρ Rp :=
  MS_of [.ref a0] (by decide +kernel) rfl rfl (Nat.le_of_ble_eq_true rfl) rfl (fun p e R s m args below meth c C => b_X7_goesDown_0 C _ _ _ _ _ _ (h _ ))
def F_X7_goesDown : FT := fun As S μ ρ k => match As with
  | [.ref a] => S.2 a = (7, 18) ∧ StS S ρ a ∧ k none (cDown μ a)
  | _ => False
theorem r_X7_goesDown {As S μ ρ k} (h : F_X7_goesDown As S μ ρ k) : ∃ a As', As = Value.ref a :: As' ∧ S.2 a = (7, 18) := by
  unfold F_X7_goesDown at h
  split at h
  · exact ⟨_, _, rfl, h.1⟩
  · exact h.elim
set_option maxHeartbeats 1000000 in
theorem f_X7_goesDown {Z : Zt} {d : Nat} {As : List Value} {S : Sh} {μ : Mi} {ρ : Mr} {Rp : RT} (h : F_X7_goesDown As S μ ρ (fun r μ' => Rp r S μ' ρ)) : MS Z (d + 3) jX7_goesDown As S μ ρ Rp := by
  unfold F_X7_goesDown at h
  split at h
  · rename_i a
    obtain ⟨h1, h2, h⟩ := h
    have h3 := h2
    unfold StS at h2
    unfold cDown at h
    refine ms_X7_goesDown _ (fun G => ?_)
    simp only [w_X7_goesDown_0, tAload, tIload, nth, tGetI, tGetR, tConst, tLconst, tBin, tUn, tI2l, tAld, tAldR, tAlen, tIast, tBast, tZast, tAast, tIret, tZret, tVret, tAret, tIf, tIf2, tGoto, tIstore, tAstore, sset, tIinc, tDup, tDup2, tPop, tPutI, tPutZ, tPutR, tCallV, tCallS, popN, tFn, tCopy, tMax, tMin, tSw, swc, tRem, tObjI, Option.toList, List.nil_append, List.cons_append, okR, true_and, and_true, true_or, or_true, Nat.zero_le, ne_eq, not_false_eq_true, Nat.reduceEqDiff, F_X7_becomes, F_X5_clear, h1, h2, h3]
    refine ⟨by decide, by decide, by decide, by decide, by decide, ?_⟩
    simp (disch := omega) only [upI_ne]
    exact h
  · exact h.elim
def cApp (μ : Mi) (x : Nat) (e : Int32) : Mi := if μ x 7 < 120 then
    (if ¬ eKd e < 3 then upI (upI (upI (upI (upI μ x 7 (μ x 7 + 1)) (x + 1) (μ x 7 + 1).toNatClampNeg e) x 9 (μ x 7 + 1)) x 10 (eX e)) x 11 (eY e) else upI (upI μ x 7 (μ x 7 + 1)) (x + 1) (μ x 7 + 1).toNatClampNeg e) else μ
def w_X7_append_61 (M : CT) (G : Nat → PT) (Rp : RT) : PT := tVret Rp
def w_X7_append_10 (M : CT) (G : Nat → PT) (Rp : RT) : PT := tAload 0 <| tDup <| tGetI 7 18 7 <| tConst 1 <| tBin (fun x y => x + y) <| tPutI 7 18 7 <| tAload 0 <| tGetR 7 18 12 <| tAload 0 <| tGetI 7 18 7 <| tIload 1 <| tIast <| tIload 1 <| tFn 1 F_X0_tellsMembers <| tIf (fun x => x = 0) (w_X7_append_61 M G Rp) <| tAload 0 <| tAload 0 <| tGetI 7 18 7 <| tPutI 7 18 9 <| tAload 0 <| tIload 1 <| tFn 1 F_X0_cellOf <| tPutI 7 18 10 <| tAload 0 <| tIload 1 <| tFn 1 F_X0_numberOf <| tPutI 7 18 11 <| w_X7_append_61 M G Rp
def w_X7_append_0 (M : CT) (G : Nat → PT) (Rp : RT) : PT := tAload 0 <| tGetI 7 18 7 <| tConst 120 <| tIf2 (fun x y => x < y) (w_X7_append_10 M G Rp) <| tVret Rp
set_option maxRecDepth 20000 in
theorem b_X7_append_61 {Z : Zt} {d : Nat} {p : Program} {e : Env} {R : Room} {s : State} {m : MethodId} {args : Array Value} {below : List Frame} {meth : Method} {c : Code} {Rp : RT} (C : Cx Z (d + 1) jX7_append RX7 p R s m args meth c) : Sd Z jX7_append p e R s m args below meth c (MQ below (QcS Z Rp) args s 0 0 (fun a => Z.2.2.1 < a)) 61 (w_X7_append_61 (MS Z (d + 1)) (Gw Z 2 p e R s m args below meth c (MQ below (QcS Z Rp) args s 0 0 (fun a => Z.2.2.1 < a))) Rp) := by
  unfold w_X7_append_61
  exact s_vret C rfl (by decide +kernel)
set_option maxRecDepth 20000 in
theorem b_X7_append_10 {Z : Zt} {d : Nat} {p : Program} {e : Env} {R : Room} {s : State} {m : MethodId} {args : Array Value} {below : List Frame} {meth : Method} {c : Code} {Rp : RT} (C : Cx Z (d + 1) jX7_append RX7 p R s m args meth c) : Sd Z jX7_append p e R s m args below meth c (MQ below (QcS Z Rp) args s 0 0 (fun a => Z.2.2.1 < a)) 10 (w_X7_append_10 (MS Z (d + 1)) (Gw Z 2 p e R s m args below meth c (MQ below (QcS Z Rp) args s 0 0 (fun a => Z.2.2.1 < a))) Rp) := by
  unfold w_X7_append_10
  refine s_aload_n (k := 0) C (by decide +kernel) ?_
  refine s_dup C (by decide +kernel) ?_
  refine s_getI C w_2_2 (by decide +kernel) rfl ?_
  refine s_iconst (n := 1) C (by decide +kernel) (by decide) ?_
  refine s_iadd C (by decide +kernel) ?_
  refine s_putI C w_2_2 (by decide +kernel) rfl (Or.inl rfl) ?_
  refine s_aload_n (k := 0) C (by decide +kernel) ?_
  refine s_getR C w_2_20 (by decide +kernel) rfl ?_
  refine s_aload_n (k := 0) C (by decide +kernel) ?_
  refine s_getI C w_2_2 (by decide +kernel) rfl ?_
  refine s_iload_n (k := 1) C (by decide +kernel) ?_
  refine s_iast C (by decide +kernel) ?_
  refine s_iload_n (k := 1) C (by decide +kernel) ?_
  refine s_fnS C (j2 := jX0_tellsMembers) (by decide +kernel) rfl w_2_99 w_2_100 w_1_9 w_2_101 (by decide +kernel) (fun _ _ _ _ _ h => f_X0_tellsMembers h) ?_
  refine s_if_eq (off := 27) (tgt := 61) C (by decide +kernel) (by decide) (b_X7_append_61 C) ?_
  refine s_aload_n (k := 0) C (by decide +kernel) ?_
  refine s_aload_n (k := 0) C (by decide +kernel) ?_
  refine s_getI C w_2_2 (by decide +kernel) rfl ?_
  refine s_putI C w_2_10 (by decide +kernel) rfl (Or.inl rfl) ?_
  refine s_aload_n (k := 0) C (by decide +kernel) ?_
  refine s_iload_n (k := 1) C (by decide +kernel) ?_
  refine s_fnS C (j2 := jX0_cellOf) (by decide +kernel) rfl w_2_102 w_2_103 w_1_9 w_2_104 (by decide +kernel) (fun _ _ _ _ _ h => f_X0_cellOf h) ?_
  refine s_putI C w_2_13 (by decide +kernel) rfl (Or.inl rfl) ?_
  refine s_aload_n (k := 0) C (by decide +kernel) ?_
  refine s_iload_n (k := 1) C (by decide +kernel) ?_
  refine s_fnS C (j2 := jX0_numberOf) (by decide +kernel) rfl w_2_105 w_2_106 w_1_9 w_2_107 (by decide +kernel) (fun _ _ _ _ _ h => f_X0_numberOf h) ?_
  refine s_putI C w_2_17 (by decide +kernel) rfl (Or.inl rfl) ?_
  exact (b_X7_append_61 C)
set_option maxRecDepth 20000 in
theorem b_X7_append_0 {Z : Zt} {d : Nat} {p : Program} {e : Env} {R : Room} {s : State} {m : MethodId} {args : Array Value} {below : List Frame} {meth : Method} {c : Code} {Rp : RT} (C : Cx Z (d + 1) jX7_append RX7 p R s m args meth c) : Sd Z jX7_append p e R s m args below meth c (MQ below (QcS Z Rp) args s 0 0 (fun a => Z.2.2.1 < a)) 0 (w_X7_append_0 (MS Z (d + 1)) (Gw Z 2 p e R s m args below meth c (MQ below (QcS Z Rp) args s 0 0 (fun a => Z.2.2.1 < a))) Rp) := by
  unfold w_X7_append_0
  refine s_aload_n (k := 0) C (by decide +kernel) ?_
  refine s_getI C w_2_2 (by decide +kernel) rfl ?_
  refine s_bipush (n := 120) C (by decide +kernel) (by decide) ?_
  refine s_icmp_lt (off := 4) (tgt := 10) C (by decide +kernel) (by decide) (b_X7_append_10 C) ?_
  exact s_vret C rfl (by decide +kernel)
theorem ms_X7_append {Z : Zt} {d : Nat} {S : Sh} {μ : Mi} {ρ : Mr} {Rp : RT} (a0 : Nat) (x1 : Int32) (h : ∀ G : Nat → PT, w_X7_append_0 (MS Z (d + 1)) G Rp [.ref a0, .int x1] [] S (0, 0) μ ρ) : MS Z (d + 2) jX7_append [.ref a0, .int x1] S μ ρ Rp :=
  MS_of [.ref a0, .int x1] (by decide +kernel) rfl rfl (Nat.le_of_ble_eq_true rfl) rfl (fun p e R s m args below meth c C => b_X7_append_0 C _ _ _ _ _ _ (h _ ))
def F_X7_append : FT := fun As S μ ρ k => match As with
  | [.ref a, .int e] => S.2 a = (7, 18) ∧ StS S ρ a ∧ rg (μ a 7) 0 120 ∧ k none (cApp μ a e)
  | _ => False
theorem r_X7_append {As S μ ρ k} (h : F_X7_append As S μ ρ k) : ∃ a As', As = Value.ref a :: As' ∧ S.2 a = (7, 18) := by
  unfold F_X7_append at h
  split at h
  · exact ⟨_, _, rfl, h.1⟩
  · exact h.elim
set_option maxHeartbeats 1000000 in
theorem f_X7_append {Z : Zt} {d : Nat} {As : List Value} {S : Sh} {μ : Mi} {ρ : Mr} {Rp : RT} (h : F_X7_append As S μ ρ (fun r μ' => Rp r S μ' ρ)) : MS Z (d + 2) jX7_append As S μ ρ Rp := by
  unfold F_X7_append at h
  split at h
  · rename_i a e
    obtain ⟨h1, h2, h4, h⟩ := h
    unfold StS at h2
    unfold cApp at h
    refine ms_X7_append _ _ (fun G => ?_)
    obtain ⟨l, e1, e2, -, e3⟩ := rg_ex h4
    simp only [w_X7_append_0, w_X7_append_10, w_X7_append_61, tAload, tIload, nth, tGetI, tGetR, tConst, tLconst, tBin, tUn, tI2l, tAld, tAldR, tAlen, tIast, tBast, tZast, tAast, tIret, tZret, tVret, tAret, tIf, tIf2, tGoto, tIstore, tAstore, sset, tIinc, tDup, tDup2, tPop, tPutI, tPutZ, tPutR, tCallV, tCallS, popN, tFn, tCopy, tMax, tMin, tSw, swc, tRem, tObjI, Option.toList, List.nil_append, List.cons_append, okR, true_and, and_true, true_or, or_true, Nat.zero_le, ne_eq, not_false_eq_true, Nat.reduceEqDiff, F_X0_tellsMembers, F_X0_cellOf, F_X0_numberOf, h1, h2, Decidable.not_not, upI_at]
    refine ⟨fun c => ?_, fun c => ?_⟩
    · rw [if_pos c] at h
      have hl : l < 120 := by
        rw [e1, Int32.lt_iff_toInt_lt, nI_toInt e2] at c
        have : (120 : Int32).toInt = 120 := rfl
        omega
      have hi : inb (μ a 7 + 1) 121 := by
        rw [e1, nI_s1]
        exact inb_nI (by omega) (by decide)
      refine ⟨hi, ?_⟩
      simp (disch := omega) only [upI_ne, upI_at]
      simp only [b2_z, Decidable.not_not]
      refine ⟨fun c2 => ?_, fun c2 => ?_⟩
      · rw [if_neg (not_not_intro c2)] at h; exact h
      · rw [if_pos c2] at h; exact h
    · rw [if_neg c] at h; exact h
  · exact h.elim
def cCfg (μ : Mi) (x : Nat) : Nat → Int32 × Int32 × Int32 := fun p => match p with
  | 0 => (μ (x + 5) 2, μ (x + 5) 3, 0)
  | p + 1 => if nI (p + 1) ≤ μ (x + 5) 0 then (μ (x + 5) 2, μ (x + 5) 3, 0) else if ¬ eKd (μ (x + 1) (p + 1)) < 3 then (eX (μ (x + 1) (p + 1)), eY (μ (x + 1) (p + 1)), nI (p + 1)) else cCfg μ x p
theorem cCfg_0 {μ : Mi} {x : Nat} : cCfg μ x 0 = (μ (x + 5) 2, μ (x + 5) 3, 0) := rfl
theorem cCfg_s {μ : Mi} {x p : Nat} : cCfg μ x (p + 1) = if nI (p + 1) ≤ μ (x + 5) 0 then (μ (x + 5) 2, μ (x + 5) 3, 0) else if ¬ eKd (μ (x + 1) (p + 1)) < 3 then (eX (μ (x + 1) (p + 1)), eY (μ (x + 1) (p + 1)), nI (p + 1)) else cCfg μ x p := rfl
def cSet (μ : Mi) (x : Nat) (c : Int32 × Int32 × Int32) : Mi := upI (upI (upI μ x 9 c.2.2) x 10 c.1) x 11 c.2.1
theorem cSet_cSet {μ : Mi} {x : Nat} {c d : Int32 × Int32 × Int32} : cSet (cSet μ x c) x d = cSet μ x d := by
  funext b i
  unfold cSet upI
  by_cases h : b = x
  · by_cases h1 : i = 9
    · simp [h, h1]
    · by_cases h2 : i = 10
      · simp [h, h2]
      · by_cases h3 : i = 11
        · simp [h, h3]
        · simp [h, h1, h2, h3]
  · simp [h]
theorem cSet_ne {μ : Mi} {x y : Nat} {c : Int32 × Int32 × Int32} (h : y ≠ x) : cSet μ x c y = μ y := by unfold cSet; rw [upI_ne h, upI_ne h, upI_ne h]
theorem cSet_k {μ : Mi} {x i : Nat} {c : Int32 × Int32 × Int32} (h : i < 9 ∨ 11 < i) : cSet μ x c x i = μ x i := by unfold cSet; rw [upI_k (by omega), upI_k (by omega), upI_k (by omega)]
def w_X7_findMembers_93 (M : CT) (G : Nat → PT) (Rp : RT) : PT := tVret Rp
def w_X7_findMembers_87 (M : CT) (G : Nat → PT) (Rp : RT) : PT := tIinc 1 (-1) <| tGoto (G 32)
def w_X7_findMembers_32 (M : CT) (G : Nat → PT) (Rp : RT) : PT := tIload 1 <| tAload 0 <| tGetR 7 18 16 <| tGetI 6 5 0 <| tIf2 (fun x y => x ≤ y) (w_X7_findMembers_93 M G Rp) <| tAload 0 <| tGetR 7 18 12 <| tIload 1 <| tAld 20 <| tFn 1 F_X0_tellsMembers <| tIf (fun x => x = 0) (w_X7_findMembers_87 M G Rp) <| tAload 0 <| tIload 1 <| tPutI 7 18 9 <| tAload 0 <| tAload 0 <| tGetR 7 18 12 <| tIload 1 <| tAld 20 <| tFn 1 F_X0_cellOf <| tPutI 7 18 10 <| tAload 0 <| tAload 0 <| tGetR 7 18 12 <| tIload 1 <| tAld 20 <| tFn 1 F_X0_numberOf <| tPutI 7 18 11 <| tVret Rp
def w_X7_findMembers_0 (M : CT) (G : Nat → PT) (Rp : RT) : PT := tAload 0 <| tConst 0 <| tPutI 7 18 9 <| tAload 0 <| tAload 0 <| tGetR 7 18 16 <| tGetI 6 5 2 <| tPutI 7 18 10 <| tAload 0 <| tAload 0 <| tGetR 7 18 16 <| tGetI 6 5 3 <| tPutI 7 18 11 <| tAload 0 <| tGetI 7 18 7 <| tIstore 1 <| G 32
set_option maxRecDepth 20000 in
theorem b_X7_findMembers_93 {Z : Zt} {d : Nat} {p : Program} {e : Env} {R : Room} {s : State} {m : MethodId} {args : Array Value} {below : List Frame} {meth : Method} {c : Code} {Rp : RT} (C : Cx Z (d + 1) jX7_findMembers RX7 p R s m args meth c) : Sd Z jX7_findMembers p e R s m args below meth c (MQ below (QcS Z Rp) args s 0 0 (fun a => Z.2.2.1 < a)) 93 (w_X7_findMembers_93 (MS Z (d + 1)) (Gw Z 2 p e R s m args below meth c (MQ below (QcS Z Rp) args s 0 0 (fun a => Z.2.2.1 < a))) Rp) := by
  unfold w_X7_findMembers_93
  exact s_vret C rfl (by decide +kernel)
set_option maxRecDepth 20000 in
theorem b_X7_findMembers_87 {Z : Zt} {d : Nat} {p : Program} {e : Env} {R : Room} {s : State} {m : MethodId} {args : Array Value} {below : List Frame} {meth : Method} {c : Code} {Rp : RT} (C : Cx Z (d + 1) jX7_findMembers RX7 p R s m args meth c) : Sd Z jX7_findMembers p e R s m args below meth c (MQ below (QcS Z Rp) args s 0 0 (fun a => Z.2.2.1 < a)) 87 (w_X7_findMembers_87 (MS Z (d + 1)) (Gw Z 2 p e R s m args below meth c (MQ below (QcS Z Rp) args s 0 0 (fun a => Z.2.2.1 < a))) Rp) := by
  unfold w_X7_findMembers_87
  refine s_iinc (n := (-1)) C (by decide +kernel) (by decide) ?_
  exact s_goto (off := (-58)) (tgt := 32) C (by decide +kernel) (by decide) (fun _ _ _ _ _ _ h => h)
set_option maxRecDepth 20000 in
theorem b_X7_findMembers_32 {Z : Zt} {d : Nat} {p : Program} {e : Env} {R : Room} {s : State} {m : MethodId} {args : Array Value} {below : List Frame} {meth : Method} {c : Code} {Rp : RT} (C : Cx Z (d + 1) jX7_findMembers RX7 p R s m args meth c) : Sd Z jX7_findMembers p e R s m args below meth c (MQ below (QcS Z Rp) args s 0 0 (fun a => Z.2.2.1 < a)) 32 (w_X7_findMembers_32 (MS Z (d + 1)) (Gw Z 2 p e R s m args below meth c (MQ below (QcS Z Rp) args s 0 0 (fun a => Z.2.2.1 < a))) Rp) := by
  unfold w_X7_findMembers_32
  refine s_iload_n (k := 1) C (by decide +kernel) ?_
  refine s_aload_n (k := 0) C (by decide +kernel) ?_
  refine s_getR C w_2_32 (by decide +kernel) rfl ?_
  refine s_getI C w_1_162 (by decide +kernel) rfl ?_
  refine s_icmp_le (off := 53) (tgt := 93) C (by decide +kernel) (by decide) (b_X7_findMembers_93 C) ?_
  refine s_aload_n (k := 0) C (by decide +kernel) ?_
  refine s_getR C w_2_20 (by decide +kernel) rfl ?_
  refine s_iload_n (k := 1) C (by decide +kernel) ?_
  refine s_iald C (by decide +kernel) ?_
  refine s_fnS C (j2 := jX0_tellsMembers) (by decide +kernel) rfl w_2_99 w_2_100 w_1_9 w_2_101 (by decide +kernel) (fun _ _ _ _ _ h => f_X0_tellsMembers h) ?_
  refine s_if_eq (off := 35) (tgt := 87) C (by decide +kernel) (by decide) (b_X7_findMembers_87 C) ?_
  refine s_aload_n (k := 0) C (by decide +kernel) ?_
  refine s_iload_n (k := 1) C (by decide +kernel) ?_
  refine s_putI C w_2_10 (by decide +kernel) rfl (Or.inl rfl) ?_
  refine s_aload_n (k := 0) C (by decide +kernel) ?_
  refine s_aload_n (k := 0) C (by decide +kernel) ?_
  refine s_getR C w_2_20 (by decide +kernel) rfl ?_
  refine s_iload_n (k := 1) C (by decide +kernel) ?_
  refine s_iald C (by decide +kernel) ?_
  refine s_fnS C (j2 := jX0_cellOf) (by decide +kernel) rfl w_2_102 w_2_103 w_1_9 w_2_104 (by decide +kernel) (fun _ _ _ _ _ h => f_X0_cellOf h) ?_
  refine s_putI C w_2_13 (by decide +kernel) rfl (Or.inl rfl) ?_
  refine s_aload_n (k := 0) C (by decide +kernel) ?_
  refine s_aload_n (k := 0) C (by decide +kernel) ?_
  refine s_getR C w_2_20 (by decide +kernel) rfl ?_
  refine s_iload_n (k := 1) C (by decide +kernel) ?_
  refine s_iald C (by decide +kernel) ?_
  refine s_fnS C (j2 := jX0_numberOf) (by decide +kernel) rfl w_2_105 w_2_106 w_1_9 w_2_107 (by decide +kernel) (fun _ _ _ _ _ h => f_X0_numberOf h) ?_
  refine s_putI C w_2_17 (by decide +kernel) rfl (Or.inl rfl) ?_
  exact s_vret C rfl (by decide +kernel)
set_option maxRecDepth 20000 in
theorem b_X7_findMembers_0 {Z : Zt} {d : Nat} {p : Program} {e : Env} {R : Room} {s : State} {m : MethodId} {args : Array Value} {below : List Frame} {meth : Method} {c : Code} {Rp : RT} (C : Cx Z (d + 1) jX7_findMembers RX7 p R s m args meth c) : Sd Z jX7_findMembers p e R s m args below meth c (MQ below (QcS Z Rp) args s 0 0 (fun a => Z.2.2.1 < a)) 0 (w_X7_findMembers_0 (MS Z (d + 1)) (Gw Z 2 p e R s m args below meth c (MQ below (QcS Z Rp) args s 0 0 (fun a => Z.2.2.1 < a))) Rp) := by
  unfold w_X7_findMembers_0
  refine s_aload_n (k := 0) C (by decide +kernel) ?_
  refine s_iconst (n := 0) C (by decide +kernel) (by decide) ?_
  refine s_putI C w_2_10 (by decide +kernel) rfl (Or.inl rfl) ?_
  refine s_aload_n (k := 0) C (by decide +kernel) ?_
  refine s_aload_n (k := 0) C (by decide +kernel) ?_
  refine s_getR C w_2_32 (by decide +kernel) rfl ?_
  refine s_getI C w_1_169 (by decide +kernel) rfl ?_
  refine s_putI C w_2_13 (by decide +kernel) rfl (Or.inl rfl) ?_
  refine s_aload_n (k := 0) C (by decide +kernel) ?_
  refine s_aload_n (k := 0) C (by decide +kernel) ?_
  refine s_getR C w_2_32 (by decide +kernel) rfl ?_
  refine s_getI C w_1_172 (by decide +kernel) rfl ?_
  refine s_putI C w_2_17 (by decide +kernel) rfl (Or.inl rfl) ?_
  refine s_aload_n (k := 0) C (by decide +kernel) ?_
  refine s_getI C w_2_2 (by decide +kernel) rfl ?_
  refine s_istore_n (k := 1) C (by decide +kernel) ?_
  exact (fun _ _ _ _ _ _ h => h)
theorem ms_X7_findMembers {Z : Zt} {d : Nat} {S : Sh} {μ : Mi} {ρ : Mr} {Rp : RT} (a0 : Nat) (h : ∀ G : Nat → PT, (∀ (L st : List Value) (S : Sh) (q : Nat × Nat) (μ : Mi) (ρ : Mr), w_X7_findMembers_32 (MS Z (d + 1)) G Rp L st S q μ ρ → G 32 L st S q μ ρ) → w_X7_findMembers_0 (MS Z (d + 1)) G Rp [.ref a0, .null] [] S (0, 0) μ ρ) : MS Z (d + 2) jX7_findMembers [.ref a0] S μ ρ Rp :=
  MS_of [.ref a0, .null] (by decide +kernel) rfl rfl (Nat.le_of_ble_eq_true rfl) rfl (fun p e R s m args below meth c C => b_X7_findMembers_0 C _ _ _ _ _ _ (h _ (b_X7_findMembers_32 C)))
def F_X7_findMembers : FT := fun As S μ ρ k => match As with
  | [.ref a] => S.2 a = (7, 18) ∧ StS S ρ a ∧ rg (μ a 7) 0 120 ∧ 0 ≤ (μ (a + 5) 0).toInt ∧ k none (cSet μ a (cCfg μ a (μ a 7).toNatClampNeg))
  | _ => False
theorem r_X7_findMembers {As S μ ρ k} (h : F_X7_findMembers As S μ ρ k) : ∃ a As', As = Value.ref a :: As' ∧ S.2 a = (7, 18) := by
  unfold F_X7_findMembers at h
  split at h
  · exact ⟨_, _, rfl, h.1⟩
  · exact h.elim
set_option maxHeartbeats 1000000 in
theorem f_X7_findMembers {Z : Zt} {d : Nat} {As : List Value} {S : Sh} {μ : Mi} {ρ : Mr} {Rp : RT} (h : F_X7_findMembers As S μ ρ (fun r μ' => Rp r S μ' ρ)) : MS Z (d + 2) jX7_findMembers As S μ ρ Rp := by
  unfold F_X7_findMembers at h
  split at h
  · rename_i a
    obtain ⟨h1, h2, h4, h5, h⟩ := h
    unfold StS at h2
    obtain ⟨l, e1, e2, -, e3⟩ := rg_ex h4
    rw [e1, nI_clamp e2] at h
    refine ms_X7_findMembers _ (fun G g32 => ?_)
    have loop : ∀ p, p ≤ 120 → Rp none S (cSet μ a (cCfg μ a p)) ρ → G 32 [.ref a, .int (nI p)] [] S (0, 0) (cSet μ a (cCfg μ a 0)) ρ := by
      intro p
      induction p with
      | zero =>
        intro hp h
        apply g32
        simp only [w_X7_findMembers_32, w_X7_findMembers_93, tAload, tIload, nth, tGetI, tGetR, tConst, tLconst, tBin, tUn, tI2l, tAld, tAldR, tAlen, tIast, tBast, tZast, tAast, tIret, tZret, tVret, tAret, tIf, tIf2, tGoto, tIstore, tAstore, sset, tIinc, tDup, tDup2, tPop, tPutI, tPutZ, tPutR, tCallV, tCallS, popN, tFn, tCopy, tMax, tMin, tSw, swc, tRem, tObjI, Option.toList, List.nil_append, List.cons_append, okR, true_and, and_true, true_or, or_true, Nat.zero_le, ne_eq, not_false_eq_true, Nat.reduceEqDiff, h1, h2]
        simp (disch := omega) only [cSet_ne]
        refine ⟨fun _ => h, fun c => ?_⟩
        exact absurd (Int32.le_iff_toInt_le.mpr (show (nI 0).toInt ≤ _ from by rw [show (nI 0).toInt = 0 from rfl]; exact h5)) c
      | succ p ih =>
        intro hp h
        rw [cCfg_s] at h
        apply g32
        simp only [w_X7_findMembers_32, w_X7_findMembers_93, w_X7_findMembers_87, tAload, tIload, nth, tGetI, tGetR, tConst, tLconst, tBin, tUn, tI2l, tAld, tAldR, tAlen, tIast, tBast, tZast, tAast, tIret, tZret, tVret, tAret, tIf, tIf2, tGoto, tIstore, tAstore, sset, tIinc, tDup, tDup2, tPop, tPutI, tPutZ, tPutR, tCallV, tCallS, popN, tFn, tCopy, tMax, tMin, tSw, swc, tRem, tObjI, Option.toList, List.nil_append, List.cons_append, okR, true_and, and_true, true_or, or_true, Nat.zero_le, ne_eq, not_false_eq_true, Nat.reduceEqDiff, F_X0_tellsMembers, F_X0_cellOf, F_X0_numberOf, b2_z, h1, h2, Decidable.not_not]
        simp (disch := omega) only [cSet_ne, upI_ne, nI_clamp]
        refine ⟨fun c => ?_, fun c => ⟨inb_nI (by omega) (by decide), fun c2 => ?_, fun c2 => ⟨?_, ?_, ?_⟩⟩⟩
        · rw [if_pos c] at h; exact h
        · rw [if_neg c, if_neg (not_not_intro c2)] at h
          have := ih (by omega) h
          have e : nI (p + 1) + -1 = nI p := by rw [← nI_s1, Int32.add_assoc]; simp
          rw [e]
          exact this
        · exact inb_nI (by omega) (by decide)
        · exact inb_nI (by omega) (by decide)
        · rw [if_neg c, if_pos c2] at h
          rw [← cSet_cSet (c := cCfg μ a 0)] at h
          exact h
    simp only [w_X7_findMembers_0, tAload, tIload, nth, tGetI, tGetR, tConst, tLconst, tBin, tUn, tI2l, tAld, tAldR, tAlen, tIast, tBast, tZast, tAast, tIret, tZret, tVret, tAret, tIf, tIf2, tGoto, tIstore, tAstore, sset, tIinc, tDup, tDup2, tPop, tPutI, tPutZ, tPutR, tCallV, tCallS, popN, tFn, tCopy, tMax, tMin, tSw, swc, tRem, tObjI, Option.toList, List.nil_append, List.cons_append, okR, true_and, and_true, true_or, or_true, Nat.zero_le, ne_eq, not_false_eq_true, Nat.reduceEqDiff, h1, h2]
    simp (disch := omega) only [upI_ne, upI_k]
    rw [e1]
    exact loop l (by omega) h
  · exact h.elim
