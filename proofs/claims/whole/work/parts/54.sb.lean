/-! ===== the reference: still more that it tells; begin ===== -/
theorem RQ_3 {μ : Mi} {t : T4} : RQ μ (M3 (M6 μ) t (μ 2738)) (μ 2738) (μ 2739) (μ 2737 6) := by rw [M4_of_M3]; exact RQ_4
def vElectable (A : Rw) (s : Int32) : Int32 := if ¬ rgd s 0 4 then -2 else if qElect A s.toNatClampNeg (qUps A) then 1 else 0
def w_X12_electable_32 (M : CT) (G : Nat → PT) (Rp : RT) : PT := tIret Rp
def w_X12_electable_31 (M : CT) (G : Nat → PT) (Rp : RT) : PT := tConst 0 <| w_X12_electable_32 M G Rp
def w_X12_electable_15 (M : CT) (G : Nat → PT) (Rp : RT) : PT := tAload 0 <| tIload 1 <| tAload 0 <| tFn 1 F_X12_upOnes <| tFn 3 F_X12_isElectable <| tIf (fun x => x = 0) (w_X12_electable_31 M G Rp) <| tConst 1 <| tGoto (w_X12_electable_32 M G Rp)
def w_X12_electable_0 (M : CT) (G : Nat → PT) (Rp : RT) : PT := tAload 0 <| tConst 0 <| tPutI 12 27 0 <| tIload 1 <| tFn 1 F_X12_isStore <| tIf (fun x => x ≠ 0) (w_X12_electable_15 M G Rp) <| tConst (-2) <| tIret Rp
set_option maxRecDepth 20000 in
theorem b_X12_electable_32 {Z : Zt} {d : Nat} {p : Program} {e : Env} {R : Room} {s : State} {m : MethodId} {args : Array Value} {below : List Frame} {meth : Method} {c : Code} {Rp : RT} (C : Cx Z (d + 6) jX12_electable RX12 p R s m args meth c) : Sd Z jX12_electable p e R s m args below meth c (MQ below (QcS Z Rp) args s 0 0 (fun a => Z.2.2.1 < a)) 32 (w_X12_electable_32 (MS Z (d + 6)) (Gw Z 2 p e R s m args below meth c (MQ below (QcS Z Rp) args s 0 0 (fun a => Z.2.2.1 < a))) Rp) := by
  unfold w_X12_electable_32
  exact s_iret C rfl (by decide +kernel)
set_option maxRecDepth 20000 in
theorem b_X12_electable_31 {Z : Zt} {d : Nat} {p : Program} {e : Env} {R : Room} {s : State} {m : MethodId} {args : Array Value} {below : List Frame} {meth : Method} {c : Code} {Rp : RT} (C : Cx Z (d + 6) jX12_electable RX12 p R s m args meth c) : Sd Z jX12_electable p e R s m args below meth c (MQ below (QcS Z Rp) args s 0 0 (fun a => Z.2.2.1 < a)) 31 (w_X12_electable_31 (MS Z (d + 6)) (Gw Z 2 p e R s m args below meth c (MQ below (QcS Z Rp) args s 0 0 (fun a => Z.2.2.1 < a))) Rp) := by
  unfold w_X12_electable_31
  refine s_iconst (n := 0) C (by decide +kernel) (by decide) ?_
  exact (b_X12_electable_32 C)
set_option maxRecDepth 20000 in
theorem b_X12_electable_15 {Z : Zt} {d : Nat} {p : Program} {e : Env} {R : Room} {s : State} {m : MethodId} {args : Array Value} {below : List Frame} {meth : Method} {c : Code} {Rp : RT} (C : Cx Z (d + 6) jX12_electable RX12 p R s m args meth c) : Sd Z jX12_electable p e R s m args below meth c (MQ below (QcS Z Rp) args s 0 0 (fun a => Z.2.2.1 < a)) 15 (w_X12_electable_15 (MS Z (d + 6)) (Gw Z 2 p e R s m args below meth c (MQ below (QcS Z Rp) args s 0 0 (fun a => Z.2.2.1 < a))) Rp) := by
  unfold w_X12_electable_15
  refine s_aload_n (k := 0) C (by decide +kernel) ?_
  refine s_iload_n (k := 1) C (by decide +kernel) ?_
  refine s_aload_n (k := 0) C (by decide +kernel) ?_
  refine s_fnV C (j2 := jX12_upOnes) (cl := 12) (nf := 27) rfl rfl (by decide +kernel) rfl w_8_152 w_8_154 w_p8_0 w_1_13 w_8_155 (by decide +kernel) (fun _ _ _ _ _ h => f_X12_upOnes h) (fun _ _ _ _ _ h => r_X12_upOnes h) ?_
  refine s_fnV C (j2 := jX12_isElectable) (cl := 12) (nf := 27) rfl rfl (by decide +kernel) rfl w_8_156 w_8_158 w_p8_1 w_1_13 w_8_159 (by decide +kernel) (fun _ _ _ _ _ h => f_X12_isElectable h) (fun _ _ _ _ _ h => r_X12_isElectable h) ?_
  refine s_if_eq (off := 7) (tgt := 31) C (by decide +kernel) (by decide) (b_X12_electable_31 C) ?_
  refine s_iconst (n := 1) C (by decide +kernel) (by decide) ?_
  exact s_goto (off := 4) (tgt := 32) C (by decide +kernel) (by decide) (b_X12_electable_32 C)
set_option maxRecDepth 20000 in
theorem b_X12_electable_0 {Z : Zt} {d : Nat} {p : Program} {e : Env} {R : Room} {s : State} {m : MethodId} {args : Array Value} {below : List Frame} {meth : Method} {c : Code} {Rp : RT} (C : Cx Z (d + 6) jX12_electable RX12 p R s m args meth c) : Sd Z jX12_electable p e R s m args below meth c (MQ below (QcS Z Rp) args s 0 0 (fun a => Z.2.2.1 < a)) 0 (w_X12_electable_0 (MS Z (d + 6)) (Gw Z 2 p e R s m args below meth c (MQ below (QcS Z Rp) args s 0 0 (fun a => Z.2.2.1 < a))) Rp) := by
  unfold w_X12_electable_0
  refine s_aload_n (k := 0) C (by decide +kernel) ?_
  refine s_iconst (n := 0) C (by decide +kernel) (by decide) ?_
  refine s_putI C w_6_87 (by decide +kernel) rfl (Or.inl rfl) ?_
  refine s_iload_n (k := 1) C (by decide +kernel) ?_
  refine s_fnS C (j2 := jX12_isStore) (by decide +kernel) rfl w_6_208 w_6_209 w_1_13 w_6_210 (by decide +kernel) (fun _ _ _ _ _ h => f_X12_isStore h) ?_
  refine s_if_ne (off := 6) (tgt := 15) C (by decide +kernel) (by decide) (b_X12_electable_15 C) ?_
  refine s_bipush (n := (-2)) C (by decide +kernel) (by decide) ?_
  exact s_iret C rfl (by decide +kernel)
theorem ms_X12_electable {Z : Zt} {d : Nat} {S : Sh} {μ : Mi} {ρ : Mr} {Rp : RT} (a0 : Nat) (x1 : Int32) (h : ∀ G : Nat → PT, w_X12_electable_0 (MS Z (d + 6)) G Rp [.ref a0, .int x1] [] S (0, 0) μ ρ) : MS Z (d + 7) jX12_electable [.ref a0, .int x1] S μ ρ Rp :=
  MS_of [.ref a0, .int x1] (by decide +kernel) rfl rfl (Nat.le_of_ble_eq_true rfl) rfl (fun p e R s m args below meth c C => b_X12_electable_0 C _ _ _ _ _ _ (h _ ))
def F_X12_electable : FT := fun As S μ ρ k => match As with
  | [.ref a, .int s] => a = 2737 ∧ RS S ρ ∧ good (μ 2738) ∧ ∀ μ', RQ μ μ' (μ 2738) (μ 2739) (μ 2737 6) → k (some (.int (vElectable (μ 2738) s))) μ'
  | _ => False
theorem r_X12_electable {As S μ ρ k} (h : F_X12_electable As S μ ρ k) : ∃ a As', As = Value.ref a :: As' ∧ S.2 a = (12, 27) := by
  unfold F_X12_electable at h
  split at h
  · exact ⟨_, _, rfl, by rw [h.1]; exact h.2.1.1⟩
  · exact h.elim
set_option maxHeartbeats 1000000 in
theorem f_X12_electable {Z : Zt} {d : Nat} {As : List Value} {S : Sh} {μ : Mi} {ρ : Mr} {Rp : RT} (h : F_X12_electable As S μ ρ (fun r μ' => Rp r S μ' ρ)) : MS Z (d + 7) jX12_electable As S μ ρ Rp := by
  unfold F_X12_electable at h
  split at h
  · rename_i a s
    obtain ⟨rfl, hS, h⟩ := h
    have hS0 := hS
    unfold RS at hS
    obtain ⟨hg, h⟩ := h
    unfold vElectable at h
    refine ms_X12_electable _ _ (fun G => ?_)
    simp only [w_X12_electable_0, w_X12_electable_15, w_X12_electable_31, w_X12_electable_32, tAload, tIload, nth, tGetI, tGetR, tConst, tLconst, tBin, tUn, tI2l, tAld, tAldR, tAlen, tIast, tBast, tZast, tAast, tIret, tZret, tVret, tAret, tIf, tIf2, tGoto, tIstore, tAstore, sset, tIinc, tDup, tDup2, tPop, tPutI, tPutZ, tPutR, tCallV, tCallS, popN, tFn, tCopy, tMax, tMin, tSw, swc, tRem, tObjI, Option.toList, List.nil_append, List.cons_append, okR, true_and, and_true, true_or, or_true, Nat.zero_le, ne_eq, not_false_eq_true, Nat.reduceEqDiff, F_X12_isStore, F_X12_upOnes, F_X12_isElectable, hS0, hS, e6, M6_row, b2_z, Decidable.not_not]
    refine ⟨fun c => ⟨c, good_all hg, fun t => ⟨fun c2 => ?_, fun c2 => ?_⟩⟩, fun c => ?_⟩
    · have := h _ (RQ_3 (t := t))
      rw [if_neg (not_not_intro c), if_neg c2] at this; exact this
    · have := h _ (RQ_3 (t := t))
      rw [if_neg (not_not_intro c), if_pos c2] at this; exact this
    · have := h _ RQ_0
      rw [if_pos c] at this; exact this
  · exact h.elim
abbrev holds1 (A : Rw) (p : Nat) (tm : Int32) (o : Nat) : Prop := if ¬ A (514 * o + 5) < nI p then A (3826 + 4 * p) = tm else ((A (514 * o + 5)).toInt < (nI p).toInt ∧ (nI p).toInt ≤ (A (514 * o + 4)).toInt) ∧ A (514 * o + 30 + 4 * p) = tm
def ho1 (A : Rw) (p : Nat) (tm : Int32) (o : Nat) (acc : Int32) : Int32 := acc ||| (if holds1 A p tm o then (1 : Int32) <<< (nI o &&& 31) else 0)
def qHolders (A : Rw) (s p : Nat) : Int32 := ho1 A p (A (514 * s + 30 + 4 * p)) 4 (ho1 A p (A (514 * s + 30 + 4 * p)) 3 (ho1 A p (A (514 * s + 30 + 4 * p)) 2 (ho1 A p (A (514 * s + 30 + 4 * p)) 1 (ho1 A p (A (514 * s + 30 + 4 * p)) 0 0))))
def w_X12_holdersOf_110 (M : CT) (G : Nat → PT) (Rp : RT) : PT := tIload 4 <| tIret Rp
def w_X12_holdersOf_101 (M : CT) (G : Nat → PT) (Rp : RT) : PT := tBin (fun x y => x ||| y) <| tIstore 4 <| tIinc 5 1 <| tGoto (G 14)
def w_X12_holdersOf_100 (M : CT) (G : Nat → PT) (Rp : RT) : PT := tConst 0 <| w_X12_holdersOf_101 M G Rp
def w_X12_holdersOf_84 (M : CT) (G : Nat → PT) (Rp : RT) : PT := tIstore 6 <| tIload 4 <| tIload 6 <| tIf (fun x => x = 0) (w_X12_holdersOf_100 M G Rp) <| tConst 1 <| tIload 5 <| tBin (fun x y => x <<< (y &&& 31)) <| tGoto (w_X12_holdersOf_101 M G Rp)
def w_X12_holdersOf_83 (M : CT) (G : Nat → PT) (Rp : RT) : PT := tConst 0 <| w_X12_holdersOf_84 M G Rp
def w_X12_holdersOf_57 (M : CT) (G : Nat → PT) (Rp : RT) : PT := tAload 0 <| tIload 5 <| tIload 2 <| tFn 3 F_X12_isInLog <| tIf (fun x => x = 0) (w_X12_holdersOf_83 M G Rp) <| tAload 0 <| tIload 5 <| tIload 2 <| tConst 0 <| tFn 4 F_X12_ofEntry <| tIload 3 <| tIf2 (fun x y => x ≠ y) (w_X12_holdersOf_83 M G Rp) <| tConst 1 <| tGoto (w_X12_holdersOf_84 M G Rp)
def w_X12_holdersOf_53 (M : CT) (G : Nat → PT) (Rp : RT) : PT := tConst 0 <| tGoto (w_X12_holdersOf_84 M G Rp)
def w_X12_holdersOf_14 (M : CT) (G : Nat → PT) (Rp : RT) : PT := tIload 5 <| tConst 5 <| tIf2 (fun x y => y ≤ x) (w_X12_holdersOf_110 M G Rp) <| tIload 2 <| tAload 0 <| tIload 5 <| tConst 5 <| tFn 3 F_X12_of <| tIf2 (fun x y => y < x) (w_X12_holdersOf_57 M G Rp) <| tAload 0 <| tGetR 12 27 1 <| tConst 3830 <| tConst 4 <| tIload 2 <| tConst 1 <| tBin (fun x y => x - y) <| tBin (fun x y => x * y) <| tBin (fun x y => x + y) <| tAld 20 <| tIload 3 <| tIf2 (fun x y => x ≠ y) (w_X12_holdersOf_53 M G Rp) <| tConst 1 <| tGoto (w_X12_holdersOf_84 M G Rp)
def w_X12_holdersOf_0 (M : CT) (G : Nat → PT) (Rp : RT) : PT := tAload 0 <| tIload 1 <| tIload 2 <| tConst 0 <| tFn 4 F_X12_ofEntry <| tIstore 3 <| tConst 0 <| tIstore 4 <| tConst 0 <| tIstore 5 <| G 14
set_option maxRecDepth 20000 in
theorem b_X12_holdersOf_110 {Z : Zt} {d : Nat} {p : Program} {e : Env} {R : Room} {s : State} {m : MethodId} {args : Array Value} {below : List Frame} {meth : Method} {c : Code} {Rp : RT} (C : Cx Z (d + 2) jX12_holdersOf RX12 p R s m args meth c) : Sd Z jX12_holdersOf p e R s m args below meth c (MQ below (QcS Z Rp) args s 0 0 (fun a => Z.2.2.1 < a)) 110 (w_X12_holdersOf_110 (MS Z (d + 2)) (Gw Z 7 p e R s m args below meth c (MQ below (QcS Z Rp) args s 0 0 (fun a => Z.2.2.1 < a))) Rp) := by
  unfold w_X12_holdersOf_110
  refine s_iload (k := 4) C (by decide +kernel) ?_
  exact s_iret C rfl (by decide +kernel)
set_option maxRecDepth 20000 in
theorem b_X12_holdersOf_101 {Z : Zt} {d : Nat} {p : Program} {e : Env} {R : Room} {s : State} {m : MethodId} {args : Array Value} {below : List Frame} {meth : Method} {c : Code} {Rp : RT} (C : Cx Z (d + 2) jX12_holdersOf RX12 p R s m args meth c) : Sd Z jX12_holdersOf p e R s m args below meth c (MQ below (QcS Z Rp) args s 0 0 (fun a => Z.2.2.1 < a)) 101 (w_X12_holdersOf_101 (MS Z (d + 2)) (Gw Z 7 p e R s m args below meth c (MQ below (QcS Z Rp) args s 0 0 (fun a => Z.2.2.1 < a))) Rp) := by
  unfold w_X12_holdersOf_101
  refine s_ior C (by decide +kernel) ?_
  refine s_istore (k := 4) C (by decide +kernel) ?_
  refine s_iinc (n := 1) C (by decide +kernel) (by decide) ?_
  exact s_goto (off := (-93)) (tgt := 14) C (by decide +kernel) (by decide) (fun _ _ _ _ _ _ h => h)
set_option maxRecDepth 20000 in
theorem b_X12_holdersOf_100 {Z : Zt} {d : Nat} {p : Program} {e : Env} {R : Room} {s : State} {m : MethodId} {args : Array Value} {below : List Frame} {meth : Method} {c : Code} {Rp : RT} (C : Cx Z (d + 2) jX12_holdersOf RX12 p R s m args meth c) : Sd Z jX12_holdersOf p e R s m args below meth c (MQ below (QcS Z Rp) args s 0 0 (fun a => Z.2.2.1 < a)) 100 (w_X12_holdersOf_100 (MS Z (d + 2)) (Gw Z 7 p e R s m args below meth c (MQ below (QcS Z Rp) args s 0 0 (fun a => Z.2.2.1 < a))) Rp) := by
  unfold w_X12_holdersOf_100
  refine s_iconst (n := 0) C (by decide +kernel) (by decide) ?_
  exact (b_X12_holdersOf_101 C)
set_option maxRecDepth 20000 in
theorem b_X12_holdersOf_84 {Z : Zt} {d : Nat} {p : Program} {e : Env} {R : Room} {s : State} {m : MethodId} {args : Array Value} {below : List Frame} {meth : Method} {c : Code} {Rp : RT} (C : Cx Z (d + 2) jX12_holdersOf RX12 p R s m args meth c) : Sd Z jX12_holdersOf p e R s m args below meth c (MQ below (QcS Z Rp) args s 0 0 (fun a => Z.2.2.1 < a)) 84 (w_X12_holdersOf_84 (MS Z (d + 2)) (Gw Z 7 p e R s m args below meth c (MQ below (QcS Z Rp) args s 0 0 (fun a => Z.2.2.1 < a))) Rp) := by
  unfold w_X12_holdersOf_84
  refine s_istore (k := 6) C (by decide +kernel) ?_
  refine s_iload (k := 4) C (by decide +kernel) ?_
  refine s_iload (k := 6) C (by decide +kernel) ?_
  refine s_if_eq (off := 10) (tgt := 100) C (by decide +kernel) (by decide) (b_X12_holdersOf_100 C) ?_
  refine s_iconst (n := 1) C (by decide +kernel) (by decide) ?_
  refine s_iload (k := 5) C (by decide +kernel) ?_
  refine s_ishl C (by decide +kernel) ?_
  exact s_goto (off := 4) (tgt := 101) C (by decide +kernel) (by decide) (b_X12_holdersOf_101 C)
set_option maxRecDepth 20000 in
theorem b_X12_holdersOf_83 {Z : Zt} {d : Nat} {p : Program} {e : Env} {R : Room} {s : State} {m : MethodId} {args : Array Value} {below : List Frame} {meth : Method} {c : Code} {Rp : RT} (C : Cx Z (d + 2) jX12_holdersOf RX12 p R s m args meth c) : Sd Z jX12_holdersOf p e R s m args below meth c (MQ below (QcS Z Rp) args s 0 0 (fun a => Z.2.2.1 < a)) 83 (w_X12_holdersOf_83 (MS Z (d + 2)) (Gw Z 7 p e R s m args below meth c (MQ below (QcS Z Rp) args s 0 0 (fun a => Z.2.2.1 < a))) Rp) := by
  unfold w_X12_holdersOf_83
  refine s_iconst (n := 0) C (by decide +kernel) (by decide) ?_
  exact (b_X12_holdersOf_84 C)
set_option maxRecDepth 20000 in
theorem b_X12_holdersOf_57 {Z : Zt} {d : Nat} {p : Program} {e : Env} {R : Room} {s : State} {m : MethodId} {args : Array Value} {below : List Frame} {meth : Method} {c : Code} {Rp : RT} (C : Cx Z (d + 2) jX12_holdersOf RX12 p R s m args meth c) : Sd Z jX12_holdersOf p e R s m args below meth c (MQ below (QcS Z Rp) args s 0 0 (fun a => Z.2.2.1 < a)) 57 (w_X12_holdersOf_57 (MS Z (d + 2)) (Gw Z 7 p e R s m args below meth c (MQ below (QcS Z Rp) args s 0 0 (fun a => Z.2.2.1 < a))) Rp) := by
  unfold w_X12_holdersOf_57
  refine s_aload_n (k := 0) C (by decide +kernel) ?_
  refine s_iload (k := 5) C (by decide +kernel) ?_
  refine s_iload_n (k := 2) C (by decide +kernel) ?_
  refine s_fnV C (j2 := jX12_isInLog) (cl := 12) (nf := 27) rfl rfl (by decide +kernel) rfl w_8_111 w_8_113 w_p7_13 w_1_13 w_8_114 (by decide +kernel) (fun _ _ _ _ _ h => f_X12_isInLog h) (fun _ _ _ _ _ h => r_X12_isInLog h) ?_
  refine s_if_eq (off := 19) (tgt := 83) C (by decide +kernel) (by decide) (b_X12_holdersOf_83 C) ?_
  refine s_aload_n (k := 0) C (by decide +kernel) ?_
  refine s_iload (k := 5) C (by decide +kernel) ?_
  refine s_iload_n (k := 2) C (by decide +kernel) ?_
  refine s_iconst (n := 0) C (by decide +kernel) (by decide) ?_
  refine s_fnV C (j2 := jX12_ofEntry) (cl := 12) (nf := 27) rfl rfl (by decide +kernel) rfl w_6_228 w_6_230 w_p3_13 w_1_13 w_6_231 (by decide +kernel) (fun _ _ _ _ _ h => f_X12_ofEntry h) (fun _ _ _ _ _ h => r_X12_ofEntry h) ?_
  refine s_iload_n (k := 3) C (by decide +kernel) ?_
  refine s_icmp_ne (off := 7) (tgt := 83) C (by decide +kernel) (by decide) (b_X12_holdersOf_83 C) ?_
  refine s_iconst (n := 1) C (by decide +kernel) (by decide) ?_
  exact s_goto (off := 4) (tgt := 84) C (by decide +kernel) (by decide) (b_X12_holdersOf_84 C)
set_option maxRecDepth 20000 in
theorem b_X12_holdersOf_53 {Z : Zt} {d : Nat} {p : Program} {e : Env} {R : Room} {s : State} {m : MethodId} {args : Array Value} {below : List Frame} {meth : Method} {c : Code} {Rp : RT} (C : Cx Z (d + 2) jX12_holdersOf RX12 p R s m args meth c) : Sd Z jX12_holdersOf p e R s m args below meth c (MQ below (QcS Z Rp) args s 0 0 (fun a => Z.2.2.1 < a)) 53 (w_X12_holdersOf_53 (MS Z (d + 2)) (Gw Z 7 p e R s m args below meth c (MQ below (QcS Z Rp) args s 0 0 (fun a => Z.2.2.1 < a))) Rp) := by
  unfold w_X12_holdersOf_53
  refine s_iconst (n := 0) C (by decide +kernel) (by decide) ?_
  exact s_goto (off := 30) (tgt := 84) C (by decide +kernel) (by decide) (b_X12_holdersOf_84 C)
set_option maxRecDepth 20000 in
theorem b_X12_holdersOf_14 {Z : Zt} {d : Nat} {p : Program} {e : Env} {R : Room} {s : State} {m : MethodId} {args : Array Value} {below : List Frame} {meth : Method} {c : Code} {Rp : RT} (C : Cx Z (d + 2) jX12_holdersOf RX12 p R s m args meth c) : Sd Z jX12_holdersOf p e R s m args below meth c (MQ below (QcS Z Rp) args s 0 0 (fun a => Z.2.2.1 < a)) 14 (w_X12_holdersOf_14 (MS Z (d + 2)) (Gw Z 7 p e R s m args below meth c (MQ below (QcS Z Rp) args s 0 0 (fun a => Z.2.2.1 < a))) Rp) := by
  unfold w_X12_holdersOf_14
  refine s_iload (k := 5) C (by decide +kernel) ?_
  refine s_iconst (n := 5) C (by decide +kernel) (by decide) ?_
  refine s_icmp_ge (off := 93) (tgt := 110) C (by decide +kernel) (by decide) (b_X12_holdersOf_110 C) ?_
  refine s_iload_n (k := 2) C (by decide +kernel) ?_
  refine s_aload_n (k := 0) C (by decide +kernel) ?_
  refine s_iload (k := 5) C (by decide +kernel) ?_
  refine s_iconst (n := 5) C (by decide +kernel) (by decide) ?_
  refine s_fnV C (j2 := jX12_of) (cl := 12) (nf := 27) rfl rfl (by decide +kernel) rfl w_6_220 w_6_222 w_p3_11 w_1_13 w_6_223 (by decide +kernel) (fun _ _ _ _ _ h => f_X12_of h) (fun _ _ _ _ _ h => r_X12_of h) ?_
  refine s_icmp_gt (off := 29) (tgt := 57) C (by decide +kernel) (by decide) (b_X12_holdersOf_57 C) ?_
  refine s_aload_n (k := 0) C (by decide +kernel) ?_
  refine s_getR C w_6_88 (by decide +kernel) rfl ?_
  refine s_sipush (n := 3830) C (by decide +kernel) (by decide) ?_
  refine s_iconst (n := 4) C (by decide +kernel) (by decide) ?_
  refine s_iload_n (k := 2) C (by decide +kernel) ?_
  refine s_iconst (n := 1) C (by decide +kernel) (by decide) ?_
  refine s_isub C (by decide +kernel) ?_
  refine s_imul C (by decide +kernel) ?_
  refine s_iadd C (by decide +kernel) ?_
  refine s_iald C (by decide +kernel) ?_
  refine s_iload_n (k := 3) C (by decide +kernel) ?_
  refine s_icmp_ne (off := 7) (tgt := 53) C (by decide +kernel) (by decide) (b_X12_holdersOf_53 C) ?_
  refine s_iconst (n := 1) C (by decide +kernel) (by decide) ?_
  exact s_goto (off := 34) (tgt := 84) C (by decide +kernel) (by decide) (b_X12_holdersOf_84 C)
set_option maxRecDepth 20000 in
theorem b_X12_holdersOf_0 {Z : Zt} {d : Nat} {p : Program} {e : Env} {R : Room} {s : State} {m : MethodId} {args : Array Value} {below : List Frame} {meth : Method} {c : Code} {Rp : RT} (C : Cx Z (d + 2) jX12_holdersOf RX12 p R s m args meth c) : Sd Z jX12_holdersOf p e R s m args below meth c (MQ below (QcS Z Rp) args s 0 0 (fun a => Z.2.2.1 < a)) 0 (w_X12_holdersOf_0 (MS Z (d + 2)) (Gw Z 7 p e R s m args below meth c (MQ below (QcS Z Rp) args s 0 0 (fun a => Z.2.2.1 < a))) Rp) := by
  unfold w_X12_holdersOf_0
  refine s_aload_n (k := 0) C (by decide +kernel) ?_
  refine s_iload_n (k := 1) C (by decide +kernel) ?_
  refine s_iload_n (k := 2) C (by decide +kernel) ?_
  refine s_iconst (n := 0) C (by decide +kernel) (by decide) ?_
  refine s_fnV C (j2 := jX12_ofEntry) (cl := 12) (nf := 27) rfl rfl (by decide +kernel) rfl w_6_228 w_6_230 w_p3_13 w_1_13 w_6_231 (by decide +kernel) (fun _ _ _ _ _ h => f_X12_ofEntry h) (fun _ _ _ _ _ h => r_X12_ofEntry h) ?_
  refine s_istore_n (k := 3) C (by decide +kernel) ?_
  refine s_iconst (n := 0) C (by decide +kernel) (by decide) ?_
  refine s_istore (k := 4) C (by decide +kernel) ?_
  refine s_iconst (n := 0) C (by decide +kernel) (by decide) ?_
  refine s_istore (k := 5) C (by decide +kernel) ?_
  exact (fun _ _ _ _ _ _ h => h)
theorem ms_X12_holdersOf {Z : Zt} {d : Nat} {S : Sh} {μ : Mi} {ρ : Mr} {Rp : RT} (a0 : Nat) (x1 : Int32) (x2 : Int32) (h : ∀ G : Nat → PT, (∀ (L st : List Value) (S : Sh) (q : Nat × Nat) (μ : Mi) (ρ : Mr), w_X12_holdersOf_14 (MS Z (d + 2)) G Rp L st S q μ ρ → G 14 L st S q μ ρ) → w_X12_holdersOf_0 (MS Z (d + 2)) G Rp [.ref a0, .int x1, .int x2, .null, .null, .null, .null] [] S (0, 0) μ ρ) : MS Z (d + 3) jX12_holdersOf [.ref a0, .int x1, .int x2] S μ ρ Rp :=
  MS_of [.ref a0, .int x1, .int x2, .null, .null, .null, .null] (by decide +kernel) rfl rfl (Nat.le_of_ble_eq_true rfl) rfl (fun p e R s m args below meth c C => b_X12_holdersOf_0 C _ _ _ _ _ _ (h _ (b_X12_holdersOf_14 C)))
def F_X12_holdersOf : FT := fun As S μ ρ k => match As with
  | [.ref a, .int s, .int p] => a = 2737 ∧ RS S ρ ∧ rg s 0 4 ∧ rg p 1 120 ∧ (∀ s, s < 5 → bsOK (μ 2738) s) ∧ k (some (.int (qHolders (μ 2738) s.toNatClampNeg p.toNatClampNeg))) μ
  | _ => False
theorem r_X12_holdersOf {As S μ ρ k} (h : F_X12_holdersOf As S μ ρ k) : ∃ a As', As = Value.ref a :: As' ∧ S.2 a = (12, 27) := by
  unfold F_X12_holdersOf at h
  split at h
  · exact ⟨_, _, rfl, by rw [h.1]; exact h.2.1.1⟩
  · exact h.elim
set_option maxHeartbeats 1000000 in
theorem f_X12_holdersOf {Z : Zt} {d : Nat} {As : List Value} {S : Sh} {μ : Mi} {ρ : Mr} {Rp : RT} (h : F_X12_holdersOf As S μ ρ (fun r μ' => Rp r S μ' ρ)) : MS Z (d + 3) jX12_holdersOf As S μ ρ Rp := by
  unfold F_X12_holdersOf at h
  split at h
  · rename_i a s p
    obtain ⟨rfl, hS, h⟩ := h
    have hS0 := hS
    unfold RS at hS
    obtain ⟨h1, hp, h2, h⟩ := h
    obtain ⟨s, rfl, hs0, -, hs⟩ := rg_ex h1
    obtain ⟨p, rfl, hp0, hp1, hp2⟩ := rg_ex hp
    have hrs := rg_T (lo := 0) (hi := 4) (n := s) (by omega) (by omega) hs0
    have hrp := rg_T (lo := 1) (hi := 120) (n := p) (by omega) (by omega) hp0
    have hr0 : rg 0 0 3 = True := eq_true ⟨by decide, by decide⟩
    simp (disch := omega) only [nI_clamp] at h
    refine ms_X12_holdersOf _ _ _ (fun G g14 => ?_)
    simp only [w_X12_holdersOf_0, tAload, tIload, nth, tGetI, tGetR, tConst, tLconst, tBin, tUn, tI2l, tAld, tAldR, tAlen, tIast, tBast, tZast, tAast, tIret, tZret, tVret, tAret, tIf, tIf2, tGoto, tIstore, tAstore, sset, tIinc, tDup, tDup2, tPop, tPutI, tPutZ, tPutR, tCallV, tCallS, popN, tFn, tCopy, tMax, tMin, tSw, swc, tRem, tObjI, Option.toList, List.nil_append, List.cons_append, okR, true_and, and_true, true_or, or_true, Nat.zero_le, ne_eq, not_false_eq_true, Nat.reduceEqDiff, F_X12_ofEntry, hS0, hrs, hrp, hr0, cl_0, Nat.add_zero]
    simp (disch := omega) only [nI_clamp]
    generalize htm : μ 2738 (514 * s + 30 + 4 * p) = tm at *
    have e1 : (3830 : Int32) + 4 * (nI p - 1) = nI (3826 + 4 * p) := by
      rw [show (1 : Int32) = nI 1 from rfl, pk_sub (by omega), show (4 : Int32) = nI 4 from rfl, pk_mul, nad' 3830 3830 rfl, show 3830 + 4 * (p - 1) = 3826 + 4 * p by omega]
    have step : ∀ (o : Nat) (acc : Int32) (v : Value), o < 5 → (∀ v, G 14 [.ref 2737, .int (nI s), .int (nI p), .int tm, .int (ho1 (μ 2738) p tm o acc), .int (nI (o + 1)), v] [] S (0, 0) μ ρ) → G 14 [.ref 2737, .int (nI s), .int (nI p), .int tm, .int acc, .int (nI o), v] [] S (0, 0) μ ρ := by
      intro o acc v ho hG
      have hro := rg_T (lo := 0) (hi := 4) (n := o) (by omega) (by omega) (by omega)
      have ko := h2 o ho
      have i5 : (514 : Int32) * nI o + 5 = nI (514 * o + 5) := ixs 5 5 rfl
      have b5 : inb (nI (514 * o + 5)) 13548 := inb_nI (by omega) (by decide)
      refine g14 _ _ _ _ _ _ ?_
      unfold ho1 at hG
      have yes : holds1 (μ 2738) p tm o → ∀ v, w_X12_holdersOf_84 (MS Z (d + 2)) G Rp [.ref 2737, .int (nI s), .int (nI p), .int tm, .int acc, .int (nI o), v] [.int 1] S (0, 0) μ ρ := by
        intro c v
        simp only [w_X12_holdersOf_84, w_X12_holdersOf_100, w_X12_holdersOf_101, tAload, tIload, nth, tGetI, tGetR, tConst, tLconst, tBin, tUn, tI2l, tAld, tAldR, tAlen, tIast, tBast, tZast, tAast, tIret, tZret, tVret, tAret, tIf, tIf2, tGoto, tIstore, tAstore, sset, tIinc, tDup, tDup2, tPop, tPutI, tPutZ, tPutR, tCallV, tCallS, popN, tFn, tCopy, tMax, tMin, tSw, swc, tRem, tObjI, Option.toList, List.nil_append, List.cons_append, okR, true_and, and_true, true_or, or_true, Nat.zero_le, ne_eq, not_false_eq_true, Nat.reduceEqDiff, nI_1]
        rw [if_pos c] at hG
        exact ⟨fun z => absurd z (by decide), fun _ => hG _⟩
      have no : ¬ holds1 (μ 2738) p tm o → ∀ v, w_X12_holdersOf_84 (MS Z (d + 2)) G Rp [.ref 2737, .int (nI s), .int (nI p), .int tm, .int acc, .int (nI o), v] [.int 0] S (0, 0) μ ρ := by
        intro c v
        simp only [w_X12_holdersOf_84, w_X12_holdersOf_100, w_X12_holdersOf_101, tAload, tIload, nth, tGetI, tGetR, tConst, tLconst, tBin, tUn, tI2l, tAld, tAldR, tAlen, tIast, tBast, tZast, tAast, tIret, tZret, tVret, tAret, tIf, tIf2, tGoto, tIstore, tAstore, sset, tIinc, tDup, tDup2, tPop, tPutI, tPutZ, tPutR, tCallV, tCallS, popN, tFn, tCopy, tMax, tMin, tSw, swc, tRem, tObjI, Option.toList, List.nil_append, List.cons_append, okR, true_and, and_true, true_or, or_true, Nat.zero_le, ne_eq, not_false_eq_true, Nat.reduceEqDiff, nI_1]
        rw [if_neg c] at hG
        exact ⟨fun _ => hG _, fun z => absurd trivial z⟩
      simp only [w_X12_holdersOf_14, w_X12_holdersOf_53, w_X12_holdersOf_57, w_X12_holdersOf_83, tAload, tIload, nth, tGetI, tGetR, tConst, tLconst, tBin, tUn, tI2l, tAld, tAldR, tAlen, tIast, tBast, tZast, tAast, tIret, tZret, tVret, tAret, tIf, tIf2, tGoto, tIstore, tAstore, sset, tIinc, tDup, tDup2, tPop, tPutI, tPutZ, tPutR, tCallV, tCallS, popN, tFn, tCopy, tMax, tMin, tSw, swc, tRem, tObjI, Option.toList, List.nil_append, List.cons_append, okR, true_and, and_true, true_or, or_true, Nat.zero_le, ne_eq, not_false_eq_true, Nat.reduceEqDiff, F_X12_of, F_X12_isInLog, F_X12_ofEntry, hS0, hS, hro, hrp, hr0, i5, b5, e1, cl_0, Nat.add_zero, b2_z, Decidable.not_not]
      simp (disch := omega) only [nI_clamp, nI_inb]
      refine ⟨fun z => absurd z (lt5' o ho), fun _ => ⟨fun c => ⟨ko.2.2, fun c2 => no ?_ _, fun c2 => ⟨fun c3 => no ?_ _, fun c3 => yes ?_ _⟩⟩, fun c => ⟨by omega, fun c2 => no ?_ _, fun c2 => yes ?_ _⟩⟩⟩
      · show ¬ (if _ then _ else _)
        rw [if_neg (not_not_intro c)]
        exact fun z => c2 z.1
      · show ¬ (if _ then _ else _)
        rw [if_neg (not_not_intro c)]
        exact fun z => c3 z.2
      · show (if _ then _ else _)
        rw [if_neg (not_not_intro c)]
        exact ⟨c2, c3⟩
      · show ¬ (if _ then _ else _)
        rw [if_pos c]
        exact c2
      · show (if _ then _ else _)
        rw [if_pos c]
        exact c2
    refine step 0 _ _ (by decide) (fun _ => step 1 _ _ (by decide) (fun _ => step 2 _ _ (by decide) (fun _ => step 3 _ _ (by decide) (fun _ => step 4 _ _ (by decide) (fun _ => ?_)))))
    refine g14 _ _ _ _ _ _ ?_
    unfold qHolders at h
    rw [htm] at h
    simp only [w_X12_holdersOf_14, w_X12_holdersOf_110, tAload, tIload, nth, tGetI, tGetR, tConst, tLconst, tBin, tUn, tI2l, tAld, tAldR, tAlen, tIast, tBast, tZast, tAast, tIret, tZret, tVret, tAret, tIf, tIf2, tGoto, tIstore, tAstore, sset, tIinc, tDup, tDup2, tPop, tPutI, tPutZ, tPutR, tCallV, tCallS, popN, tFn, tCopy, tMax, tMin, tSw, swc, tRem, tObjI, Option.toList, List.nil_append, List.cons_append, okR, true_and, and_true, true_or, or_true, Nat.zero_le, ne_eq, not_false_eq_true, Nat.reduceEqDiff]
    exact ⟨fun _ => h, fun z => absurd (by decide) z⟩
  · exact h.elim
theorem inl_rg {A : Rw} {s : Nat} {p : Int32} (h : bsOK A s) (hp : (A (514 * s + 5)).toInt < p.toInt ∧ p.toInt ≤ (A (514 * s + 4)).toInt) : rg p 1 120 := by
  have h1 := h.2.1.2
  have h2 := h.2.2.1
  exact ⟨by omega, by omega⟩
def vHolders (A : Rw) (s p : Int32) : Int32 := if ¬ rgd s 0 4 then -2 else if ¬ ((A (514 * s.toNatClampNeg + 5)).toInt < p.toInt ∧ p.toInt ≤ (A (514 * s.toNatClampNeg + 4)).toInt) then -5 else qHolders A s.toNatClampNeg p.toNatClampNeg
def w_X12_holders_35 (M : CT) (G : Nat → PT) (Rp : RT) : PT := tIret Rp
def w_X12_holders_33 (M : CT) (G : Nat → PT) (Rp : RT) : PT := tConst (-5) <| w_X12_holders_35 M G Rp
def w_X12_holders_15 (M : CT) (G : Nat → PT) (Rp : RT) : PT := tAload 0 <| tIload 1 <| tIload 2 <| tFn 3 F_X12_isInLog <| tIf (fun x => x = 0) (w_X12_holders_33 M G Rp) <| tAload 0 <| tIload 1 <| tIload 2 <| tFn 3 F_X12_holdersOf <| tGoto (w_X12_holders_35 M G Rp)
def w_X12_holders_0 (M : CT) (G : Nat → PT) (Rp : RT) : PT := tAload 0 <| tConst 0 <| tPutI 12 27 0 <| tIload 1 <| tFn 1 F_X12_isStore <| tIf (fun x => x ≠ 0) (w_X12_holders_15 M G Rp) <| tConst (-2) <| tIret Rp
set_option maxRecDepth 20000 in
theorem b_X12_holders_35 {Z : Zt} {d : Nat} {p : Program} {e : Env} {R : Room} {s : State} {m : MethodId} {args : Array Value} {below : List Frame} {meth : Method} {c : Code} {Rp : RT} (C : Cx Z (d + 3) jX12_holders RX12 p R s m args meth c) : Sd Z jX12_holders p e R s m args below meth c (MQ below (QcS Z Rp) args s 0 0 (fun a => Z.2.2.1 < a)) 35 (w_X12_holders_35 (MS Z (d + 3)) (Gw Z 3 p e R s m args below meth c (MQ below (QcS Z Rp) args s 0 0 (fun a => Z.2.2.1 < a))) Rp) := by
  unfold w_X12_holders_35
  exact s_iret C rfl (by decide +kernel)
set_option maxRecDepth 20000 in
theorem b_X12_holders_33 {Z : Zt} {d : Nat} {p : Program} {e : Env} {R : Room} {s : State} {m : MethodId} {args : Array Value} {below : List Frame} {meth : Method} {c : Code} {Rp : RT} (C : Cx Z (d + 3) jX12_holders RX12 p R s m args meth c) : Sd Z jX12_holders p e R s m args below meth c (MQ below (QcS Z Rp) args s 0 0 (fun a => Z.2.2.1 < a)) 33 (w_X12_holders_33 (MS Z (d + 3)) (Gw Z 3 p e R s m args below meth c (MQ below (QcS Z Rp) args s 0 0 (fun a => Z.2.2.1 < a))) Rp) := by
  unfold w_X12_holders_33
  refine s_bipush (n := (-5)) C (by decide +kernel) (by decide) ?_
  exact (b_X12_holders_35 C)
set_option maxRecDepth 20000 in
theorem b_X12_holders_15 {Z : Zt} {d : Nat} {p : Program} {e : Env} {R : Room} {s : State} {m : MethodId} {args : Array Value} {below : List Frame} {meth : Method} {c : Code} {Rp : RT} (C : Cx Z (d + 3) jX12_holders RX12 p R s m args meth c) : Sd Z jX12_holders p e R s m args below meth c (MQ below (QcS Z Rp) args s 0 0 (fun a => Z.2.2.1 < a)) 15 (w_X12_holders_15 (MS Z (d + 3)) (Gw Z 3 p e R s m args below meth c (MQ below (QcS Z Rp) args s 0 0 (fun a => Z.2.2.1 < a))) Rp) := by
  unfold w_X12_holders_15
  refine s_aload_n (k := 0) C (by decide +kernel) ?_
  refine s_iload_n (k := 1) C (by decide +kernel) ?_
  refine s_iload_n (k := 2) C (by decide +kernel) ?_
  refine s_fnV C (j2 := jX12_isInLog) (cl := 12) (nf := 27) rfl rfl (by decide +kernel) rfl w_8_111 w_8_113 w_p7_13 w_1_13 w_8_114 (by decide +kernel) (fun _ _ _ _ _ h => f_X12_isInLog h) (fun _ _ _ _ _ h => r_X12_isInLog h) ?_
  refine s_if_eq (off := 12) (tgt := 33) C (by decide +kernel) (by decide) (b_X12_holders_33 C) ?_
  refine s_aload_n (k := 0) C (by decide +kernel) ?_
  refine s_iload_n (k := 1) C (by decide +kernel) ?_
  refine s_iload_n (k := 2) C (by decide +kernel) ?_
  refine s_fnV C (j2 := jX12_holdersOf) (cl := 12) (nf := 27) rfl rfl (by decide +kernel) rfl w_8_164 w_8_166 w_p8_2 w_1_13 w_8_167 (by decide +kernel) (fun _ _ _ _ _ h => f_X12_holdersOf h) (fun _ _ _ _ _ h => r_X12_holdersOf h) ?_
  exact s_goto (off := 5) (tgt := 35) C (by decide +kernel) (by decide) (b_X12_holders_35 C)
set_option maxRecDepth 20000 in
theorem b_X12_holders_0 {Z : Zt} {d : Nat} {p : Program} {e : Env} {R : Room} {s : State} {m : MethodId} {args : Array Value} {below : List Frame} {meth : Method} {c : Code} {Rp : RT} (C : Cx Z (d + 3) jX12_holders RX12 p R s m args meth c) : Sd Z jX12_holders p e R s m args below meth c (MQ below (QcS Z Rp) args s 0 0 (fun a => Z.2.2.1 < a)) 0 (w_X12_holders_0 (MS Z (d + 3)) (Gw Z 3 p e R s m args below meth c (MQ below (QcS Z Rp) args s 0 0 (fun a => Z.2.2.1 < a))) Rp) := by
  unfold w_X12_holders_0
  refine s_aload_n (k := 0) C (by decide +kernel) ?_
  refine s_iconst (n := 0) C (by decide +kernel) (by decide) ?_
  refine s_putI C w_6_87 (by decide +kernel) rfl (Or.inl rfl) ?_
  refine s_iload_n (k := 1) C (by decide +kernel) ?_
  refine s_fnS C (j2 := jX12_isStore) (by decide +kernel) rfl w_6_208 w_6_209 w_1_13 w_6_210 (by decide +kernel) (fun _ _ _ _ _ h => f_X12_isStore h) ?_
  refine s_if_ne (off := 6) (tgt := 15) C (by decide +kernel) (by decide) (b_X12_holders_15 C) ?_
  refine s_bipush (n := (-2)) C (by decide +kernel) (by decide) ?_
  exact s_iret C rfl (by decide +kernel)
theorem ms_X12_holders {Z : Zt} {d : Nat} {S : Sh} {μ : Mi} {ρ : Mr} {Rp : RT} (a0 : Nat) (x1 : Int32) (x2 : Int32) (h : ∀ G : Nat → PT, w_X12_holders_0 (MS Z (d + 3)) G Rp [.ref a0, .int x1, .int x2] [] S (0, 0) μ ρ) : MS Z (d + 4) jX12_holders [.ref a0, .int x1, .int x2] S μ ρ Rp :=
  MS_of [.ref a0, .int x1, .int x2] (by decide +kernel) rfl rfl (Nat.le_of_ble_eq_true rfl) rfl (fun p e R s m args below meth c C => b_X12_holders_0 C _ _ _ _ _ _ (h _ ))
def F_X12_holders : FT := fun As S μ ρ k => match As with
  | [.ref a, .int s, .int p] => a = 2737 ∧ RS S ρ ∧ good (μ 2738) ∧ ∀ μ', RQ μ μ' (μ 2738) (μ 2739) (μ 2737 6) → k (some (.int (vHolders (μ 2738) s p))) μ'
  | _ => False
theorem r_X12_holders {As S μ ρ k} (h : F_X12_holders As S μ ρ k) : ∃ a As', As = Value.ref a :: As' ∧ S.2 a = (12, 27) := by
  unfold F_X12_holders at h
  split at h
  · exact ⟨_, _, rfl, by rw [h.1]; exact h.2.1.1⟩
  · exact h.elim
set_option maxHeartbeats 1000000 in
theorem f_X12_holders {Z : Zt} {d : Nat} {As : List Value} {S : Sh} {μ : Mi} {ρ : Mr} {Rp : RT} (h : F_X12_holders As S μ ρ (fun r μ' => Rp r S μ' ρ)) : MS Z (d + 4) jX12_holders As S μ ρ Rp := by
  unfold F_X12_holders at h
  split at h
  · rename_i a s p
    obtain ⟨rfl, hS, h⟩ := h
    have hS0 := hS
    unfold RS at hS
    obtain ⟨hg, h⟩ := h
    have hq := h _ RQ_0
    unfold vHolders at hq
    refine ms_X12_holders _ _ _ (fun G => ?_)
    simp only [w_X12_holders_0, w_X12_holders_15, w_X12_holders_33, w_X12_holders_35, tAload, tIload, nth, tGetI, tGetR, tConst, tLconst, tBin, tUn, tI2l, tAld, tAldR, tAlen, tIast, tBast, tZast, tAast, tIret, tZret, tVret, tAret, tIf, tIf2, tGoto, tIstore, tAstore, sset, tIinc, tDup, tDup2, tPop, tPutI, tPutZ, tPutR, tCallV, tCallS, popN, tFn, tCopy, tMax, tMin, tSw, swc, tRem, tObjI, Option.toList, List.nil_append, List.cons_append, okR, true_and, and_true, true_or, or_true, Nat.zero_le, ne_eq, not_false_eq_true, Nat.reduceEqDiff, F_X12_isStore, F_X12_isInLog, F_X12_holdersOf, hS0, hS, e6, M6_row, b2_z, Decidable.not_not]
    refine ⟨fun c => ?_, fun c => ?_⟩
    · have hb : bsOK (μ 2738) s.toNatClampNeg := by
        obtain ⟨s, rfl, hs0, -, hs⟩ := rg_ex (lo := 0) (hi := 4) c
        rw [nI_clamp hs0]
        exact good_bs hg (by omega)
      refine ⟨c, hb.2.2, fun c2 => ?_, fun c2 => ⟨c, inl_rg hb c2, good_all hg, ?_⟩⟩
      · rw [if_neg (not_not_intro c), if_pos c2] at hq; exact hq
      · rw [if_neg (not_not_intro c), if_neg (not_not_intro c2)] at hq; exact hq
    · rw [if_pos c] at hq; exact hq
  · exact h.elim
def vSafe (A : Rw) (s p : Int32) : Int32 := if ¬ rgd s 0 4 then -2 else if ¬ ((A (514 * s.toNatClampNeg + 5)).toInt < p.toInt ∧ p.toInt ≤ (A (514 * s.toNatClampNeg + 4)).toInt) then -5 else
  if cnt5 (qMem A s.toNatClampNeg).1 < 2 * cnt5 (qHolders A s.toNatClampNeg p.toNatClampNeg &&& (qMem A s.toNatClampNeg).1) ∧ ((qMem A s.toNatClampNeg).2.1 = 0 ∨ cnt5 (qMem A s.toNatClampNeg).2.1 < 2 * cnt5 (qHolders A s.toNatClampNeg p.toNatClampNeg &&& (qMem A s.toNatClampNeg).2.1)) then 1 else 0
def w_X12_safe_50 (M : CT) (G : Nat → PT) (Rp : RT) : PT := tIret Rp
def w_X12_safe_49 (M : CT) (G : Nat → PT) (Rp : RT) : PT := tConst 0 <| w_X12_safe_50 M G Rp
def w_X12_safe_27 (M : CT) (G : Nat → PT) (Rp : RT) : PT := tAload 0 <| tIload 1 <| tFn 2 F_X12_laysMembers <| tAload 0 <| tAload 0 <| tIload 1 <| tIload 2 <| tFn 3 F_X12_holdersOf <| tFn 2 F_X12_isMajority <| tIf (fun x => x = 0) (w_X12_safe_49 M G Rp) <| tConst 1 <| tGoto (w_X12_safe_50 M G Rp)
def w_X12_safe_15 (M : CT) (G : Nat → PT) (Rp : RT) : PT := tAload 0 <| tIload 1 <| tIload 2 <| tFn 3 F_X12_isInLog <| tIf (fun x => x ≠ 0) (w_X12_safe_27 M G Rp) <| tConst (-5) <| tIret Rp
def w_X12_safe_0 (M : CT) (G : Nat → PT) (Rp : RT) : PT := tAload 0 <| tConst 0 <| tPutI 12 27 0 <| tIload 1 <| tFn 1 F_X12_isStore <| tIf (fun x => x ≠ 0) (w_X12_safe_15 M G Rp) <| tConst (-2) <| tIret Rp
set_option maxRecDepth 20000 in
theorem b_X12_safe_50 {Z : Zt} {d : Nat} {p : Program} {e : Env} {R : Room} {s : State} {m : MethodId} {args : Array Value} {below : List Frame} {meth : Method} {c : Code} {Rp : RT} (C : Cx Z (d + 4) jX12_safe RX12 p R s m args meth c) : Sd Z jX12_safe p e R s m args below meth c (MQ below (QcS Z Rp) args s 0 0 (fun a => Z.2.2.1 < a)) 50 (w_X12_safe_50 (MS Z (d + 4)) (Gw Z 3 p e R s m args below meth c (MQ below (QcS Z Rp) args s 0 0 (fun a => Z.2.2.1 < a))) Rp) := by
  unfold w_X12_safe_50
  exact s_iret C rfl (by decide +kernel)
set_option maxRecDepth 20000 in
theorem b_X12_safe_49 {Z : Zt} {d : Nat} {p : Program} {e : Env} {R : Room} {s : State} {m : MethodId} {args : Array Value} {below : List Frame} {meth : Method} {c : Code} {Rp : RT} (C : Cx Z (d + 4) jX12_safe RX12 p R s m args meth c) : Sd Z jX12_safe p e R s m args below meth c (MQ below (QcS Z Rp) args s 0 0 (fun a => Z.2.2.1 < a)) 49 (w_X12_safe_49 (MS Z (d + 4)) (Gw Z 3 p e R s m args below meth c (MQ below (QcS Z Rp) args s 0 0 (fun a => Z.2.2.1 < a))) Rp) := by
  unfold w_X12_safe_49
  refine s_iconst (n := 0) C (by decide +kernel) (by decide) ?_
  exact (b_X12_safe_50 C)
set_option maxRecDepth 20000 in
theorem b_X12_safe_27 {Z : Zt} {d : Nat} {p : Program} {e : Env} {R : Room} {s : State} {m : MethodId} {args : Array Value} {below : List Frame} {meth : Method} {c : Code} {Rp : RT} (C : Cx Z (d + 4) jX12_safe RX12 p R s m args meth c) : Sd Z jX12_safe p e R s m args below meth c (MQ below (QcS Z Rp) args s 0 0 (fun a => Z.2.2.1 < a)) 27 (w_X12_safe_27 (MS Z (d + 4)) (Gw Z 3 p e R s m args below meth c (MQ below (QcS Z Rp) args s 0 0 (fun a => Z.2.2.1 < a))) Rp) := by
  unfold w_X12_safe_27
  refine s_aload_n (k := 0) C (by decide +kernel) ?_
  refine s_iload_n (k := 1) C (by decide +kernel) ?_
  refine s_fnV C (j2 := jX12_laysMembers) (cl := 12) (nf := 27) rfl rfl (by decide +kernel) rfl w_6_216 w_6_218 w_p3_10 w_1_13 w_6_219 (by decide +kernel) (fun _ _ _ _ _ h => f_X12_laysMembers h) (fun _ _ _ _ _ h => r_X12_laysMembers h) ?_
  refine s_aload_n (k := 0) C (by decide +kernel) ?_
  refine s_aload_n (k := 0) C (by decide +kernel) ?_
  refine s_iload_n (k := 1) C (by decide +kernel) ?_
  refine s_iload_n (k := 2) C (by decide +kernel) ?_
  refine s_fnV C (j2 := jX12_holdersOf) (cl := 12) (nf := 27) rfl rfl (by decide +kernel) rfl w_8_164 w_8_166 w_p8_2 w_1_13 w_8_167 (by decide +kernel) (fun _ _ _ _ _ h => f_X12_holdersOf h) (fun _ _ _ _ _ h => r_X12_holdersOf h) ?_
  refine s_fnV C (j2 := jX12_isMajority) (cl := 12) (nf := 27) rfl rfl (by decide +kernel) rfl w_7_35 w_7_37 w_p4_8 w_1_13 w_7_38 (by decide +kernel) (fun _ _ _ _ _ h => f_X12_isMajority h) (fun _ _ _ _ _ h => r_X12_isMajority h) ?_
  refine s_if_eq (off := 7) (tgt := 49) C (by decide +kernel) (by decide) (b_X12_safe_49 C) ?_
  refine s_iconst (n := 1) C (by decide +kernel) (by decide) ?_
  exact s_goto (off := 4) (tgt := 50) C (by decide +kernel) (by decide) (b_X12_safe_50 C)
set_option maxRecDepth 20000 in
theorem b_X12_safe_15 {Z : Zt} {d : Nat} {p : Program} {e : Env} {R : Room} {s : State} {m : MethodId} {args : Array Value} {below : List Frame} {meth : Method} {c : Code} {Rp : RT} (C : Cx Z (d + 4) jX12_safe RX12 p R s m args meth c) : Sd Z jX12_safe p e R s m args below meth c (MQ below (QcS Z Rp) args s 0 0 (fun a => Z.2.2.1 < a)) 15 (w_X12_safe_15 (MS Z (d + 4)) (Gw Z 3 p e R s m args below meth c (MQ below (QcS Z Rp) args s 0 0 (fun a => Z.2.2.1 < a))) Rp) := by
  unfold w_X12_safe_15
  refine s_aload_n (k := 0) C (by decide +kernel) ?_
  refine s_iload_n (k := 1) C (by decide +kernel) ?_
  refine s_iload_n (k := 2) C (by decide +kernel) ?_
  refine s_fnV C (j2 := jX12_isInLog) (cl := 12) (nf := 27) rfl rfl (by decide +kernel) rfl w_8_111 w_8_113 w_p7_13 w_1_13 w_8_114 (by decide +kernel) (fun _ _ _ _ _ h => f_X12_isInLog h) (fun _ _ _ _ _ h => r_X12_isInLog h) ?_
  refine s_if_ne (off := 6) (tgt := 27) C (by decide +kernel) (by decide) (b_X12_safe_27 C) ?_
  refine s_bipush (n := (-5)) C (by decide +kernel) (by decide) ?_
  exact s_iret C rfl (by decide +kernel)
set_option maxRecDepth 20000 in
theorem b_X12_safe_0 {Z : Zt} {d : Nat} {p : Program} {e : Env} {R : Room} {s : State} {m : MethodId} {args : Array Value} {below : List Frame} {meth : Method} {c : Code} {Rp : RT} (C : Cx Z (d + 4) jX12_safe RX12 p R s m args meth c) : Sd Z jX12_safe p e R s m args below meth c (MQ below (QcS Z Rp) args s 0 0 (fun a => Z.2.2.1 < a)) 0 (w_X12_safe_0 (MS Z (d + 4)) (Gw Z 3 p e R s m args below meth c (MQ below (QcS Z Rp) args s 0 0 (fun a => Z.2.2.1 < a))) Rp) := by
  unfold w_X12_safe_0
  refine s_aload_n (k := 0) C (by decide +kernel) ?_
  refine s_iconst (n := 0) C (by decide +kernel) (by decide) ?_
  refine s_putI C w_6_87 (by decide +kernel) rfl (Or.inl rfl) ?_
  refine s_iload_n (k := 1) C (by decide +kernel) ?_
  refine s_fnS C (j2 := jX12_isStore) (by decide +kernel) rfl w_6_208 w_6_209 w_1_13 w_6_210 (by decide +kernel) (fun _ _ _ _ _ h => f_X12_isStore h) ?_
  refine s_if_ne (off := 6) (tgt := 15) C (by decide +kernel) (by decide) (b_X12_safe_15 C) ?_
  refine s_bipush (n := (-2)) C (by decide +kernel) (by decide) ?_
  exact s_iret C rfl (by decide +kernel)
theorem ms_X12_safe {Z : Zt} {d : Nat} {S : Sh} {μ : Mi} {ρ : Mr} {Rp : RT} (a0 : Nat) (x1 : Int32) (x2 : Int32) (h : ∀ G : Nat → PT, w_X12_safe_0 (MS Z (d + 4)) G Rp [.ref a0, .int x1, .int x2] [] S (0, 0) μ ρ) : MS Z (d + 5) jX12_safe [.ref a0, .int x1, .int x2] S μ ρ Rp :=
  MS_of [.ref a0, .int x1, .int x2] (by decide +kernel) rfl rfl (Nat.le_of_ble_eq_true rfl) rfl (fun p e R s m args below meth c C => b_X12_safe_0 C _ _ _ _ _ _ (h _ ))
def F_X12_safe : FT := fun As S μ ρ k => match As with
  | [.ref a, .int s, .int p] => a = 2737 ∧ RS S ρ ∧ good (μ 2738) ∧ ∀ μ', RQ μ μ' (μ 2738) (μ 2739) (μ 2737 6) → k (some (.int (vSafe (μ 2738) s p))) μ'
  | _ => False
theorem r_X12_safe {As S μ ρ k} (h : F_X12_safe As S μ ρ k) : ∃ a As', As = Value.ref a :: As' ∧ S.2 a = (12, 27) := by
  unfold F_X12_safe at h
  split at h
  · exact ⟨_, _, rfl, by rw [h.1]; exact h.2.1.1⟩
  · exact h.elim
set_option maxHeartbeats 1000000 in
theorem f_X12_safe {Z : Zt} {d : Nat} {As : List Value} {S : Sh} {μ : Mi} {ρ : Mr} {Rp : RT} (h : F_X12_safe As S μ ρ (fun r μ' => Rp r S μ' ρ)) : MS Z (d + 5) jX12_safe As S μ ρ Rp := by
  unfold F_X12_safe at h
  split at h
  · rename_i a s p
    obtain ⟨rfl, hS, h⟩ := h
    have hS0 := hS
    unfold RS at hS
    obtain ⟨hg, h⟩ := h
    have hq := h _ RQ_0
    unfold vSafe at hq
    have hq2 := h _ (RQ_s (t := qMem (μ 2738) s.toNatClampNeg))
    unfold vSafe at hq2
    refine ms_X12_safe _ _ _ (fun G => ?_)
    simp only [w_X12_safe_0, w_X12_safe_15, w_X12_safe_27, w_X12_safe_49, w_X12_safe_50, tAload, tIload, nth, tGetI, tGetR, tConst, tLconst, tBin, tUn, tI2l, tAld, tAldR, tAlen, tIast, tBast, tZast, tAast, tIret, tZret, tVret, tAret, tIf, tIf2, tGoto, tIstore, tAstore, sset, tIinc, tDup, tDup2, tPop, tPutI, tPutZ, tPutR, tCallV, tCallS, popN, tFn, tCopy, tMax, tMin, tSw, swc, tRem, tObjI, Option.toList, List.nil_append, List.cons_append, okR, true_and, and_true, true_or, or_true, Nat.zero_le, ne_eq, not_false_eq_true, Nat.reduceEqDiff, F_X12_isStore, F_X12_isInLog, F_X12_laysMembers, F_X12_holdersOf, F_X12_isMajority, hS0, hS, e6, M6_row, setM_row, setM_8, setM_9, b2_z, Decidable.not_not]
    refine ⟨fun c => ?_, fun c => ?_⟩
    · have hb : bsOK (μ 2738) s.toNatClampNeg := by
        obtain ⟨s, rfl, hs0, -, hs⟩ := rg_ex (lo := 0) (hi := 4) c
        rw [nI_clamp hs0]
        exact good_bs hg (by omega)
      refine ⟨c, hb.2.2, fun c2 => ⟨c, hb.2.1, hb.2.2, c, inl_rg hb c2, good_all hg, fun c3 => ?_, fun c3 => ?_⟩, fun c2 => ?_⟩
      · rw [if_neg (not_not_intro c), if_neg (not_not_intro c2), if_neg c3] at hq2; exact hq2
      · rw [if_neg (not_not_intro c), if_neg (not_not_intro c2), if_pos c3] at hq2; exact hq2
      · rw [if_neg (not_not_intro c), if_pos c2] at hq; exact hq
    · rw [if_pos c] at hq; exact hq
  · exact h.elim
def vAgreed (A : Rw) (p w : Int32) : Int32 := if ¬ (rgd p 1 120 ∧ rgd w 0 3) then -1000 else if A (3826 + 4 * p.toNatClampNeg) = 0 then -1000 else A (3826 + 4 * p.toNatClampNeg + w.toNatClampNeg)
def w_X12_agreed_66 (M : CT) (G : Nat → PT) (Rp : RT) : PT := tIret Rp
def w_X12_agreed_58 (M : CT) (G : Nat → PT) (Rp : RT) : PT := tAload 0 <| tGetR 12 27 1 <| tIload 3 <| tIload 2 <| tBin (fun x y => x + y) <| tAld 20 <| w_X12_agreed_66 M G Rp
def w_X12_agreed_33 (M : CT) (G : Nat → PT) (Rp : RT) : PT := tConst 3830 <| tConst 4 <| tIload 1 <| tConst 1 <| tBin (fun x y => x - y) <| tBin (fun x y => x * y) <| tBin (fun x y => x + y) <| tIstore 3 <| tAload 0 <| tGetR 12 27 1 <| tIload 3 <| tAld 20 <| tIf (fun x => x ≠ 0) (w_X12_agreed_58 M G Rp) <| tConst (-1000) <| tGoto (w_X12_agreed_66 M G Rp)
def w_X12_agreed_29 (M : CT) (G : Nat → PT) (Rp : RT) : PT := tConst (-1000) <| tIret Rp
def w_X12_agreed_0 (M : CT) (G : Nat → PT) (Rp : RT) : PT := tAload 0 <| tConst 0 <| tPutI 12 27 0 <| tIload 1 <| tI2l <| tLconst 1 <| tLconst 120 <| tFn 3 F_X12_within <| tIf (fun x => x = 0) (w_X12_agreed_29 M G Rp) <| tIload 2 <| tI2l <| tLconst 0 <| tLconst 3 <| tFn 3 F_X12_within <| tIf (fun x => x ≠ 0) (w_X12_agreed_33 M G Rp) <| w_X12_agreed_29 M G Rp
set_option maxRecDepth 20000 in
theorem b_X12_agreed_66 {Z : Zt} {d : Nat} {p : Program} {e : Env} {R : Room} {s : State} {m : MethodId} {args : Array Value} {below : List Frame} {meth : Method} {c : Code} {Rp : RT} (C : Cx Z (d + 1) jX12_agreed RX12 p R s m args meth c) : Sd Z jX12_agreed p e R s m args below meth c (MQ below (QcS Z Rp) args s 0 0 (fun a => Z.2.2.1 < a)) 66 (w_X12_agreed_66 (MS Z (d + 1)) (Gw Z 4 p e R s m args below meth c (MQ below (QcS Z Rp) args s 0 0 (fun a => Z.2.2.1 < a))) Rp) := by
  unfold w_X12_agreed_66
  exact s_iret C rfl (by decide +kernel)
set_option maxRecDepth 20000 in
theorem b_X12_agreed_58 {Z : Zt} {d : Nat} {p : Program} {e : Env} {R : Room} {s : State} {m : MethodId} {args : Array Value} {below : List Frame} {meth : Method} {c : Code} {Rp : RT} (C : Cx Z (d + 1) jX12_agreed RX12 p R s m args meth c) : Sd Z jX12_agreed p e R s m args below meth c (MQ below (QcS Z Rp) args s 0 0 (fun a => Z.2.2.1 < a)) 58 (w_X12_agreed_58 (MS Z (d + 1)) (Gw Z 4 p e R s m args below meth c (MQ below (QcS Z Rp) args s 0 0 (fun a => Z.2.2.1 < a))) Rp) := by
  unfold w_X12_agreed_58
  refine s_aload_n (k := 0) C (by decide +kernel) ?_
  refine s_getR C w_6_88 (by decide +kernel) rfl ?_
  refine s_iload_n (k := 3) C (by decide +kernel) ?_
  refine s_iload_n (k := 2) C (by decide +kernel) ?_
  refine s_iadd C (by decide +kernel) ?_
  refine s_iald C (by decide +kernel) ?_
  exact (b_X12_agreed_66 C)
set_option maxRecDepth 20000 in
theorem b_X12_agreed_33 {Z : Zt} {d : Nat} {p : Program} {e : Env} {R : Room} {s : State} {m : MethodId} {args : Array Value} {below : List Frame} {meth : Method} {c : Code} {Rp : RT} (C : Cx Z (d + 1) jX12_agreed RX12 p R s m args meth c) : Sd Z jX12_agreed p e R s m args below meth c (MQ below (QcS Z Rp) args s 0 0 (fun a => Z.2.2.1 < a)) 33 (w_X12_agreed_33 (MS Z (d + 1)) (Gw Z 4 p e R s m args below meth c (MQ below (QcS Z Rp) args s 0 0 (fun a => Z.2.2.1 < a))) Rp) := by
  unfold w_X12_agreed_33
  refine s_sipush (n := 3830) C (by decide +kernel) (by decide) ?_
  refine s_iconst (n := 4) C (by decide +kernel) (by decide) ?_
  refine s_iload_n (k := 1) C (by decide +kernel) ?_
  refine s_iconst (n := 1) C (by decide +kernel) (by decide) ?_
  refine s_isub C (by decide +kernel) ?_
  refine s_imul C (by decide +kernel) ?_
  refine s_iadd C (by decide +kernel) ?_
  refine s_istore_n (k := 3) C (by decide +kernel) ?_
  refine s_aload_n (k := 0) C (by decide +kernel) ?_
  refine s_getR C w_6_88 (by decide +kernel) rfl ?_
  refine s_iload_n (k := 3) C (by decide +kernel) ?_
  refine s_iald C (by decide +kernel) ?_
  refine s_if_ne (off := 9) (tgt := 58) C (by decide +kernel) (by decide) (b_X12_agreed_58 C) ?_
  refine s_sipush (n := (-1000)) C (by decide +kernel) (by decide) ?_
  exact s_goto (off := 11) (tgt := 66) C (by decide +kernel) (by decide) (b_X12_agreed_66 C)
set_option maxRecDepth 20000 in
theorem b_X12_agreed_29 {Z : Zt} {d : Nat} {p : Program} {e : Env} {R : Room} {s : State} {m : MethodId} {args : Array Value} {below : List Frame} {meth : Method} {c : Code} {Rp : RT} (C : Cx Z (d + 1) jX12_agreed RX12 p R s m args meth c) : Sd Z jX12_agreed p e R s m args below meth c (MQ below (QcS Z Rp) args s 0 0 (fun a => Z.2.2.1 < a)) 29 (w_X12_agreed_29 (MS Z (d + 1)) (Gw Z 4 p e R s m args below meth c (MQ below (QcS Z Rp) args s 0 0 (fun a => Z.2.2.1 < a))) Rp) := by
  unfold w_X12_agreed_29
  refine s_sipush (n := (-1000)) C (by decide +kernel) (by decide) ?_
  exact s_iret C rfl (by decide +kernel)
set_option maxRecDepth 20000 in
theorem b_X12_agreed_0 {Z : Zt} {d : Nat} {p : Program} {e : Env} {R : Room} {s : State} {m : MethodId} {args : Array Value} {below : List Frame} {meth : Method} {c : Code} {Rp : RT} (C : Cx Z (d + 1) jX12_agreed RX12 p R s m args meth c) : Sd Z jX12_agreed p e R s m args below meth c (MQ below (QcS Z Rp) args s 0 0 (fun a => Z.2.2.1 < a)) 0 (w_X12_agreed_0 (MS Z (d + 1)) (Gw Z 4 p e R s m args below meth c (MQ below (QcS Z Rp) args s 0 0 (fun a => Z.2.2.1 < a))) Rp) := by
  unfold w_X12_agreed_0
  refine s_aload_n (k := 0) C (by decide +kernel) ?_
  refine s_iconst (n := 0) C (by decide +kernel) (by decide) ?_
  refine s_putI C w_6_87 (by decide +kernel) rfl (Or.inl rfl) ?_
  refine s_iload_n (k := 1) C (by decide +kernel) ?_
  refine s_i2l C (by decide +kernel) ?_
  refine s_lconst (n := 1) C (by decide +kernel) (by decide) ?_
  refine s_ldc2 C w_8_176 (by decide +kernel) ?_
  refine s_fnS C (j2 := jX12_within) (by decide +kernel) rfl w_6_175 w_6_176 w_1_13 w_6_177 (by decide +kernel) (fun _ _ _ _ _ h => f_X12_within h) ?_
  refine s_if_eq (off := 15) (tgt := 29) C (by decide +kernel) (by decide) (b_X12_agreed_29 C) ?_
  refine s_iload_n (k := 2) C (by decide +kernel) ?_
  refine s_i2l C (by decide +kernel) ?_
  refine s_lconst (n := 0) C (by decide +kernel) (by decide) ?_
  refine s_ldc2 C w_7_93 (by decide +kernel) ?_
  refine s_fnS C (j2 := jX12_within) (by decide +kernel) rfl w_6_175 w_6_176 w_1_13 w_6_177 (by decide +kernel) (fun _ _ _ _ _ h => f_X12_within h) ?_
  refine s_if_ne (off := 7) (tgt := 33) C (by decide +kernel) (by decide) (b_X12_agreed_33 C) ?_
  exact (b_X12_agreed_29 C)
theorem ms_X12_agreed {Z : Zt} {d : Nat} {S : Sh} {μ : Mi} {ρ : Mr} {Rp : RT} (a0 : Nat) (x1 : Int32) (x2 : Int32) (h : ∀ G : Nat → PT, w_X12_agreed_0 (MS Z (d + 1)) G Rp [.ref a0, .int x1, .int x2, .null] [] S (0, 0) μ ρ) : MS Z (d + 2) jX12_agreed [.ref a0, .int x1, .int x2] S μ ρ Rp :=
  MS_of [.ref a0, .int x1, .int x2, .null] (by decide +kernel) rfl rfl (Nat.le_of_ble_eq_true rfl) rfl (fun p e R s m args below meth c C => b_X12_agreed_0 C _ _ _ _ _ _ (h _ ))
def F_X12_agreed : FT := fun As S μ ρ k => match As with
  | [.ref a, .int p, .int w] => a = 2737 ∧ RS S ρ ∧ ∀ μ', RQ μ μ' (μ 2738) (μ 2739) (μ 2737 6) → k (some (.int (vAgreed (μ 2738) p w))) μ'
  | _ => False
theorem r_X12_agreed {As S μ ρ k} (h : F_X12_agreed As S μ ρ k) : ∃ a As', As = Value.ref a :: As' ∧ S.2 a = (12, 27) := by
  unfold F_X12_agreed at h
  split at h
  · exact ⟨_, _, rfl, by rw [h.1]; exact h.2.1.1⟩
  · exact h.elim
set_option maxHeartbeats 1000000 in
theorem f_X12_agreed {Z : Zt} {d : Nat} {As : List Value} {S : Sh} {μ : Mi} {ρ : Mr} {Rp : RT} (h : F_X12_agreed As S μ ρ (fun r μ' => Rp r S μ' ρ)) : MS Z (d + 2) jX12_agreed As S μ ρ Rp := by
  unfold F_X12_agreed at h
  split at h
  · rename_i a p w
    obtain ⟨rfl, hS, h⟩ := h
    have hS0 := hS
    unfold RS at hS
    have hq := h _ RQ_0
    unfold vAgreed at hq
    refine ms_X12_agreed _ _ _ (fun G => ?_)
    have bad : ¬ (rgd p 1 120 ∧ rgd w 0 3) → Rp (some (.int (-1000))) S (M6 μ) ρ := by
      intro c
      rw [if_pos c] at hq
      exact hq
    simp only [w_X12_agreed_0, w_X12_agreed_29, tAload, tIload, nth, tGetI, tGetR, tConst, tLconst, tBin, tUn, tI2l, tAld, tAldR, tAlen, tIast, tBast, tZast, tAast, tIret, tZret, tVret, tAret, tIf, tIf2, tGoto, tIstore, tAstore, sset, tIinc, tDup, tDup2, tPop, tPutI, tPutZ, tPutR, tCallV, tCallS, popN, tFn, tCopy, tMax, tMin, tSw, swc, tRem, tObjI, Option.toList, List.nil_append, List.cons_append, okR, true_and, and_true, true_or, or_true, Nat.zero_le, ne_eq, not_false_eq_true, Nat.reduceEqDiff, F_X12_within, hS0, hS, e6, M6_row, b2_z, Decidable.not_not, l_leC, l_geC, il_0, il_1, il_3, il_120]
    refine ⟨fun c => bad (fun z => c z.1), fun c => ⟨fun c2 => ?_, fun c2 => bad (fun z => c2 z.2)⟩⟩
    rw [if_neg (not_not_intro ⟨c, c2⟩)] at hq
    obtain ⟨p, rfl, hp0, hp1, hp2⟩ := rg_ex (lo := 1) (hi := 120) c
    obtain ⟨w, rfl, hw0, -, hw1⟩ := rg_ex (lo := 0) (hi := 3) c2
    rw [nI_clamp hp0, nI_clamp hw0] at hq
    have e1 : (3830 : Int32) + 4 * (nI p - 1) = nI (3826 + 4 * p) := by
      rw [show (1 : Int32) = nI 1 from rfl, pk_sub (by omega), show (4 : Int32) = nI 4 from rfl, pk_mul, nad' 3830 3830 rfl, show 3830 + 4 * (p - 1) = 3826 + 4 * p by omega]
    simp only [w_X12_agreed_33, w_X12_agreed_58, w_X12_agreed_66, tAload, tIload, nth, tGetI, tGetR, tConst, tLconst, tBin, tUn, tI2l, tAld, tAldR, tAlen, tIast, tBast, tZast, tAast, tIret, tZret, tVret, tAret, tIf, tIf2, tGoto, tIstore, tAstore, sset, tIinc, tDup, tDup2, tPop, tPutI, tPutZ, tPutR, tCallV, tCallS, popN, tFn, tCopy, tMax, tMin, tSw, swc, tRem, tObjI, Option.toList, List.nil_append, List.cons_append, okR, true_and, and_true, true_or, or_true, Nat.zero_le, ne_eq, not_false_eq_true, Nat.reduceEqDiff, hS, M6_row, e1, nI_add, Decidable.not_not]
    simp (disch := omega) only [nI_clamp, nI_inb]
    refine ⟨by omega, fun c3 => ⟨by omega, ?_⟩, fun c3 => ?_⟩
    · rw [if_neg c3] at hq; exact hq
    · rw [if_pos c3] at hq; exact hq
  · exact h.elim
def vLeaders (A : Rw) (t : Int32) : Int32 := if ¬ rgd t 1 200 then -3 else A (4309 + t.toNatClampNeg)
def w_X12_leaders_34 (M : CT) (G : Nat → PT) (Rp : RT) : PT := tIret Rp
def w_X12_leaders_32 (M : CT) (G : Nat → PT) (Rp : RT) : PT := tConst (-3) <| w_X12_leaders_34 M G Rp
def w_X12_leaders_0 (M : CT) (G : Nat → PT) (Rp : RT) : PT := tAload 0 <| tConst 0 <| tPutI 12 27 0 <| tIload 1 <| tI2l <| tLconst 1 <| tLconst 200 <| tFn 3 F_X12_within <| tIf (fun x => x = 0) (w_X12_leaders_32 M G Rp) <| tAload 0 <| tGetR 12 27 1 <| tConst 4310 <| tIload 1 <| tBin (fun x y => x + y) <| tConst 1 <| tBin (fun x y => x - y) <| tAld 20 <| tGoto (w_X12_leaders_34 M G Rp)
set_option maxRecDepth 20000 in
theorem b_X12_leaders_34 {Z : Zt} {d : Nat} {p : Program} {e : Env} {R : Room} {s : State} {m : MethodId} {args : Array Value} {below : List Frame} {meth : Method} {c : Code} {Rp : RT} (C : Cx Z (d + 1) jX12_leaders RX12 p R s m args meth c) : Sd Z jX12_leaders p e R s m args below meth c (MQ below (QcS Z Rp) args s 0 0 (fun a => Z.2.2.1 < a)) 34 (w_X12_leaders_34 (MS Z (d + 1)) (Gw Z 2 p e R s m args below meth c (MQ below (QcS Z Rp) args s 0 0 (fun a => Z.2.2.1 < a))) Rp) := by
  unfold w_X12_leaders_34
  exact s_iret C rfl (by decide +kernel)
set_option maxRecDepth 20000 in
theorem b_X12_leaders_32 {Z : Zt} {d : Nat} {p : Program} {e : Env} {R : Room} {s : State} {m : MethodId} {args : Array Value} {below : List Frame} {meth : Method} {c : Code} {Rp : RT} (C : Cx Z (d + 1) jX12_leaders RX12 p R s m args meth c) : Sd Z jX12_leaders p e R s m args below meth c (MQ below (QcS Z Rp) args s 0 0 (fun a => Z.2.2.1 < a)) 32 (w_X12_leaders_32 (MS Z (d + 1)) (Gw Z 2 p e R s m args below meth c (MQ below (QcS Z Rp) args s 0 0 (fun a => Z.2.2.1 < a))) Rp) := by
  unfold w_X12_leaders_32
  refine s_bipush (n := (-3)) C (by decide +kernel) (by decide) ?_
  exact (b_X12_leaders_34 C)
set_option maxRecDepth 20000 in
theorem b_X12_leaders_0 {Z : Zt} {d : Nat} {p : Program} {e : Env} {R : Room} {s : State} {m : MethodId} {args : Array Value} {below : List Frame} {meth : Method} {c : Code} {Rp : RT} (C : Cx Z (d + 1) jX12_leaders RX12 p R s m args meth c) : Sd Z jX12_leaders p e R s m args below meth c (MQ below (QcS Z Rp) args s 0 0 (fun a => Z.2.2.1 < a)) 0 (w_X12_leaders_0 (MS Z (d + 1)) (Gw Z 2 p e R s m args below meth c (MQ below (QcS Z Rp) args s 0 0 (fun a => Z.2.2.1 < a))) Rp) := by
  unfold w_X12_leaders_0
  refine s_aload_n (k := 0) C (by decide +kernel) ?_
  refine s_iconst (n := 0) C (by decide +kernel) (by decide) ?_
  refine s_putI C w_6_87 (by decide +kernel) rfl (Or.inl rfl) ?_
  refine s_iload_n (k := 1) C (by decide +kernel) ?_
  refine s_i2l C (by decide +kernel) ?_
  refine s_lconst (n := 1) C (by decide +kernel) (by decide) ?_
  refine s_ldc2 C w_8_20 (by decide +kernel) ?_
  refine s_fnS C (j2 := jX12_within) (by decide +kernel) rfl w_6_175 w_6_176 w_1_13 w_6_177 (by decide +kernel) (fun _ _ _ _ _ h => f_X12_within h) ?_
  refine s_if_eq (off := 18) (tgt := 32) C (by decide +kernel) (by decide) (b_X12_leaders_32 C) ?_
  refine s_aload_n (k := 0) C (by decide +kernel) ?_
  refine s_getR C w_6_88 (by decide +kernel) rfl ?_
  refine s_sipush (n := 4310) C (by decide +kernel) (by decide) ?_
  refine s_iload_n (k := 1) C (by decide +kernel) ?_
  refine s_iadd C (by decide +kernel) ?_
  refine s_iconst (n := 1) C (by decide +kernel) (by decide) ?_
  refine s_isub C (by decide +kernel) ?_
  refine s_iald C (by decide +kernel) ?_
  exact s_goto (off := 5) (tgt := 34) C (by decide +kernel) (by decide) (b_X12_leaders_34 C)
theorem ms_X12_leaders {Z : Zt} {d : Nat} {S : Sh} {μ : Mi} {ρ : Mr} {Rp : RT} (a0 : Nat) (x1 : Int32) (h : ∀ G : Nat → PT, w_X12_leaders_0 (MS Z (d + 1)) G Rp [.ref a0, .int x1] [] S (0, 0) μ ρ) : MS Z (d + 2) jX12_leaders [.ref a0, .int x1] S μ ρ Rp :=
  MS_of [.ref a0, .int x1] (by decide +kernel) rfl rfl (Nat.le_of_ble_eq_true rfl) rfl (fun p e R s m args below meth c C => b_X12_leaders_0 C _ _ _ _ _ _ (h _ ))
def F_X12_leaders : FT := fun As S μ ρ k => match As with
  | [.ref a, .int t] => a = 2737 ∧ RS S ρ ∧ ∀ μ', RQ μ μ' (μ 2738) (μ 2739) (μ 2737 6) → k (some (.int (vLeaders (μ 2738) t))) μ'
  | _ => False
theorem r_X12_leaders {As S μ ρ k} (h : F_X12_leaders As S μ ρ k) : ∃ a As', As = Value.ref a :: As' ∧ S.2 a = (12, 27) := by
  unfold F_X12_leaders at h
  split at h
  · exact ⟨_, _, rfl, by rw [h.1]; exact h.2.1.1⟩
  · exact h.elim
set_option maxHeartbeats 1000000 in
theorem f_X12_leaders {Z : Zt} {d : Nat} {As : List Value} {S : Sh} {μ : Mi} {ρ : Mr} {Rp : RT} (h : F_X12_leaders As S μ ρ (fun r μ' => Rp r S μ' ρ)) : MS Z (d + 2) jX12_leaders As S μ ρ Rp := by
  unfold F_X12_leaders at h
  split at h
  · rename_i a t
    obtain ⟨rfl, hS, h⟩ := h
    have hS0 := hS
    unfold RS at hS
    have hq := h _ RQ_0
    unfold vLeaders at hq
    refine ms_X12_leaders _ _ (fun G => ?_)
    simp only [w_X12_leaders_0, w_X12_leaders_32, w_X12_leaders_34, tAload, tIload, nth, tGetI, tGetR, tConst, tLconst, tBin, tUn, tI2l, tAld, tAldR, tAlen, tIast, tBast, tZast, tAast, tIret, tZret, tVret, tAret, tIf, tIf2, tGoto, tIstore, tAstore, sset, tIinc, tDup, tDup2, tPop, tPutI, tPutZ, tPutR, tCallV, tCallS, popN, tFn, tCopy, tMax, tMin, tSw, swc, tRem, tObjI, Option.toList, List.nil_append, List.cons_append, okR, true_and, and_true, true_or, or_true, Nat.zero_le, ne_eq, not_false_eq_true, Nat.reduceEqDiff, F_X12_within, hS0, hS, e6, M6_row, b2_z, Decidable.not_not, l_leC, l_geC, il_1, il_200]
    refine ⟨fun c => ?_, fun c => ?_⟩
    · rw [if_pos c] at hq; exact hq
    · rw [if_neg (not_not_intro c)] at hq
      obtain ⟨t, rfl, ht0, ht1, ht2⟩ := rg_ex (lo := 1) (hi := 200) c
      rw [nI_clamp ht0] at hq
      have ex : (4310 : Int32) + nI t - 1 = nI (4309 + t) := by rw [show (4310 : Int32) = nI 4310 from rfl, nI_add, show (1 : Int32) = nI 1 from rfl, pk_sub (by omega), show 4310 + t - 1 = 4309 + t by omega]
      rw [ex]
      simp (disch := omega) only [nI_clamp, nI_inb]
      exact ⟨by omega, hq⟩
  · exact h.elim
def ln1 (A : Rw) (o : Nat) (best : Int32) : Int32 := if A (514 * o + 3) = 2 ∧ (best = -1 ∨ A (514 * best.toNatClampNeg + 1) < A (514 * o + 1)) then nI o else best
def qLeader (A : Rw) : Int32 := ln1 A 4 (ln1 A 3 (ln1 A 2 (ln1 A 1 (ln1 A 0 (-1)))))
theorem ln1_ok {A : Rw} {o : Nat} {b : Int32} (ho : o < 5) (h : b = -1 ∨ ∃ n : Nat, b = nI n ∧ n < 5 ∧ A (514 * n + 3) = 2) : ln1 A o b = -1 ∨ ∃ n : Nat, ln1 A o b = nI n ∧ n < 5 ∧ A (514 * n + 3) = 2 := by
  unfold ln1
  split
  · rename_i c; exact Or.inr ⟨o, rfl, ho, c.1⟩
  · exact h
theorem qLeader_ok {A : Rw} : qLeader A = -1 ∨ ∃ n : Nat, qLeader A = nI n ∧ n < 5 ∧ A (514 * n + 3) = 2 := ln1_ok (by decide) (ln1_ok (by decide) (ln1_ok (by decide) (ln1_ok (by decide) (ln1_ok (by decide) (Or.inl rfl)))))
def w_X12_leaderNow_45 (M : CT) (G : Nat → PT) (Rp : RT) : PT := tIload 1 <| tIret Rp
def w_X12_leaderNow_39 (M : CT) (G : Nat → PT) (Rp : RT) : PT := tIinc 2 1 <| tGoto (G 4)
def w_X12_leaderNow_37 (M : CT) (G : Nat → PT) (Rp : RT) : PT := tIload 2 <| tIstore 1 <| w_X12_leaderNow_39 M G Rp
def w_X12_leaderNow_4 (M : CT) (G : Nat → PT) (Rp : RT) : PT := tIload 2 <| tConst 5 <| tIf2 (fun x y => y ≤ x) (w_X12_leaderNow_45 M G Rp) <| tAload 0 <| tIload 2 <| tFn 2 F_X12_isLeader <| tIf (fun x => x = 0) (w_X12_leaderNow_39 M G Rp) <| tIload 1 <| tConst (-1) <| tIf2 (fun x y => x = y) (w_X12_leaderNow_37 M G Rp) <| tAload 0 <| tIload 2 <| tConst 1 <| tFn 3 F_X12_of <| tAload 0 <| tIload 1 <| tConst 1 <| tFn 3 F_X12_of <| tIf2 (fun x y => x ≤ y) (w_X12_leaderNow_39 M G Rp) <| w_X12_leaderNow_37 M G Rp
def w_X12_leaderNow_0 (M : CT) (G : Nat → PT) (Rp : RT) : PT := tConst (-1) <| tIstore 1 <| tConst 0 <| tIstore 2 <| G 4
set_option maxRecDepth 20000 in
theorem b_X12_leaderNow_45 {Z : Zt} {d : Nat} {p : Program} {e : Env} {R : Room} {s : State} {m : MethodId} {args : Array Value} {below : List Frame} {meth : Method} {c : Code} {Rp : RT} (C : Cx Z (d + 2) jX12_leaderNow RX12 p R s m args meth c) : Sd Z jX12_leaderNow p e R s m args below meth c (MQ below (QcS Z Rp) args s 0 0 (fun a => Z.2.2.1 < a)) 45 (w_X12_leaderNow_45 (MS Z (d + 2)) (Gw Z 3 p e R s m args below meth c (MQ below (QcS Z Rp) args s 0 0 (fun a => Z.2.2.1 < a))) Rp) := by
  unfold w_X12_leaderNow_45
  refine s_iload_n (k := 1) C (by decide +kernel) ?_
  exact s_iret C rfl (by decide +kernel)
set_option maxRecDepth 20000 in
theorem b_X12_leaderNow_39 {Z : Zt} {d : Nat} {p : Program} {e : Env} {R : Room} {s : State} {m : MethodId} {args : Array Value} {below : List Frame} {meth : Method} {c : Code} {Rp : RT} (C : Cx Z (d + 2) jX12_leaderNow RX12 p R s m args meth c) : Sd Z jX12_leaderNow p e R s m args below meth c (MQ below (QcS Z Rp) args s 0 0 (fun a => Z.2.2.1 < a)) 39 (w_X12_leaderNow_39 (MS Z (d + 2)) (Gw Z 3 p e R s m args below meth c (MQ below (QcS Z Rp) args s 0 0 (fun a => Z.2.2.1 < a))) Rp) := by
  unfold w_X12_leaderNow_39
  refine s_iinc (n := 1) C (by decide +kernel) (by decide) ?_
  exact s_goto (off := (-38)) (tgt := 4) C (by decide +kernel) (by decide) (fun _ _ _ _ _ _ h => h)
set_option maxRecDepth 20000 in
theorem b_X12_leaderNow_37 {Z : Zt} {d : Nat} {p : Program} {e : Env} {R : Room} {s : State} {m : MethodId} {args : Array Value} {below : List Frame} {meth : Method} {c : Code} {Rp : RT} (C : Cx Z (d + 2) jX12_leaderNow RX12 p R s m args meth c) : Sd Z jX12_leaderNow p e R s m args below meth c (MQ below (QcS Z Rp) args s 0 0 (fun a => Z.2.2.1 < a)) 37 (w_X12_leaderNow_37 (MS Z (d + 2)) (Gw Z 3 p e R s m args below meth c (MQ below (QcS Z Rp) args s 0 0 (fun a => Z.2.2.1 < a))) Rp) := by
  unfold w_X12_leaderNow_37
  refine s_iload_n (k := 2) C (by decide +kernel) ?_
  refine s_istore_n (k := 1) C (by decide +kernel) ?_
  exact (b_X12_leaderNow_39 C)
set_option maxRecDepth 20000 in
theorem b_X12_leaderNow_4 {Z : Zt} {d : Nat} {p : Program} {e : Env} {R : Room} {s : State} {m : MethodId} {args : Array Value} {below : List Frame} {meth : Method} {c : Code} {Rp : RT} (C : Cx Z (d + 2) jX12_leaderNow RX12 p R s m args meth c) : Sd Z jX12_leaderNow p e R s m args below meth c (MQ below (QcS Z Rp) args s 0 0 (fun a => Z.2.2.1 < a)) 4 (w_X12_leaderNow_4 (MS Z (d + 2)) (Gw Z 3 p e R s m args below meth c (MQ below (QcS Z Rp) args s 0 0 (fun a => Z.2.2.1 < a))) Rp) := by
  unfold w_X12_leaderNow_4
  refine s_iload_n (k := 2) C (by decide +kernel) ?_
  refine s_iconst (n := 5) C (by decide +kernel) (by decide) ?_
  refine s_icmp_ge (off := 39) (tgt := 45) C (by decide +kernel) (by decide) (b_X12_leaderNow_45 C) ?_
  refine s_aload_n (k := 0) C (by decide +kernel) ?_
  refine s_iload_n (k := 2) C (by decide +kernel) ?_
  refine s_fnV C (j2 := jX12_isLeader) (cl := 12) (nf := 27) rfl rfl (by decide +kernel) rfl w_6_236 w_6_238 w_p3_15 w_1_13 w_6_239 (by decide +kernel) (fun _ _ _ _ _ h => f_X12_isLeader h) (fun _ _ _ _ _ h => r_X12_isLeader h) ?_
  refine s_if_eq (off := 25) (tgt := 39) C (by decide +kernel) (by decide) (b_X12_leaderNow_39 C) ?_
  refine s_iload_n (k := 1) C (by decide +kernel) ?_
  refine s_iconst (n := (-1)) C (by decide +kernel) (by decide) ?_
  refine s_icmp_eq (off := 18) (tgt := 37) C (by decide +kernel) (by decide) (b_X12_leaderNow_37 C) ?_
  refine s_aload_n (k := 0) C (by decide +kernel) ?_
  refine s_iload_n (k := 2) C (by decide +kernel) ?_
  refine s_iconst (n := 1) C (by decide +kernel) (by decide) ?_
  refine s_fnV C (j2 := jX12_of) (cl := 12) (nf := 27) rfl rfl (by decide +kernel) rfl w_6_220 w_6_222 w_p3_11 w_1_13 w_6_223 (by decide +kernel) (fun _ _ _ _ _ h => f_X12_of h) (fun _ _ _ _ _ h => r_X12_of h) ?_
  refine s_aload_n (k := 0) C (by decide +kernel) ?_
  refine s_iload_n (k := 1) C (by decide +kernel) ?_
  refine s_iconst (n := 1) C (by decide +kernel) (by decide) ?_
  refine s_fnV C (j2 := jX12_of) (cl := 12) (nf := 27) rfl rfl (by decide +kernel) rfl w_6_220 w_6_222 w_p3_11 w_1_13 w_6_223 (by decide +kernel) (fun _ _ _ _ _ h => f_X12_of h) (fun _ _ _ _ _ h => r_X12_of h) ?_
  refine s_icmp_le (off := 5) (tgt := 39) C (by decide +kernel) (by decide) (b_X12_leaderNow_39 C) ?_
  exact (b_X12_leaderNow_37 C)
set_option maxRecDepth 20000 in
theorem b_X12_leaderNow_0 {Z : Zt} {d : Nat} {p : Program} {e : Env} {R : Room} {s : State} {m : MethodId} {args : Array Value} {below : List Frame} {meth : Method} {c : Code} {Rp : RT} (C : Cx Z (d + 2) jX12_leaderNow RX12 p R s m args meth c) : Sd Z jX12_leaderNow p e R s m args below meth c (MQ below (QcS Z Rp) args s 0 0 (fun a => Z.2.2.1 < a)) 0 (w_X12_leaderNow_0 (MS Z (d + 2)) (Gw Z 3 p e R s m args below meth c (MQ below (QcS Z Rp) args s 0 0 (fun a => Z.2.2.1 < a))) Rp) := by
  unfold w_X12_leaderNow_0
  refine s_iconst (n := (-1)) C (by decide +kernel) (by decide) ?_
  refine s_istore_n (k := 1) C (by decide +kernel) ?_
  refine s_iconst (n := 0) C (by decide +kernel) (by decide) ?_
  refine s_istore_n (k := 2) C (by decide +kernel) ?_
  exact (fun _ _ _ _ _ _ h => h)
theorem ms_X12_leaderNow {Z : Zt} {d : Nat} {S : Sh} {μ : Mi} {ρ : Mr} {Rp : RT} (a0 : Nat) (h : ∀ G : Nat → PT, (∀ (L st : List Value) (S : Sh) (q : Nat × Nat) (μ : Mi) (ρ : Mr), w_X12_leaderNow_4 (MS Z (d + 2)) G Rp L st S q μ ρ → G 4 L st S q μ ρ) → w_X12_leaderNow_0 (MS Z (d + 2)) G Rp [.ref a0, .null, .null] [] S (0, 0) μ ρ) : MS Z (d + 3) jX12_leaderNow [.ref a0] S μ ρ Rp :=
  MS_of [.ref a0, .null, .null] (by decide +kernel) rfl rfl (Nat.le_of_ble_eq_true rfl) rfl (fun p e R s m args below meth c C => b_X12_leaderNow_0 C _ _ _ _ _ _ (h _ (b_X12_leaderNow_4 C)))
def F_X12_leaderNow : FT := fun As S μ ρ k => match As with
  | [.ref a] => a = 2737 ∧ RS S ρ ∧ k (some (.int (qLeader (μ 2738)))) μ
  | _ => False
theorem r_X12_leaderNow {As S μ ρ k} (h : F_X12_leaderNow As S μ ρ k) : ∃ a As', As = Value.ref a :: As' ∧ S.2 a = (12, 27) := by
  unfold F_X12_leaderNow at h
  split at h
  · exact ⟨_, _, rfl, by rw [h.1]; exact h.2.1.1⟩
  · exact h.elim
set_option maxHeartbeats 1000000 in
theorem f_X12_leaderNow {Z : Zt} {d : Nat} {As : List Value} {S : Sh} {μ : Mi} {ρ : Mr} {Rp : RT} (h : F_X12_leaderNow As S μ ρ (fun r μ' => Rp r S μ' ρ)) : MS Z (d + 3) jX12_leaderNow As S μ ρ Rp := by
  unfold F_X12_leaderNow at h
  split at h
  · rename_i a
    obtain ⟨rfl, hS, h⟩ := h
    have hS0 := hS
    unfold RS at hS
    refine ms_X12_leaderNow _ (fun G g4 => ?_)
    have step : ∀ (o : Nat) (best : Int32), o < 5 → (best = -1 ∨ ∃ n : Nat, best = nI n ∧ n < 5 ∧ μ 2738 (514 * n + 3) = 2) → G 4 [.ref 2737, .int (ln1 (μ 2738) o best), .int (nI (o + 1))] [] S (0, 0) μ ρ → G 4 [.ref 2737, .int best, .int (nI o)] [] S (0, 0) μ ρ := by
      intro o best ho hb hG
      have hro := rg_T (lo := 0) (hi := 4) (n := o) (by omega) (by omega) (by omega)
      have i1 : (514 : Int32) * nI o + 1 = nI (514 * o + 1) := ixs 1 1 rfl
      have b1 : inb (nI (514 * o + 1)) 13548 := inb_nI (by omega) (by decide)
      refine g4 _ _ _ _ _ _ ?_
      unfold ln1 at hG
      simp only [w_X12_leaderNow_4, w_X12_leaderNow_37, w_X12_leaderNow_39, tAload, tIload, nth, tGetI, tGetR, tConst, tLconst, tBin, tUn, tI2l, tAld, tAldR, tAlen, tIast, tBast, tZast, tAast, tIret, tZret, tVret, tAret, tIf, tIf2, tGoto, tIstore, tAstore, sset, tIinc, tDup, tDup2, tPop, tPutI, tPutZ, tPutR, tCallV, tCallS, popN, tFn, tCopy, tMax, tMin, tSw, swc, tRem, tObjI, Option.toList, List.nil_append, List.cons_append, okR, true_and, and_true, true_or, or_true, Nat.zero_le, ne_eq, not_false_eq_true, Nat.reduceEqDiff, F_X12_isLeader, F_X12_of, hS0, hro, i1, b1, b2_z, Decidable.not_not, nI_1]
      simp (disch := omega) only [nI_clamp]
      refine ⟨fun z => absurd z (lt5' o ho), fun _ => ⟨fun c => ?_, fun c => ⟨fun c2 => ?_, fun c2 => ?_⟩⟩⟩
      · rw [if_neg (fun z => c z.1)] at hG; exact hG
      · rw [if_pos ⟨c, Or.inl c2⟩] at hG; exact hG
      · rcases hb with hb | ⟨n, rfl, hn, hl⟩
        · exact absurd hb c2
        · rw [ixs 1 1 rfl]
          simp (disch := omega) only [nI_clamp, nI_inb]
          rw [nI_clamp (by omega)] at hG
          refine ⟨by omega, fun c3 => ?_, fun c3 => ?_⟩
          · rw [if_neg (fun z => z.2.elim c2 (fun z => absurd z (Int32.not_lt.mpr c3)))] at hG; exact hG
          · rw [if_pos ⟨c, Or.inr (Int32.not_le.mp c3)⟩] at hG; exact hG
    simp only [w_X12_leaderNow_0, tAload, tIload, nth, tGetI, tGetR, tConst, tLconst, tBin, tUn, tI2l, tAld, tAldR, tAlen, tIast, tBast, tZast, tAast, tIret, tZret, tVret, tAret, tIf, tIf2, tGoto, tIstore, tAstore, sset, tIinc, tDup, tDup2, tPop, tPutI, tPutZ, tPutR, tCallV, tCallS, popN, tFn, tCopy, tMax, tMin, tSw, swc, tRem, tObjI, Option.toList, List.nil_append, List.cons_append, okR, true_and, and_true, true_or, or_true, Nat.zero_le, ne_eq, not_false_eq_true, Nat.reduceEqDiff]
    have q0 : (-1 : Int32) = -1 ∨ ∃ n : Nat, (-1 : Int32) = nI n ∧ n < 5 ∧ μ 2738 (514 * n + 3) = 2 := Or.inl rfl
    refine step 0 _ (by decide) q0 (step 1 _ (by decide) (ln1_ok (by decide) q0) (step 2 _ (by decide) (ln1_ok (by decide) (ln1_ok (by decide) q0)) (step 3 _ (by decide) (ln1_ok (by decide) (ln1_ok (by decide) (ln1_ok (by decide) q0))) (step 4 _ (by decide) (ln1_ok (by decide) (ln1_ok (by decide) (ln1_ok (by decide) (ln1_ok (by decide) q0)))) ?_))))
    refine g4 _ _ _ _ _ _ ?_
    simp only [w_X12_leaderNow_4, w_X12_leaderNow_45, tAload, tIload, nth, tGetI, tGetR, tConst, tLconst, tBin, tUn, tI2l, tAld, tAldR, tAlen, tIast, tBast, tZast, tAast, tIret, tZret, tVret, tAret, tIf, tIf2, tGoto, tIstore, tAstore, sset, tIinc, tDup, tDup2, tPop, tPutI, tPutZ, tPutR, tCallV, tCallS, popN, tFn, tCopy, tMax, tMin, tSw, swc, tRem, tObjI, Option.toList, List.nil_append, List.cons_append, okR, true_and, and_true, true_or, or_true, Nat.zero_le, ne_eq, not_false_eq_true, Nat.reduceEqDiff]
    exact ⟨fun _ => h, fun z => absurd (by decide) z⟩
  · exact h.elim
def w_X12_leader_0 (M : CT) (G : Nat → PT) (Rp : RT) : PT := tAload 0 <| tConst 0 <| tPutI 12 27 0 <| tAload 0 <| tFn 1 F_X12_leaderNow <| tIret Rp
set_option maxRecDepth 20000 in
theorem b_X12_leader_0 {Z : Zt} {d : Nat} {p : Program} {e : Env} {R : Room} {s : State} {m : MethodId} {args : Array Value} {below : List Frame} {meth : Method} {c : Code} {Rp : RT} (C : Cx Z (d + 3) jX12_leader RX12 p R s m args meth c) : Sd Z jX12_leader p e R s m args below meth c (MQ below (QcS Z Rp) args s 0 0 (fun a => Z.2.2.1 < a)) 0 (w_X12_leader_0 (MS Z (d + 3)) (Gw Z 1 p e R s m args below meth c (MQ below (QcS Z Rp) args s 0 0 (fun a => Z.2.2.1 < a))) Rp) := by
  unfold w_X12_leader_0
  refine s_aload_n (k := 0) C (by decide +kernel) ?_
  refine s_iconst (n := 0) C (by decide +kernel) (by decide) ?_
  refine s_putI C w_6_87 (by decide +kernel) rfl (Or.inl rfl) ?_
  refine s_aload_n (k := 0) C (by decide +kernel) ?_
  refine s_fnV C (j2 := jX12_leaderNow) (cl := 12) (nf := 27) rfl rfl (by decide +kernel) rfl w_8_185 w_8_187 w_p8_3 w_1_13 w_8_188 (by decide +kernel) (fun _ _ _ _ _ h => f_X12_leaderNow h) (fun _ _ _ _ _ h => r_X12_leaderNow h) ?_
  exact s_iret C rfl (by decide +kernel)
theorem ms_X12_leader {Z : Zt} {d : Nat} {S : Sh} {μ : Mi} {ρ : Mr} {Rp : RT} (a0 : Nat) (h : ∀ G : Nat → PT, w_X12_leader_0 (MS Z (d + 3)) G Rp [.ref a0] [] S (0, 0) μ ρ) : MS Z (d + 4) jX12_leader [.ref a0] S μ ρ Rp :=
  MS_of [.ref a0] (by decide +kernel) rfl rfl (Nat.le_of_ble_eq_true rfl) rfl (fun p e R s m args below meth c C => b_X12_leader_0 C _ _ _ _ _ _ (h _ ))
def F_X12_leader : FT := fun As S μ ρ k => match As with
  | [.ref a] => a = 2737 ∧ RS S ρ ∧ ∀ μ', RQ μ μ' (μ 2738) (μ 2739) (μ 2737 6) → k (some (.int (qLeader (μ 2738)))) μ'
  | _ => False
theorem r_X12_leader {As S μ ρ k} (h : F_X12_leader As S μ ρ k) : ∃ a As', As = Value.ref a :: As' ∧ S.2 a = (12, 27) := by
  unfold F_X12_leader at h
  split at h
  · exact ⟨_, _, rfl, by rw [h.1]; exact h.2.1.1⟩
  · exact h.elim
set_option maxHeartbeats 1000000 in
theorem f_X12_leader {Z : Zt} {d : Nat} {As : List Value} {S : Sh} {μ : Mi} {ρ : Mr} {Rp : RT} (h : F_X12_leader As S μ ρ (fun r μ' => Rp r S μ' ρ)) : MS Z (d + 4) jX12_leader As S μ ρ Rp := by
  unfold F_X12_leader at h
  split at h
  · rename_i a
    obtain ⟨rfl, hS, h⟩ := h
    have hS0 := hS
    unfold RS at hS
    have hq := h _ RQ_0
    refine ms_X12_leader _ (fun G => ?_)
    simp only [w_X12_leader_0, tAload, tIload, nth, tGetI, tGetR, tConst, tLconst, tBin, tUn, tI2l, tAld, tAldR, tAlen, tIast, tBast, tZast, tAast, tIret, tZret, tVret, tAret, tIf, tIf2, tGoto, tIstore, tAstore, sset, tIinc, tDup, tDup2, tPop, tPutI, tPutZ, tPutR, tCallV, tCallS, popN, tFn, tCopy, tMax, tMin, tSw, swc, tRem, tObjI, Option.toList, List.nil_append, List.cons_append, okR, true_and, and_true, true_or, or_true, Nat.zero_le, ne_eq, not_false_eq_true, Nat.reduceEqDiff, F_X12_leaderNow, hS0, hS, e6, M6_row]
    exact hq
  · exact h.elim
def aBegin (A : Rw) (m : Int32) : Int32 × Rw := if ¬ rgd m 1 31 then (-3, A) else (cnt5 m, qInit A m)
theorem cnt5_pos (m : Int32) : ¬ cnt5 m < 0 := by
  have h1 : ∀ x : Int32, (x &&& 1) = 0 ∨ (x &&& 1) = 1 := by
    intro x
    rcases Nat.mod_two_eq_zero_or_one x.toBitVec.toNat with z | z
    · left
      refine Int32.toBitVec_inj.mp (BitVec.eq_of_toNat_eq ?_)
      rw [Int32.toBitVec_and, BitVec.toNat_and]
      show x.toBitVec.toNat &&& 1 = 0
      rw [Nat.and_one_is_mod]; exact z
    · right
      refine Int32.toBitVec_inj.mp (BitVec.eq_of_toNat_eq ?_)
      rw [Int32.toBitVec_and, BitVec.toNat_and]
      show x.toBitVec.toNat &&& 1 = 1
      rw [Nat.and_one_is_mod]; exact z
  unfold cnt5
  rcases h1 m with a | a <;> rcases h1 (m >>> (1 : Int32)) with b | b <;> rcases h1 (m >>> (2 : Int32)) with c | c <;> rcases h1 (m >>> (3 : Int32)) with d | d <;> rcases h1 (m >>> (4 : Int32)) with e | e <;> rw [a, b, c, d, e] <;> decide
def w_X12_begin_20 (M : CT) (G : Nat → PT) (Rp : RT) : PT := tAload 0 <| tFn 1 F_X12_begins <| tAload 0 <| tIload 1 <| tFn 2 F_X12_laysAll <| tAload 0 <| tIload 1 <| tFn 1 F_X12_bits <| tFn 2 F_X12_ends <| tIret Rp
def w_X12_begin_0 (M : CT) (G : Nat → PT) (Rp : RT) : PT := tAload 0 <| tConst 0 <| tPutI 12 27 0 <| tIload 1 <| tI2l <| tLconst 1 <| tLconst 31 <| tFn 3 F_X12_within <| tIf (fun x => x ≠ 0) (w_X12_begin_20 M G Rp) <| tConst (-3) <| tIret Rp
set_option maxRecDepth 20000 in
theorem b_X12_begin_20 {Z : Zt} {d : Nat} {p : Program} {e : Env} {R : Room} {s : State} {m : MethodId} {args : Array Value} {below : List Frame} {meth : Method} {c : Code} {Rp : RT} (C : Cx Z (d + 2) jX12_begin RX12 p R s m args meth c) : Sd Z jX12_begin p e R s m args below meth c (MQ below (QcS Z Rp) args s 0 0 (fun a => Z.2.2.1 < a)) 20 (w_X12_begin_20 (MS Z (d + 2)) (Gw Z 2 p e R s m args below meth c (MQ below (QcS Z Rp) args s 0 0 (fun a => Z.2.2.1 < a))) Rp) := by
  unfold w_X12_begin_20
  refine s_aload_n (k := 0) C (by decide +kernel) ?_
  refine s_fnV C (j2 := jX12_begins) (cl := 12) (nf := 27) rfl rfl (by decide +kernel) rfl w_6_178 w_6_180 w_p3_5 w_1_13 w_6_181 (by decide +kernel) (fun _ _ _ _ _ h => f_X12_begins h) (fun _ _ _ _ _ h => r_X12_begins h) ?_
  refine s_aload_n (k := 0) C (by decide +kernel) ?_
  refine s_iload_n (k := 1) C (by decide +kernel) ?_
  refine s_fnV C (j2 := jX12_laysAll) (cl := 12) (nf := 27) rfl rfl (by decide +kernel) rfl w_6_78 w_6_80 w_p3_3 w_1_13 w_6_81 (by decide +kernel) (fun _ _ _ _ _ h => f_X12_laysAll h) (fun _ _ _ _ _ h => r_X12_laysAll h) ?_
  refine s_aload_n (k := 0) C (by decide +kernel) ?_
  refine s_iload_n (k := 1) C (by decide +kernel) ?_
  refine s_fnS C (j2 := jX12_bits) (by decide +kernel) rfl w_6_185 w_6_186 w_1_13 w_6_187 (by decide +kernel) (fun _ _ _ _ _ h => f_X12_bits h) ?_
  refine s_fnV C (j2 := jX12_ends) (cl := 12) (nf := 27) rfl rfl (by decide +kernel) rfl w_6_188 w_6_190 w_p3_6 w_1_13 w_6_191 (by decide +kernel) (fun _ _ _ _ _ h => f_X12_ends h) (fun _ _ _ _ _ h => r_X12_ends h) ?_
  exact s_iret C rfl (by decide +kernel)
set_option maxRecDepth 20000 in
theorem b_X12_begin_0 {Z : Zt} {d : Nat} {p : Program} {e : Env} {R : Room} {s : State} {m : MethodId} {args : Array Value} {below : List Frame} {meth : Method} {c : Code} {Rp : RT} (C : Cx Z (d + 2) jX12_begin RX12 p R s m args meth c) : Sd Z jX12_begin p e R s m args below meth c (MQ below (QcS Z Rp) args s 0 0 (fun a => Z.2.2.1 < a)) 0 (w_X12_begin_0 (MS Z (d + 2)) (Gw Z 2 p e R s m args below meth c (MQ below (QcS Z Rp) args s 0 0 (fun a => Z.2.2.1 < a))) Rp) := by
  unfold w_X12_begin_0
  refine s_aload_n (k := 0) C (by decide +kernel) ?_
  refine s_iconst (n := 0) C (by decide +kernel) (by decide) ?_
  refine s_putI C w_6_87 (by decide +kernel) rfl (Or.inl rfl) ?_
  refine s_iload_n (k := 1) C (by decide +kernel) ?_
  refine s_i2l C (by decide +kernel) ?_
  refine s_lconst (n := 1) C (by decide +kernel) (by decide) ?_
  refine s_ldc2 C w_6_174 (by decide +kernel) ?_
  refine s_fnS C (j2 := jX12_within) (by decide +kernel) rfl w_6_175 w_6_176 w_1_13 w_6_177 (by decide +kernel) (fun _ _ _ _ _ h => f_X12_within h) ?_
  refine s_if_ne (off := 6) (tgt := 20) C (by decide +kernel) (by decide) (b_X12_begin_20 C) ?_
  refine s_bipush (n := (-3)) C (by decide +kernel) (by decide) ?_
  exact s_iret C rfl (by decide +kernel)
theorem ms_X12_begin {Z : Zt} {d : Nat} {S : Sh} {μ : Mi} {ρ : Mr} {Rp : RT} (a0 : Nat) (x1 : Int32) (h : ∀ G : Nat → PT, w_X12_begin_0 (MS Z (d + 2)) G Rp [.ref a0, .int x1] [] S (0, 0) μ ρ) : MS Z (d + 3) jX12_begin [.ref a0, .int x1] S μ ρ Rp :=
  MS_of [.ref a0, .int x1] (by decide +kernel) rfl rfl (Nat.le_of_ble_eq_true rfl) rfl (fun p e R s m args below meth c C => b_X12_begin_0 C _ _ _ _ _ _ (h _ ))
def F_X12_begin : FT := fun As S μ ρ k => match As with
  | [.ref a, .int m] => a = 2737 ∧ RS S ρ ∧ rg (μ 2737 6) 0 8 ∧ ∀ μ', RQ μ μ' (aBegin (μ 2738) m).2 (if (aBegin (μ 2738) m).1 < 0 then μ 2739 else (pushD (μ 2738) (μ 2739) (μ 2737 6)).1) (if (aBegin (μ 2738) m).1 < 0 then μ 2737 6 else (pushD (μ 2738) (μ 2739) (μ 2737 6)).2) → k (some (.int (aBegin (μ 2738) m).1)) μ'
  | _ => False
theorem r_X12_begin {As S μ ρ k} (h : F_X12_begin As S μ ρ k) : ∃ a As', As = Value.ref a :: As' ∧ S.2 a = (12, 27) := by
  unfold F_X12_begin at h
  split at h
  · exact ⟨_, _, rfl, by rw [h.1]; exact h.2.1.1⟩
  · exact h.elim
set_option maxHeartbeats 1000000 in
theorem f_X12_begin {Z : Zt} {d : Nat} {As : List Value} {S : Sh} {μ : Mi} {ρ : Mr} {Rp : RT} (h : F_X12_begin As S μ ρ (fun r μ' => Rp r S μ' ρ)) : MS Z (d + 3) jX12_begin As S μ ρ Rp := by
  unfold F_X12_begin at h
  split at h
  · rename_i a m
    obtain ⟨rfl, hS, h⟩ := h
    have hS0 := hS
    unfold RS at hS
    obtain ⟨h1, h⟩ := h
    unfold aBegin at h
    refine ms_X12_begin _ _ (fun G => ?_)
    simp only [w_X12_begin_0, tAload, tIload, nth, tGetI, tGetR, tConst, tLconst, tBin, tUn, tI2l, tAld, tAldR, tAlen, tIast, tBast, tZast, tAast, tIret, tZret, tVret, tAret, tIf, tIf2, tGoto, tIstore, tAstore, sset, tIinc, tDup, tDup2, tPop, tPutI, tPutZ, tPutR, tCallV, tCallS, popN, tFn, tCopy, tMax, tMin, tSw, swc, tRem, tObjI, Option.toList, List.nil_append, List.cons_append, okR, true_and, and_true, true_or, or_true, Nat.zero_le, ne_eq, not_false_eq_true, Nat.reduceEqDiff, F_X12_within, hS0, hS, e6, b2_z, Decidable.not_not, l_leC, l_geC, il_1, il_31]
    refine ⟨fun c => ?_, fun c => ?_⟩
    · simp only [not_not_intro c, if_false] at h
      have e1 : M6 μ 2741 = μ 2741 := M6_out (by decide)
      simp only [w_X12_begin_20, tAload, tIload, nth, tGetI, tGetR, tConst, tLconst, tBin, tUn, tI2l, tAld, tAldR, tAlen, tIast, tBast, tZast, tAast, tIret, tZret, tVret, tAret, tIf, tIf2, tGoto, tIstore, tAstore, sset, tIinc, tDup, tDup2, tPop, tPutI, tPutZ, tPutR, tCallV, tCallS, popN, tFn, tCopy, tMax, tMin, tSw, swc, tRem, tObjI, Option.toList, List.nil_append, List.cons_append, okR, true_and, and_true, true_or, or_true, Nat.zero_le, ne_eq, not_false_eq_true, Nat.reduceEqDiff, F_X12_begins, F_X12_laysAll, F_X12_bits, F_X12_ends, hS0, M6_row, e1]
      rw [show upF (M6 μ) 2741 (cpF (μ 2738) (μ 2741) 0 0 4516) = M5 μ from rfl, (M5_at μ).1]
      have ev : upF (M5 μ) 2738 (qInit (μ 2738) m) = M4 (M5 μ) (M5 μ 2744) (M5 μ 2737 8, M5 μ 2737 9, M5 μ 2737 10, M5 μ 2737 11) (qInit (μ 2738) m) := by
        unfold M4 M3
        rw [upF_id, setM_self]
      rw [ev]
      refine ⟨?_, ?_⟩
      · rw [M4_f (by decide), (M5_at μ).2.2.1]; exact h1
      · exact act_end (Q := fun ν => Rp (some (.int (cnt5 m))) S ν ρ) h
    · have := h (M6 μ)
      rw [if_pos c] at this
      simp only [show ((-3 : Int32) < 0) = True from eq_true (by decide), if_true] at this
      exact this RQ_0
  · exact h.elim
