/-! ===== the reference: script ===== -/
/-- what matters of the reference's memory, the script's fields too -/
def SQ (μ μ' : Mi) (A D : Rw) (n tp w wa hc ha : Int32) : Prop := (∀ a, a < 2737 ∨ 2747 < a → μ' a = μ a) ∧ μ' 2738 = A ∧ μ' 2739 = D ∧ μ' 2737 6 = n ∧ μ' 2743 = μ 2743 ∧ μ' 2745 = μ 2745 ∧ μ' 2746 = μ 2746 ∧ μ' 2737 14 = tp ∧ μ' 2737 17 = w ∧ μ' 2737 18 = wa ∧ μ' 2737 19 = hc ∧ μ' 2737 20 = ha
/-- the script is read -/
def sRd (T : Rw) (n : Nat) (E : Es) : Ps × Es := pActs T n 0 3 ((0, 0, -1), (0, E.2))
/-- what is wrong, and where -/
def sWr (n : Nat) (X : Ps × Es) : Int32 × Int32 := if ¬ X.1.2.1 = 0 ∨ n ≤ X.1.1 then X.1.2 else fl X.1.2.1 X.1.2.2 1 (nI X.1.1)
/-- the script is done -/
def sDo (T : Rw) (n : Nat) (X : Ps × Es) : Ps × Es := pActs T n 1 3 ((0, sWr n X), (X.2.1, 0, 0, -1, X.2.2.2.2.2))
def bt (v : Int32) (k : Nat) : Int32 := ((v >>> (((24 : Int32) - 8 * (nI k - nI k / 4 * 4)) &&& 31)).toInt8.toInt32).toInt8.toInt32
def fdV (x y z u v : Int32) (k : Nat) : Int32 := if ¬ (4 : Int32) ≤ nI k then x else if ¬ (8 : Int32) ≤ nI k then y else if ¬ (12 : Int32) ≤ nI k then z else if ¬ (16 : Int32) ≤ nI k then u else v
def fdT (T : Rw) (tp : Nat) (x y z u v : Int32) (m : Nat) : Rw := fun i => if tp ≤ i ∧ i < tp + m then bt (fdV x y z u v (i - tp)) (i - tp) else T i
theorem fdT_s {T : Rw} {tp m : Nat} {x y z u v : Int32} : up (fdT T tp x y z u v m) (tp + m) (bt (fdV x y z u v m) m) = fdT T tp x y z u v (m + 1) := by
  funext i
  unfold up fdT
  by_cases h : i = tp + m
  · rw [if_pos h, if_pos (by omega), show i - tp = m by omega]
  · rw [if_neg h]
    by_cases h2 : tp ≤ i ∧ i < tp + m
    · rw [if_pos h2, if_pos (by omega)]
    · rw [if_neg h2, if_neg (by omega)]
def w_X12_feed_118 (M : CT) (G : Nat → PT) (Rp : RT) : PT := tAload 0 <| tGetI 12 27 14 <| tIret Rp
def w_X12_feed_77 (M : CT) (G : Nat → PT) (Rp : RT) : PT := tIstore 7 <| tAload 0 <| tGetR 12 27 13 <| tAload 0 <| tGetI 12 27 14 <| tIload 7 <| tConst 24 <| tConst 8 <| tIload 6 <| tConst 4 <| tRem <| tBin (fun x y => x * y) <| tBin (fun x y => x - y) <| tBin (fun x y => x >>> (y &&& 31)) <| tUn (fun x => x.toInt8.toInt32) <| tBast <| tAload 0 <| tDup <| tGetI 12 27 14 <| tConst 1 <| tBin (fun x y => x + y) <| tPutI 12 27 14 <| tIinc 6 1 <| tGoto (G 24)
def w_X12_feed_75 (M : CT) (G : Nat → PT) (Rp : RT) : PT := tIload 5 <| w_X12_feed_77 M G Rp
def w_X12_feed_63 (M : CT) (G : Nat → PT) (Rp : RT) : PT := tIload 6 <| tConst 16 <| tIf2 (fun x y => y ≤ x) (w_X12_feed_75 M G Rp) <| tIload 4 <| tGoto (w_X12_feed_77 M G Rp)
def w_X12_feed_52 (M : CT) (G : Nat → PT) (Rp : RT) : PT := tIload 6 <| tConst 12 <| tIf2 (fun x y => y ≤ x) (w_X12_feed_63 M G Rp) <| tIload 3 <| tGoto (w_X12_feed_77 M G Rp)
def w_X12_feed_41 (M : CT) (G : Nat → PT) (Rp : RT) : PT := tIload 6 <| tConst 8 <| tIf2 (fun x y => y ≤ x) (w_X12_feed_52 M G Rp) <| tIload 2 <| tGoto (w_X12_feed_77 M G Rp)
def w_X12_feed_24 (M : CT) (G : Nat → PT) (Rp : RT) : PT := tIload 6 <| tConst 20 <| tIf2 (fun x y => y ≤ x) (w_X12_feed_118 M G Rp) <| tIload 6 <| tConst 4 <| tIf2 (fun x y => y ≤ x) (w_X12_feed_41 M G Rp) <| tIload 1 <| tGoto (w_X12_feed_77 M G Rp)
def w_X12_feed_21 (M : CT) (G : Nat → PT) (Rp : RT) : PT := tConst 0 <| tIstore 6 <| G 24
def w_X12_feed_0 (M : CT) (G : Nat → PT) (Rp : RT) : PT := tAload 0 <| tConst 0 <| tPutI 12 27 0 <| tAload 0 <| tGetI 12 27 14 <| tConst 20 <| tBin (fun x y => x + y) <| tConst 300 <| tIf2 (fun x y => x ≤ y) (w_X12_feed_21 M G Rp) <| tConst (-4) <| tIret Rp
set_option maxRecDepth 20000 in
theorem b_X12_feed_118 {Z : Zt} {d : Nat} {p : Program} {e : Env} {R : Room} {s : State} {m : MethodId} {args : Array Value} {below : List Frame} {meth : Method} {c : Code} {Rp : RT} (C : Cx Z d jX12_feed RX12 p R s m args meth c) : Sd Z jX12_feed p e R s m args below meth c (MQ below (QcS Z Rp) args s 0 0 (fun a => Z.2.2.1 < a)) 118 (w_X12_feed_118 (MS Z d) (Gw Z 8 p e R s m args below meth c (MQ below (QcS Z Rp) args s 0 0 (fun a => Z.2.2.1 < a))) Rp) := by
  unfold w_X12_feed_118
  refine s_aload_n (k := 0) C (by decide +kernel) ?_
  refine s_getI C w_6_101 (by decide +kernel) rfl ?_
  exact s_iret C rfl (by decide +kernel)
set_option maxRecDepth 20000 in
theorem b_X12_feed_77 {Z : Zt} {d : Nat} {p : Program} {e : Env} {R : Room} {s : State} {m : MethodId} {args : Array Value} {below : List Frame} {meth : Method} {c : Code} {Rp : RT} (C : Cx Z d jX12_feed RX12 p R s m args meth c) : Sd Z jX12_feed p e R s m args below meth c (MQ below (QcS Z Rp) args s 0 0 (fun a => Z.2.2.1 < a)) 77 (w_X12_feed_77 (MS Z d) (Gw Z 8 p e R s m args below meth c (MQ below (QcS Z Rp) args s 0 0 (fun a => Z.2.2.1 < a))) Rp) := by
  unfold w_X12_feed_77
  refine s_istore (k := 7) C (by decide +kernel) ?_
  refine s_aload_n (k := 0) C (by decide +kernel) ?_
  refine s_getR C w_6_100 (by decide +kernel) rfl ?_
  refine s_aload_n (k := 0) C (by decide +kernel) ?_
  refine s_getI C w_6_101 (by decide +kernel) rfl ?_
  refine s_iload (k := 7) C (by decide +kernel) ?_
  refine s_bipush (n := 24) C (by decide +kernel) (by decide) ?_
  refine s_bipush (n := 8) C (by decide +kernel) (by decide) ?_
  refine s_iload (k := 6) C (by decide +kernel) ?_
  refine s_iconst (n := 4) C (by decide +kernel) (by decide) ?_
  refine s_irem C (by decide +kernel) ?_
  refine s_imul C (by decide +kernel) ?_
  refine s_isub C (by decide +kernel) ?_
  refine s_ishr C (by decide +kernel) ?_
  refine s_i2b C (by decide +kernel) ?_
  refine s_bast C (by decide +kernel) ?_
  refine s_aload_n (k := 0) C (by decide +kernel) ?_
  refine s_dup C (by decide +kernel) ?_
  refine s_getI C w_6_101 (by decide +kernel) rfl ?_
  refine s_iconst (n := 1) C (by decide +kernel) (by decide) ?_
  refine s_iadd C (by decide +kernel) ?_
  refine s_putI C w_6_101 (by decide +kernel) rfl (Or.inl rfl) ?_
  refine s_iinc (n := 1) C (by decide +kernel) (by decide) ?_
  exact s_goto (off := (-91)) (tgt := 24) C (by decide +kernel) (by decide) (fun _ _ _ _ _ _ h => h)
set_option maxRecDepth 20000 in
theorem b_X12_feed_75 {Z : Zt} {d : Nat} {p : Program} {e : Env} {R : Room} {s : State} {m : MethodId} {args : Array Value} {below : List Frame} {meth : Method} {c : Code} {Rp : RT} (C : Cx Z d jX12_feed RX12 p R s m args meth c) : Sd Z jX12_feed p e R s m args below meth c (MQ below (QcS Z Rp) args s 0 0 (fun a => Z.2.2.1 < a)) 75 (w_X12_feed_75 (MS Z d) (Gw Z 8 p e R s m args below meth c (MQ below (QcS Z Rp) args s 0 0 (fun a => Z.2.2.1 < a))) Rp) := by
  unfold w_X12_feed_75
  refine s_iload (k := 5) C (by decide +kernel) ?_
  exact (b_X12_feed_77 C)
set_option maxRecDepth 20000 in
theorem b_X12_feed_63 {Z : Zt} {d : Nat} {p : Program} {e : Env} {R : Room} {s : State} {m : MethodId} {args : Array Value} {below : List Frame} {meth : Method} {c : Code} {Rp : RT} (C : Cx Z d jX12_feed RX12 p R s m args meth c) : Sd Z jX12_feed p e R s m args below meth c (MQ below (QcS Z Rp) args s 0 0 (fun a => Z.2.2.1 < a)) 63 (w_X12_feed_63 (MS Z d) (Gw Z 8 p e R s m args below meth c (MQ below (QcS Z Rp) args s 0 0 (fun a => Z.2.2.1 < a))) Rp) := by
  unfold w_X12_feed_63
  refine s_iload (k := 6) C (by decide +kernel) ?_
  refine s_bipush (n := 16) C (by decide +kernel) (by decide) ?_
  refine s_icmp_ge (off := 8) (tgt := 75) C (by decide +kernel) (by decide) (b_X12_feed_75 C) ?_
  refine s_iload (k := 4) C (by decide +kernel) ?_
  exact s_goto (off := 5) (tgt := 77) C (by decide +kernel) (by decide) (b_X12_feed_77 C)
set_option maxRecDepth 20000 in
theorem b_X12_feed_52 {Z : Zt} {d : Nat} {p : Program} {e : Env} {R : Room} {s : State} {m : MethodId} {args : Array Value} {below : List Frame} {meth : Method} {c : Code} {Rp : RT} (C : Cx Z d jX12_feed RX12 p R s m args meth c) : Sd Z jX12_feed p e R s m args below meth c (MQ below (QcS Z Rp) args s 0 0 (fun a => Z.2.2.1 < a)) 52 (w_X12_feed_52 (MS Z d) (Gw Z 8 p e R s m args below meth c (MQ below (QcS Z Rp) args s 0 0 (fun a => Z.2.2.1 < a))) Rp) := by
  unfold w_X12_feed_52
  refine s_iload (k := 6) C (by decide +kernel) ?_
  refine s_bipush (n := 12) C (by decide +kernel) (by decide) ?_
  refine s_icmp_ge (off := 7) (tgt := 63) C (by decide +kernel) (by decide) (b_X12_feed_63 C) ?_
  refine s_iload_n (k := 3) C (by decide +kernel) ?_
  exact s_goto (off := 17) (tgt := 77) C (by decide +kernel) (by decide) (b_X12_feed_77 C)
set_option maxRecDepth 20000 in
theorem b_X12_feed_41 {Z : Zt} {d : Nat} {p : Program} {e : Env} {R : Room} {s : State} {m : MethodId} {args : Array Value} {below : List Frame} {meth : Method} {c : Code} {Rp : RT} (C : Cx Z d jX12_feed RX12 p R s m args meth c) : Sd Z jX12_feed p e R s m args below meth c (MQ below (QcS Z Rp) args s 0 0 (fun a => Z.2.2.1 < a)) 41 (w_X12_feed_41 (MS Z d) (Gw Z 8 p e R s m args below meth c (MQ below (QcS Z Rp) args s 0 0 (fun a => Z.2.2.1 < a))) Rp) := by
  unfold w_X12_feed_41
  refine s_iload (k := 6) C (by decide +kernel) ?_
  refine s_bipush (n := 8) C (by decide +kernel) (by decide) ?_
  refine s_icmp_ge (off := 7) (tgt := 52) C (by decide +kernel) (by decide) (b_X12_feed_52 C) ?_
  refine s_iload_n (k := 2) C (by decide +kernel) ?_
  exact s_goto (off := 28) (tgt := 77) C (by decide +kernel) (by decide) (b_X12_feed_77 C)
set_option maxRecDepth 20000 in
theorem b_X12_feed_24 {Z : Zt} {d : Nat} {p : Program} {e : Env} {R : Room} {s : State} {m : MethodId} {args : Array Value} {below : List Frame} {meth : Method} {c : Code} {Rp : RT} (C : Cx Z d jX12_feed RX12 p R s m args meth c) : Sd Z jX12_feed p e R s m args below meth c (MQ below (QcS Z Rp) args s 0 0 (fun a => Z.2.2.1 < a)) 24 (w_X12_feed_24 (MS Z d) (Gw Z 8 p e R s m args below meth c (MQ below (QcS Z Rp) args s 0 0 (fun a => Z.2.2.1 < a))) Rp) := by
  unfold w_X12_feed_24
  refine s_iload (k := 6) C (by decide +kernel) ?_
  refine s_bipush (n := 20) C (by decide +kernel) (by decide) ?_
  refine s_icmp_ge (off := 90) (tgt := 118) C (by decide +kernel) (by decide) (b_X12_feed_118 C) ?_
  refine s_iload (k := 6) C (by decide +kernel) ?_
  refine s_iconst (n := 4) C (by decide +kernel) (by decide) ?_
  refine s_icmp_ge (off := 7) (tgt := 41) C (by decide +kernel) (by decide) (b_X12_feed_41 C) ?_
  refine s_iload_n (k := 1) C (by decide +kernel) ?_
  exact s_goto (off := 39) (tgt := 77) C (by decide +kernel) (by decide) (b_X12_feed_77 C)
set_option maxRecDepth 20000 in
theorem b_X12_feed_21 {Z : Zt} {d : Nat} {p : Program} {e : Env} {R : Room} {s : State} {m : MethodId} {args : Array Value} {below : List Frame} {meth : Method} {c : Code} {Rp : RT} (C : Cx Z d jX12_feed RX12 p R s m args meth c) : Sd Z jX12_feed p e R s m args below meth c (MQ below (QcS Z Rp) args s 0 0 (fun a => Z.2.2.1 < a)) 21 (w_X12_feed_21 (MS Z d) (Gw Z 8 p e R s m args below meth c (MQ below (QcS Z Rp) args s 0 0 (fun a => Z.2.2.1 < a))) Rp) := by
  unfold w_X12_feed_21
  refine s_iconst (n := 0) C (by decide +kernel) (by decide) ?_
  refine s_istore (k := 6) C (by decide +kernel) ?_
  exact (fun _ _ _ _ _ _ h => h)
set_option maxRecDepth 20000 in
theorem b_X12_feed_0 {Z : Zt} {d : Nat} {p : Program} {e : Env} {R : Room} {s : State} {m : MethodId} {args : Array Value} {below : List Frame} {meth : Method} {c : Code} {Rp : RT} (C : Cx Z d jX12_feed RX12 p R s m args meth c) : Sd Z jX12_feed p e R s m args below meth c (MQ below (QcS Z Rp) args s 0 0 (fun a => Z.2.2.1 < a)) 0 (w_X12_feed_0 (MS Z d) (Gw Z 8 p e R s m args below meth c (MQ below (QcS Z Rp) args s 0 0 (fun a => Z.2.2.1 < a))) Rp) := by
  unfold w_X12_feed_0
  refine s_aload_n (k := 0) C (by decide +kernel) ?_
  refine s_iconst (n := 0) C (by decide +kernel) (by decide) ?_
  refine s_putI C w_6_87 (by decide +kernel) rfl (Or.inl rfl) ?_
  refine s_aload_n (k := 0) C (by decide +kernel) ?_
  refine s_getI C w_6_101 (by decide +kernel) rfl ?_
  refine s_bipush (n := 20) C (by decide +kernel) (by decide) ?_
  refine s_iadd C (by decide +kernel) ?_
  refine s_sipush (n := 300) C (by decide +kernel) (by decide) ?_
  refine s_icmp_le (off := 6) (tgt := 21) C (by decide +kernel) (by decide) (b_X12_feed_21 C) ?_
  refine s_bipush (n := (-4)) C (by decide +kernel) (by decide) ?_
  exact s_iret C rfl (by decide +kernel)
theorem ms_X12_feed {Z : Zt} {d : Nat} {S : Sh} {μ : Mi} {ρ : Mr} {Rp : RT} (a0 : Nat) (x1 : Int32) (x2 : Int32) (x3 : Int32) (x4 : Int32) (x5 : Int32) (h : ∀ G : Nat → PT, (∀ (L st : List Value) (S : Sh) (q : Nat × Nat) (μ : Mi) (ρ : Mr), w_X12_feed_24 (MS Z d) G Rp L st S q μ ρ → G 24 L st S q μ ρ) → w_X12_feed_0 (MS Z d) G Rp [.ref a0, .int x1, .int x2, .int x3, .int x4, .int x5, .null, .null] [] S (0, 0) μ ρ) : MS Z (d + 1) jX12_feed [.ref a0, .int x1, .int x2, .int x3, .int x4, .int x5] S μ ρ Rp :=
  MS_of [.ref a0, .int x1, .int x2, .int x3, .int x4, .int x5, .null, .null] (by decide +kernel) rfl rfl (Nat.le_of_ble_eq_true rfl) rfl (fun p e R s m args below meth c C => b_X12_feed_0 C _ _ _ _ _ _ (h _ (b_X12_feed_24 C)))
def F_X12_feed : FT := fun As S μ ρ k => match As with
  | [.ref a, .int x, .int y, .int z, .int u, .int v] => a = 2737 ∧ RS S ρ ∧ rg (μ 2737 14) 0 300 ∧ (¬ (μ 2737 14).toInt + 20 ≤ 300 → k (some (.int (-4))) (M6 μ)) ∧ ((μ 2737 14).toInt + 20 ≤ 300 → k (some (.int (μ 2737 14 + 20))) (upF (upF μ 2745 (fdT (μ 2745) (μ 2737 14).toNatClampNeg x y z u v 20)) 2737 (up (up (μ 2737) 0 0) 14 (μ 2737 14 + 20))))
  | _ => False
theorem r_X12_feed {As S μ ρ k} (h : F_X12_feed As S μ ρ k) : ∃ a As', As = Value.ref a :: As' ∧ S.2 a = (12, 27) := by
  unfold F_X12_feed at h
  split at h
  · exact ⟨_, _, rfl, by rw [h.1]; exact h.2.1.1⟩
  · exact h.elim
set_option maxHeartbeats 1000000 in
theorem f_X12_feed {Z : Zt} {d : Nat} {As : List Value} {S : Sh} {μ : Mi} {ρ : Mr} {Rp : RT} (h : F_X12_feed As S μ ρ (fun r μ' => Rp r S μ' ρ)) : MS Z (d + 1) jX12_feed As S μ ρ Rp := by
  unfold F_X12_feed at h
  split at h
  · rename_i a x y z u v
    obtain ⟨rfl, hS, h⟩ := h
    have hS0 := hS
    unfold RS at hS
    obtain ⟨h1, hno, hyes⟩ := h
    obtain ⟨tp, et, et0, -, et1⟩ := rg_ex h1
    rw [et, nI_toInt et0] at hno hyes
    rw [nI_clamp et0, nad 20 20 rfl] at hyes
    refine ms_X12_feed _ _ _ _ _ _ (fun G g24 => ?_)
    simp only [w_X12_feed_0, w_X12_feed_21, tAload, tIload, nth, tGetI, tGetR, tConst, tLconst, tBin, tUn, tI2l, tAld, tAldR, tAlen, tIast, tBast, tZast, tAast, tIret, tZret, tVret, tAret, tIf, tIf2, tGoto, tIstore, tAstore, sset, tIinc, tDup, tDup2, tPop, tPutI, tPutZ, tPutR, tCallV, tCallS, popN, tFn, tCopy, tMax, tMin, tSw, swc, tRem, tObjI, Option.toList, List.nil_append, List.cons_append, okR, true_and, and_true, true_or, or_true, Nat.zero_le, ne_eq, not_false_eq_true, Nat.reduceEqDiff, hS, e6, M6_f (show 14 ≠ 0 by decide), et, nad 20 20 rfl]
    rw [show (300 : Int32) = nI 300 from rfl, nI_leI (by omega) (by decide)]
    refine ⟨fun c => ?_, fun c => hno (by omega)⟩
    have hy := hyes (by omega)
    have loop : ∀ (m k : Nat) (w : Value), m + k = 20 → G 24 [.ref 2737, .int x, .int y, .int z, .int u, .int v, .int (nI k), w] [] S (0, 0) (upF (upF μ 2745 (fdT (μ 2745) tp x y z u v k)) 2737 (up (up (μ 2737) 0 0) 14 (nI (tp + k)))) ρ := by
      intro m
      induction m with
      | zero =>
        intro k w hk
        obtain rfl : k = 20 := by omega
        refine g24 _ _ _ _ _ _ ?_
        simp only [w_X12_feed_24, w_X12_feed_118, tAload, tIload, nth, tGetI, tGetR, tConst, tLconst, tBin, tUn, tI2l, tAld, tAldR, tAlen, tIast, tBast, tZast, tAast, tIret, tZret, tVret, tAret, tIf, tIf2, tGoto, tIstore, tAstore, sset, tIinc, tDup, tDup2, tPop, tPutI, tPutZ, tPutR, tCallV, tCallS, popN, tFn, tCopy, tMax, tMin, tSw, swc, tRem, tObjI, Option.toList, List.nil_append, List.cons_append, okR, true_and, and_true, true_or, or_true, Nat.zero_le, ne_eq, not_false_eq_true, Nat.reduceEqDiff, hS, upF_same, up_at]
        exact ⟨fun _ => hy, fun z => absurd (by decide) z⟩
      | succ m ih =>
        intro k w hk
        refine g24 _ _ _ _ _ _ ?_
        have lt : ¬ (20 : Int32) ≤ nI k := by rw [show (20 : Int32) = nI 20 from rfl, nI_leI (by decide) (by omega)]; omega
        have put : ∀ q : Int32, q = fdV x y z u v k → w_X12_feed_77 (MS Z d) G Rp [.ref 2737, .int x, .int y, .int z, .int u, .int v, .int (nI k), w] [.int q] S (0, 0) (upF (upF μ 2745 (fdT (μ 2745) tp x y z u v k)) 2737 (up (up (μ 2737) 0 0) 14 (nI (tp + k)))) ρ := by
          intro q hq
          have n1 : (2745 : Nat) ≠ 2737 := by decide
          have e1 : ∀ B : Rw, upF (upF (upF μ 2745 (fdT (μ 2745) tp x y z u v k)) 2737 (up (up (μ 2737) 0 0) 14 (nI (tp + k)))) 2745 B = upF (upF μ 2745 B) 2737 (up (up (μ 2737) 0 0) 14 (nI (tp + k))) := fun B => by rw [upF_comm (by decide), upF_upF]
          simp only [w_X12_feed_77, tAload, tIload, nth, tGetI, tGetR, tConst, tLconst, tBin, tUn, tI2l, tAld, tAldR, tAlen, tIast, tBast, tZast, tAast, tIret, tZret, tVret, tAret, tIf, tIf2, tGoto, tIstore, tAstore, sset, tIinc, tDup, tDup2, tPop, tPutI, tPutZ, tPutR, tCallV, tCallS, popN, tFn, tCopy, tMax, tMin, tSw, swc, tRem, tObjI, Option.toList, List.nil_append, List.cons_append, okR, true_and, and_true, true_or, or_true, Nat.zero_le, ne_eq, not_false_eq_true, Nat.reduceEqDiff, hS, upF_same, upF_ne n1, up_at, upI_upF, e1, upF_upF, up_up, nI_1]
          simp (disch := omega) only [nI_clamp, nI_inb]
          refine ⟨by decide, by omega, ?_⟩
          have := ih (k + 1) (.int q) (by omega)
          rw [← fdT_s, ← hq, ← Nat.add_assoc] at this
          exact this
        simp only [w_X12_feed_24, w_X12_feed_41, w_X12_feed_52, w_X12_feed_63, w_X12_feed_75, tAload, tIload, nth, tGetI, tGetR, tConst, tLconst, tBin, tUn, tI2l, tAld, tAldR, tAlen, tIast, tBast, tZast, tAast, tIret, tZret, tVret, tAret, tIf, tIf2, tGoto, tIstore, tAstore, sset, tIinc, tDup, tDup2, tPop, tPutI, tPutZ, tPutR, tCallV, tCallS, popN, tFn, tCopy, tMax, tMin, tSw, swc, tRem, tObjI, Option.toList, List.nil_append, List.cons_append, okR, true_and, and_true, true_or, or_true, Nat.zero_le, ne_eq, not_false_eq_true, Nat.reduceEqDiff]
        refine ⟨fun z => absurd z lt, fun _ => ⟨fun c4 => ⟨fun c8 => ⟨fun c12 => ⟨fun c16 => put _ ?_, fun c16 => put _ ?_⟩, fun c12 => put _ ?_⟩, fun c8 => put _ ?_⟩, fun c4 => put _ ?_⟩⟩
        · unfold fdV; rw [if_neg (not_not_intro c4), if_neg (not_not_intro c8), if_neg (not_not_intro c12), if_neg (not_not_intro c16)]
        · unfold fdV; rw [if_neg (not_not_intro c4), if_neg (not_not_intro c8), if_neg (not_not_intro c12), if_pos c16]
        · unfold fdV; rw [if_neg (not_not_intro c4), if_neg (not_not_intro c8), if_pos c12]
        · unfold fdV; rw [if_neg (not_not_intro c4), if_pos c8]
        · unfold fdV; rw [if_pos c4]
    have := loop 20 0 .null rfl
    have e0 : fdT (μ 2745) tp x y z u v 0 = μ 2745 := by funext i; unfold fdT; rw [if_neg (by omega)]
    rw [e0, upF_id, Nat.add_zero] at this
    have e2 : upF μ 2737 (up (up (μ 2737) 0 0) 14 (nI tp)) = M6 μ := by
      unfold M6
      rw [upI_upF]
      congr 1
      funext i
      unfold up
      by_cases q : i = 14
      · rw [if_pos q, if_neg (by omega), q]; exact et.symm
      · rw [if_neg q]
    rw [e2] at this
    exact this
  · exact h.elim
