/-! ===== the class: how far a majority has the log ===== -/
theorem qTop_s {A : Rw} {s p : Nat} : qTop A s (p + 1) = if ¬ A (514 * s + 7) < nI (p + 1) then p + 1 else if A (514 * s + 30 + 4 * (p + 1)) = A (514 * s + 1) ∧ (cnt5 (qMem A s).1 < 2 * cnt5 (qHav A s (nI (p + 1)) &&& (qMem A s).1) ∧ ((qMem A s).2.1 = 0 ∨ cnt5 (qMem A s).2.1 < 2 * cnt5 (qHav A s (nI (p + 1)) &&& (qMem A s).2.1))) then p + 1 else qTop A s p := rfl
def hvF (A : Rw) (s : Nat) (p : Int32) : Nat → Int32 := fun t => match t with
  | 0 => 1 <<< (nI s &&& 31)
  | t + 1 => hv1 A s p t (hvF A s p t)
theorem hvF_5 {A : Rw} {s : Nat} {p : Int32} : hvF A s p 5 = qHav A s p := rfl
theorem hvF_s {A : Rw} {s t : Nat} {p : Int32} : hvF A s p (t + 1) = hv1 A s p t (hvF A s p t) := rfl
theorem hvF_own {A : Rw} {s : Nat} {p : Int32} : ∀ t, hvF A s p t ||| 1 <<< (nI s &&& 31) = hvF A s p t := by
  intro t
  induction t with
  | zero => exact Int32.or_self
  | succ t ih =>
    rw [hvF_s]
    unfold hv1
    split
    · rw [Int32.or_assoc, Int32.or_comm (1 <<< (nI t &&& 31)), ← Int32.or_assoc, ih]
    · rw [Int32.or_zero]; exact ih
def w_X10_greatestShared_88 (M : CT) (G : Nat → PT) (Rp : RT) : PT := tAload 1 <| tGetI 7 18 8 <| tIret Rp
def w_X10_greatestShared_82 (M : CT) (G : Nat → PT) (Rp : RT) : PT := tIinc 2 (-1) <| tGoto (G 5)
def w_X10_greatestShared_72 (M : CT) (G : Nat → PT) (Rp : RT) : PT := tAload 1 <| tIload 3 <| tFn 2 F_X7_isMajority <| tIf (fun x => x = 0) (w_X10_greatestShared_82 M G Rp) <| tIload 2 <| tIret Rp
def w_X10_greatestShared_66 (M : CT) (G : Nat → PT) (Rp : RT) : PT := tIinc 4 1 <| tGoto (G 42)
def w_X10_greatestShared_42 (M : CT) (G : Nat → PT) (Rp : RT) : PT := tIload 4 <| tConst 5 <| tIf2 (fun x y => y ≤ x) (w_X10_greatestShared_72 M G Rp) <| tAload 1 <| tGetR 7 18 15 <| tIload 4 <| tAld 20 <| tIload 2 <| tIf2 (fun x y => x < y) (w_X10_greatestShared_66 M G Rp) <| tIload 3 <| tConst 1 <| tIload 4 <| tBin (fun x y => x <<< (y &&& 31)) <| tBin (fun x y => x ||| y) <| tIstore 3 <| w_X10_greatestShared_66 M G Rp
def w_X10_greatestShared_32 (M : CT) (G : Nat → PT) (Rp : RT) : PT := tConst 1 <| tAload 1 <| tGetI 7 18 0 <| tBin (fun x y => x <<< (y &&& 31)) <| tIstore 3 <| tConst 0 <| tIstore 4 <| G 42
def w_X10_greatestShared_5 (M : CT) (G : Nat → PT) (Rp : RT) : PT := tIload 2 <| tAload 1 <| tGetI 7 18 8 <| tIf2 (fun x y => x ≤ y) (w_X10_greatestShared_88 M G Rp) <| tAload 1 <| tGetR 7 18 12 <| tIload 2 <| tAld 20 <| tFn 1 F_X0_termOf <| tAload 1 <| tGetI 7 18 2 <| tIf2 (fun x y => x = y) (w_X10_greatestShared_32 M G Rp) <| tGoto (w_X10_greatestShared_82 M G Rp)
def w_X10_greatestShared_0 (M : CT) (G : Nat → PT) (Rp : RT) : PT := tAload 1 <| tGetI 7 18 7 <| tIstore 2 <| G 5
set_option maxRecDepth 20000 in
theorem b_X10_greatestShared_88 {Z : Zt} {d : Nat} {p : Program} {e : Env} {R : Room} {s : State} {m : MethodId} {args : Array Value} {below : List Frame} {meth : Method} {c : Code} {Rp : RT} (C : Cx Z (d + 2) jX10_greatestShared RX10 p R s m args meth c) : Sd Z jX10_greatestShared p e R s m args below meth c (MQ below (QcS Z Rp) args s 0 0 (fun a => Z.2.2.1 < a)) 88 (w_X10_greatestShared_88 (MS Z (d + 2)) (Gw Z 5 p e R s m args below meth c (MQ below (QcS Z Rp) args s 0 0 (fun a => Z.2.2.1 < a))) Rp) := by
  unfold w_X10_greatestShared_88
  refine s_aload_n (k := 1) C (by decide +kernel) ?_
  refine s_getI C w_2_9 (by decide +kernel) rfl ?_
  exact s_iret C rfl (by decide +kernel)
set_option maxRecDepth 20000 in
theorem b_X10_greatestShared_82 {Z : Zt} {d : Nat} {p : Program} {e : Env} {R : Room} {s : State} {m : MethodId} {args : Array Value} {below : List Frame} {meth : Method} {c : Code} {Rp : RT} (C : Cx Z (d + 2) jX10_greatestShared RX10 p R s m args meth c) : Sd Z jX10_greatestShared p e R s m args below meth c (MQ below (QcS Z Rp) args s 0 0 (fun a => Z.2.2.1 < a)) 82 (w_X10_greatestShared_82 (MS Z (d + 2)) (Gw Z 5 p e R s m args below meth c (MQ below (QcS Z Rp) args s 0 0 (fun a => Z.2.2.1 < a))) Rp) := by
  unfold w_X10_greatestShared_82
  refine s_iinc (n := (-1)) C (by decide +kernel) (by decide) ?_
  exact s_goto (off := (-80)) (tgt := 5) C (by decide +kernel) (by decide) (fun _ _ _ _ _ _ h => h)
set_option maxRecDepth 20000 in
theorem b_X10_greatestShared_72 {Z : Zt} {d : Nat} {p : Program} {e : Env} {R : Room} {s : State} {m : MethodId} {args : Array Value} {below : List Frame} {meth : Method} {c : Code} {Rp : RT} (C : Cx Z (d + 2) jX10_greatestShared RX10 p R s m args meth c) : Sd Z jX10_greatestShared p e R s m args below meth c (MQ below (QcS Z Rp) args s 0 0 (fun a => Z.2.2.1 < a)) 72 (w_X10_greatestShared_72 (MS Z (d + 2)) (Gw Z 5 p e R s m args below meth c (MQ below (QcS Z Rp) args s 0 0 (fun a => Z.2.2.1 < a))) Rp) := by
  unfold w_X10_greatestShared_72
  refine s_aload_n (k := 1) C (by decide +kernel) ?_
  refine s_iload_n (k := 3) C (by decide +kernel) ?_
  refine s_fnV C (j2 := jX7_isMajority) (cl := 7) (nf := 18) rfl rfl (by decide +kernel) rfl w_3_133 w_3_134 w_3_135 w_1_5 w_3_136 (by decide +kernel) (fun _ _ _ _ _ h => f_X7_isMajority h) (fun _ _ _ _ _ h => r_X7_isMajority h) ?_
  refine s_if_eq (off := 5) (tgt := 82) C (by decide +kernel) (by decide) (b_X10_greatestShared_82 C) ?_
  refine s_iload_n (k := 2) C (by decide +kernel) ?_
  exact s_iret C rfl (by decide +kernel)
set_option maxRecDepth 20000 in
theorem b_X10_greatestShared_66 {Z : Zt} {d : Nat} {p : Program} {e : Env} {R : Room} {s : State} {m : MethodId} {args : Array Value} {below : List Frame} {meth : Method} {c : Code} {Rp : RT} (C : Cx Z (d + 2) jX10_greatestShared RX10 p R s m args meth c) : Sd Z jX10_greatestShared p e R s m args below meth c (MQ below (QcS Z Rp) args s 0 0 (fun a => Z.2.2.1 < a)) 66 (w_X10_greatestShared_66 (MS Z (d + 2)) (Gw Z 5 p e R s m args below meth c (MQ below (QcS Z Rp) args s 0 0 (fun a => Z.2.2.1 < a))) Rp) := by
  unfold w_X10_greatestShared_66
  refine s_iinc (n := 1) C (by decide +kernel) (by decide) ?_
  exact s_goto (off := (-27)) (tgt := 42) C (by decide +kernel) (by decide) (fun _ _ _ _ _ _ h => h)
set_option maxRecDepth 20000 in
theorem b_X10_greatestShared_42 {Z : Zt} {d : Nat} {p : Program} {e : Env} {R : Room} {s : State} {m : MethodId} {args : Array Value} {below : List Frame} {meth : Method} {c : Code} {Rp : RT} (C : Cx Z (d + 2) jX10_greatestShared RX10 p R s m args meth c) : Sd Z jX10_greatestShared p e R s m args below meth c (MQ below (QcS Z Rp) args s 0 0 (fun a => Z.2.2.1 < a)) 42 (w_X10_greatestShared_42 (MS Z (d + 2)) (Gw Z 5 p e R s m args below meth c (MQ below (QcS Z Rp) args s 0 0 (fun a => Z.2.2.1 < a))) Rp) := by
  unfold w_X10_greatestShared_42
  refine s_iload (k := 4) C (by decide +kernel) ?_
  refine s_iconst (n := 5) C (by decide +kernel) (by decide) ?_
  refine s_icmp_ge (off := 27) (tgt := 72) C (by decide +kernel) (by decide) (b_X10_greatestShared_72 C) ?_
  refine s_aload_n (k := 1) C (by decide +kernel) ?_
  refine s_getR C w_2_30 (by decide +kernel) rfl ?_
  refine s_iload (k := 4) C (by decide +kernel) ?_
  refine s_iald C (by decide +kernel) ?_
  refine s_iload_n (k := 2) C (by decide +kernel) ?_
  refine s_icmp_lt (off := 10) (tgt := 66) C (by decide +kernel) (by decide) (b_X10_greatestShared_66 C) ?_
  refine s_iload_n (k := 3) C (by decide +kernel) ?_
  refine s_iconst (n := 1) C (by decide +kernel) (by decide) ?_
  refine s_iload (k := 4) C (by decide +kernel) ?_
  refine s_ishl C (by decide +kernel) ?_
  refine s_ior C (by decide +kernel) ?_
  refine s_istore_n (k := 3) C (by decide +kernel) ?_
  exact (b_X10_greatestShared_66 C)
set_option maxRecDepth 20000 in
theorem b_X10_greatestShared_32 {Z : Zt} {d : Nat} {p : Program} {e : Env} {R : Room} {s : State} {m : MethodId} {args : Array Value} {below : List Frame} {meth : Method} {c : Code} {Rp : RT} (C : Cx Z (d + 2) jX10_greatestShared RX10 p R s m args meth c) : Sd Z jX10_greatestShared p e R s m args below meth c (MQ below (QcS Z Rp) args s 0 0 (fun a => Z.2.2.1 < a)) 32 (w_X10_greatestShared_32 (MS Z (d + 2)) (Gw Z 5 p e R s m args below meth c (MQ below (QcS Z Rp) args s 0 0 (fun a => Z.2.2.1 < a))) Rp) := by
  unfold w_X10_greatestShared_32
  refine s_iconst (n := 1) C (by decide +kernel) (by decide) ?_
  refine s_aload_n (k := 1) C (by decide +kernel) ?_
  refine s_getI C w_1_221 (by decide +kernel) rfl ?_
  refine s_ishl C (by decide +kernel) ?_
  refine s_istore_n (k := 3) C (by decide +kernel) ?_
  refine s_iconst (n := 0) C (by decide +kernel) (by decide) ?_
  refine s_istore (k := 4) C (by decide +kernel) ?_
  exact (fun _ _ _ _ _ _ h => h)
set_option maxRecDepth 20000 in
theorem b_X10_greatestShared_5 {Z : Zt} {d : Nat} {p : Program} {e : Env} {R : Room} {s : State} {m : MethodId} {args : Array Value} {below : List Frame} {meth : Method} {c : Code} {Rp : RT} (C : Cx Z (d + 2) jX10_greatestShared RX10 p R s m args meth c) : Sd Z jX10_greatestShared p e R s m args below meth c (MQ below (QcS Z Rp) args s 0 0 (fun a => Z.2.2.1 < a)) 5 (w_X10_greatestShared_5 (MS Z (d + 2)) (Gw Z 5 p e R s m args below meth c (MQ below (QcS Z Rp) args s 0 0 (fun a => Z.2.2.1 < a))) Rp) := by
  unfold w_X10_greatestShared_5
  refine s_iload_n (k := 2) C (by decide +kernel) ?_
  refine s_aload_n (k := 1) C (by decide +kernel) ?_
  refine s_getI C w_2_9 (by decide +kernel) rfl ?_
  refine s_icmp_le (off := 78) (tgt := 88) C (by decide +kernel) (by decide) (b_X10_greatestShared_88 C) ?_
  refine s_aload_n (k := 1) C (by decide +kernel) ?_
  refine s_getR C w_2_22 (by decide +kernel) rfl ?_
  refine s_iload_n (k := 2) C (by decide +kernel) ?_
  refine s_iald C (by decide +kernel) ?_
  refine s_fnS C (j2 := jX0_termOf) (by decide +kernel) rfl w_3_174 w_3_175 w_1_9 w_3_176 (by decide +kernel) (fun _ _ _ _ _ h => f_X0_termOf h) ?_
  refine s_aload_n (k := 1) C (by decide +kernel) ?_
  refine s_getI C w_1_227 (by decide +kernel) rfl ?_
  refine s_icmp_eq (off := 6) (tgt := 32) C (by decide +kernel) (by decide) (b_X10_greatestShared_32 C) ?_
  exact s_goto (off := 53) (tgt := 82) C (by decide +kernel) (by decide) (b_X10_greatestShared_82 C)
set_option maxRecDepth 20000 in
theorem b_X10_greatestShared_0 {Z : Zt} {d : Nat} {p : Program} {e : Env} {R : Room} {s : State} {m : MethodId} {args : Array Value} {below : List Frame} {meth : Method} {c : Code} {Rp : RT} (C : Cx Z (d + 2) jX10_greatestShared RX10 p R s m args meth c) : Sd Z jX10_greatestShared p e R s m args below meth c (MQ below (QcS Z Rp) args s 0 0 (fun a => Z.2.2.1 < a)) 0 (w_X10_greatestShared_0 (MS Z (d + 2)) (Gw Z 5 p e R s m args below meth c (MQ below (QcS Z Rp) args s 0 0 (fun a => Z.2.2.1 < a))) Rp) := by
  unfold w_X10_greatestShared_0
  refine s_aload_n (k := 1) C (by decide +kernel) ?_
  refine s_getI C w_2_5 (by decide +kernel) rfl ?_
  refine s_istore_n (k := 2) C (by decide +kernel) ?_
  exact (fun _ _ _ _ _ _ h => h)
theorem ms_X10_greatestShared {Z : Zt} {d : Nat} {S : Sh} {μ : Mi} {ρ : Mr} {Rp : RT} (a0 : Nat) (a1 : Nat) (h : ∀ G : Nat → PT, (∀ (L st : List Value) (S : Sh) (q : Nat × Nat) (μ : Mi) (ρ : Mr), w_X10_greatestShared_5 (MS Z (d + 2)) G Rp L st S q μ ρ → G 5 L st S q μ ρ) → (∀ (L st : List Value) (S : Sh) (q : Nat × Nat) (μ : Mi) (ρ : Mr), w_X10_greatestShared_42 (MS Z (d + 2)) G Rp L st S q μ ρ → G 42 L st S q μ ρ) → w_X10_greatestShared_0 (MS Z (d + 2)) G Rp [.ref a0, .ref a1, .null, .null, .null] [] S (0, 0) μ ρ) : MS Z (d + 3) jX10_greatestShared [.ref a0, .ref a1] S μ ρ Rp :=
  MS_of [.ref a0, .ref a1, .null, .null, .null] (by decide +kernel) rfl rfl (Nat.le_of_ble_eq_true rfl) rfl (fun p e R s m args below meth c C => b_X10_greatestShared_0 C _ _ _ _ _ _ (h _ (b_X10_greatestShared_5 C) (b_X10_greatestShared_42 C)))
def F_X10_greatestShared : FT := fun As S μ ρ k => match As with
  | [.ref a, .ref x] => S.2 a = (10, 6) ∧ ∃ (s : Nat) (A : Rw), s < 5 ∧ x = a + 130 + 8 * s ∧ RR A a S μ ρ ∧ A (514 * s + 3) = 2 ∧ agR A s ∧ k (some (.int (nI (qTop A s (A (514 * s + 4)).toNatClampNeg)))) μ
  | _ => False
theorem r_X10_greatestShared {As S μ ρ k} (h : F_X10_greatestShared As S μ ρ k) : ∃ a As', As = Value.ref a :: As' ∧ S.2 a = (10, 6) := by
  unfold F_X10_greatestShared at h
  split at h
  · exact ⟨_, _, rfl, h.1⟩
  · exact h.elim
set_option maxHeartbeats 1000000 in
theorem f_X10_greatestShared {Z : Zt} {d : Nat} {As : List Value} {S : Sh} {μ : Mi} {ρ : Mr} {Rp : RT} (h : F_X10_greatestShared As S μ ρ (fun r μ' => Rp r S μ' ρ)) : MS Z (d + 3) jX10_greatestShared As S μ ρ Rp := by
  unfold F_X10_greatestShared at h
  split at h
  · rename_i a x
    obtain ⟨a, hNa⟩ : ∃ n : Nat, n = a := ⟨a, rfl⟩
    subst hNa
    obtain ⟨h1, s, A, hs, rfl, hR, hro, hag, h⟩ := h
    refine ms_X10_greatestShared _ _ (fun G g5 g42 => ?_)
    have hW := RR_W hR
    obtain ⟨x1, x2, -⟩ := W_st hW hs
    unfold StS at x2
    have hSt := RR_st hR hs
    have hA := hSt.1
    unfold StA at hA
    have hmem := St_mem hSt
    obtain ⟨l, l1, l2, -, l3⟩ := rg_ex hSt.2.1.2.1
    obtain ⟨sn, s1, s2, -, s3⟩ := rg_ex hSt.2.1.2.2.1
    unfold agR at hag
    have hr7 : rg (A (514 * s + 7)) 0 120 := ⟨by have := hSt.2.1.2.2.1.1; omega, by have := hSt.2.1.2.1.2; omega⟩
    obtain ⟨ag, a1, a2, -, a3⟩ := rg_ex hr7
    rw [s1, l1, a1, nI_toInt s2, nI_toInt l2, nI_toInt a2] at hag
    rw [l1, nI_clamp l2] at h
    have loop : ∀ (p : Nat) (v3 v4 : Value), p ≤ 120 → p ≤ l → ag ≤ p → Rp (some (.int (nI (qTop A s p)))) S μ ρ → G 5 [.ref a, .ref (a + 130 + 8 * s), .int (nI p), v3, v4] [] S (0, 0) μ ρ := by
      intro p
      induction p with
      | zero =>
        intro v3 v4 hp hpl hap hh
        obtain rfl : ag = 0 := by omega
        apply g5
        simp only [w_X10_greatestShared_5, w_X10_greatestShared_88, tAload, tIload, nth, tGetI, tGetR, tConst, tLconst, tBin, tUn, tI2l, tAld, tAldR, tAlen, tIast, tBast, tZast, tAast, tIret, tZret, tVret, tAret, tIf, tIf2, tGoto, tIstore, tAstore, sset, tIinc, tDup, tDup2, tPop, tPutI, tPutZ, tPutR, tCallV, tCallS, popN, tFn, tCopy, tMax, tMin, tSw, swc, tRem, tObjI, Option.toList, List.nil_append, List.cons_append, okR, true_and, and_true, true_or, or_true, Nat.zero_le, ne_eq, not_false_eq_true, Nat.reduceEqDiff, x1, hA, a1]
        exact ⟨fun _ => hh, fun c => absurd (by rw [nI_leI (by omega) (by omega)]; exact Nat.le_refl _) c⟩
      | succ p ih =>
        intro v3 v4 hp hpl hap hh
        rw [qTop_s] at hh
        apply g5
        simp only [w_X10_greatestShared_5, w_X10_greatestShared_88, w_X10_greatestShared_82, w_X10_greatestShared_32, tAload, tIload, nth, tGetI, tGetR, tConst, tLconst, tBin, tUn, tI2l, tAld, tAldR, tAlen, tIast, tBast, tZast, tAast, tIret, tZret, tVret, tAret, tIf, tIf2, tGoto, tIstore, tAstore, sset, tIinc, tDup, tDup2, tPop, tPutI, tPutZ, tPutR, tCallV, tCallS, popN, tFn, tCopy, tMax, tMin, tSw, swc, tRem, tObjI, Option.toList, List.nil_append, List.cons_append, okR, true_and, and_true, true_or, or_true, Nat.zero_le, ne_eq, not_false_eq_true, Nat.reduceEqDiff, F_X0_termOf, x1, x2, hA, a1]
        rw [nI_leI (by omega) (by omega), nI_clamp (by omega)]
        refine ⟨fun c => ?_, fun c => ⟨inb_nI (by omega) (by decide), ?_⟩⟩
        · have : ag = p + 1 := by omega
          rw [if_pos (by rw [a1, nI_ltI (by omega) (by omega)]; omega), ← this] at hh
          exact hh
        · rw [if_neg (by rw [a1, nI_ltI (by omega) (by omega)]; omega)] at hh
          have en := hSt.2.2.2.1 (p + 1) (by rw [s1, nI_clamp s2]; omega) (by rw [l1, nI_clamp l2]; omega)
          have em : nI (p + 1) + -1 = nI p := by rw [← nI_s1, Int32.add_assoc]; simp
          rw [em, en.1.1]
          refine ⟨fun c2 => ?_, fun c2 => ?_⟩
          · -- the stores that have it
            have inner : ∀ (j t : Nat), j + t = 5 → G 42 [.ref a, .ref (a + 130 + 8 * s), .int (nI (p + 1)), .int (hvF A s (nI (p + 1)) t), .int (nI t)] [] S (0, 0) μ ρ := by
              intro j
              induction j with
              | zero =>
                intro t ht
                obtain rfl : t = 5 := by omega
                apply g42
                simp only [w_X10_greatestShared_42, w_X10_greatestShared_72, w_X10_greatestShared_82, tAload, tIload, nth, tGetI, tGetR, tConst, tLconst, tBin, tUn, tI2l, tAld, tAldR, tAlen, tIast, tBast, tZast, tAast, tIret, tZret, tVret, tAret, tIf, tIf2, tGoto, tIstore, tAstore, sset, tIinc, tDup, tDup2, tPop, tPutI, tPutZ, tPutR, tCallV, tCallS, popN, tFn, tCopy, tMax, tMin, tSw, swc, tRem, tObjI, Option.toList, List.nil_append, List.cons_append, okR, true_and, and_true, true_or, or_true, Nat.zero_le, ne_eq, not_false_eq_true, Nat.reduceEqDiff, F_X7_isMajority, x1]
                refine ⟨fun _ => ⟨hmem.1, hmem.2.1, fun c3 => ?_, fun c3 => ?_⟩, fun c3 => absurd ((nI_le5 (by decide)).mpr rfl) c3⟩
                · refine ⟨fun z => absurd z (by decide), fun _ => ?_⟩
                  rw [hSt.2.2.2.2.2.1, hSt.2.2.2.2.2.2, hvF_5] at c3
                  rw [if_pos ⟨c2, c3⟩] at hh
                  exact hh
                · refine ⟨fun _ => ?_, fun z => absurd trivial z⟩
                  rw [hSt.2.2.2.2.2.1, hSt.2.2.2.2.2.2, hvF_5] at c3
                  rw [if_neg (fun z => c3 z.2)] at hh
                  rw [em]
                  exact ih _ _ (by omega) (by omega) (by omega) hh
              | succ j ihj =>
                intro t ht
                have hN := hR.2 s hs hro t (by omega)
                apply g42
                simp only [w_X10_greatestShared_42, w_X10_greatestShared_66, tAload, tIload, nth, tGetI, tGetR, tConst, tLconst, tBin, tUn, tI2l, tAld, tAldR, tAlen, tIast, tBast, tZast, tAast, tIret, tZret, tVret, tAret, tIf, tIf2, tGoto, tIstore, tAstore, sset, tIinc, tDup, tDup2, tPop, tPutI, tPutZ, tPutR, tCallV, tCallS, popN, tFn, tCopy, tMax, tMin, tSw, swc, tRem, tObjI, Option.toList, List.nil_append, List.cons_append, okR, true_and, and_true, true_or, or_true, Nat.zero_le, ne_eq, not_false_eq_true, Nat.reduceEqDiff, x1, x2]
                rw [nI_le5 (by omega), nI_clamp (by omega), hN.2, nI_s1]
                refine ⟨fun z => absurd z (by omega), fun _ => ⟨inb_nI (by omega) (by decide), fun c3 => ?_, fun c3 => ?_⟩⟩
                · have := ihj (t + 1) (by omega)
                  rw [hvF_s] at this
                  unfold hv1 at this
                  rw [if_neg (fun z => z.2 c3), Int32.or_zero] at this
                  exact this
                · have := ihj (t + 1) (by omega)
                  rw [hvF_s] at this
                  unfold hv1 at this
                  by_cases ct : t = s
                  · rw [if_neg (fun z => z.1 ct), Int32.or_zero] at this
                    subst ct
                    rw [hvF_own]
                    exact this
                  · rw [if_pos ⟨ct, c3⟩] at this
                    exact this
            exact inner 5 0 rfl
          · rw [if_neg (fun z => c2 z.1)] at hh
            exact ih _ _ (by omega) (by omega) (by omega) hh
    simp only [w_X10_greatestShared_0, tAload, tIload, nth, tGetI, tGetR, tConst, tLconst, tBin, tUn, tI2l, tAld, tAldR, tAlen, tIast, tBast, tZast, tAast, tIret, tZret, tVret, tAret, tIf, tIf2, tGoto, tIstore, tAstore, sset, tIinc, tDup, tDup2, tPop, tPutI, tPutZ, tPutR, tCallV, tCallS, popN, tFn, tCopy, tMax, tMin, tSw, swc, tRem, tObjI, Option.toList, List.nil_append, List.cons_append, okR, true_and, and_true, true_or, or_true, Nat.zero_le, ne_eq, not_false_eq_true, Nat.reduceEqDiff, x1, hA, l1]
    exact loop l _ _ (by omega) (by omega) (by omega) h
  · exact h.elim
