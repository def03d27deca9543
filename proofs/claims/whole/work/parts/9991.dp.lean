/-! ===== the class: who holds what, how far logs are alike, how few stops ===== -/
def w_X8_holding_124 (M : CT) (G : Nat → PT) (Rp : RT) : PT := tIload 6 <| tIret Rp
def w_X8_holding_118 (M : CT) (G : Nat → PT) (Rp : RT) : PT := tIinc 7 1 <| tGoto (G 46)
def w_X8_holding_109 (M : CT) (G : Nat → PT) (Rp : RT) : PT := tIload 6 <| tConst 1 <| tIload 7 <| tBin (fun x y => x <<< (y &&& 31)) <| tBin (fun x y => x ||| y) <| tIstore 6 <| w_X8_holding_118 M G Rp
def w_X8_holding_85 (M : CT) (G : Nat → PT) (Rp : RT) : PT := tIstore 9 <| tIload 9 <| tIf (fun x => x ≠ 0) (w_X8_holding_109 M G Rp) <| tIload 5 <| tIf (fun x => x = 0) (w_X8_holding_118 M G Rp) <| tAload 8 <| tGetR 7 18 16 <| tGetI 6 5 0 <| tIload 2 <| tIf2 (fun x y => x < y) (w_X8_holding_118 M G Rp) <| w_X8_holding_109 M G Rp
def w_X8_holding_84 (M : CT) (G : Nat → PT) (Rp : RT) : PT := tConst 0 <| w_X8_holding_85 M G Rp
def w_X8_holding_46 (M : CT) (G : Nat → PT) (Rp : RT) : PT := tIload 7 <| tConst 5 <| tIf2 (fun x y => y ≤ x) (w_X8_holding_124 M G Rp) <| tAload 0 <| tGetR 10 6 0 <| tIload 7 <| tAldR 37 <| tAstore 8 <| tAload 8 <| tIload 2 <| tFn 2 F_X7_holds <| tIf (fun x => x = 0) (w_X8_holding_84 M G Rp) <| tAload 8 <| tIload 2 <| tFn 2 F_X7_termAt <| tIload 3 <| tIf2 (fun x y => x ≠ y) (w_X8_holding_84 M G Rp) <| tConst 1 <| tGoto (w_X8_holding_85 M G Rp)
def w_X8_holding_38 (M : CT) (G : Nat → PT) (Rp : RT) : PT := tIstore 5 <| tConst 0 <| tIstore 6 <| tConst 0 <| tIstore 7 <| G 46
def w_X8_holding_37 (M : CT) (G : Nat → PT) (Rp : RT) : PT := tConst 0 <| w_X8_holding_38 M G Rp
def w_X8_holding_0 (M : CT) (G : Nat → PT) (Rp : RT) : PT := tAload 0 <| tGetR 10 6 0 <| tIload 1 <| tAldR 37 <| tIload 2 <| tFn 2 F_X7_termAt <| tIstore 3 <| tAload 0 <| tGetR 10 6 2 <| tIload 2 <| tAld 20 <| tIstore 4 <| tIload 4 <| tIf (fun x => x = 0) (w_X8_holding_37 M G Rp) <| tIload 4 <| tFn 1 F_X0_termOf <| tIload 3 <| tIf2 (fun x y => x ≠ y) (w_X8_holding_37 M G Rp) <| tConst 1 <| tGoto (w_X8_holding_38 M G Rp)
set_option maxRecDepth 20000 in
theorem b_X8_holding_124 {Z : Zt} {d : Nat} {p : Program} {e : Env} {R : Room} {s : State} {m : MethodId} {args : Array Value} {below : List Frame} {meth : Method} {c : Code} {Rp : RT} (C : Cx Z (d + 1) jX8_holding RX8 p R s m args meth c) : Sd Z jX8_holding p e R s m args below meth c (MQ below (QcS Z Rp) args s 0 0 (fun a => Z.2.2.1 < a)) 124 (w_X8_holding_124 (MS Z (d + 1)) (Gw Z 10 p e R s m args below meth c (MQ below (QcS Z Rp) args s 0 0 (fun a => Z.2.2.1 < a))) Rp) := by
  unfold w_X8_holding_124
  refine s_iload (k := 6) C (by decide +kernel) ?_
  exact s_iret C rfl (by decide +kernel)
set_option maxRecDepth 20000 in
theorem b_X8_holding_118 {Z : Zt} {d : Nat} {p : Program} {e : Env} {R : Room} {s : State} {m : MethodId} {args : Array Value} {below : List Frame} {meth : Method} {c : Code} {Rp : RT} (C : Cx Z (d + 1) jX8_holding RX8 p R s m args meth c) : Sd Z jX8_holding p e R s m args below meth c (MQ below (QcS Z Rp) args s 0 0 (fun a => Z.2.2.1 < a)) 118 (w_X8_holding_118 (MS Z (d + 1)) (Gw Z 10 p e R s m args below meth c (MQ below (QcS Z Rp) args s 0 0 (fun a => Z.2.2.1 < a))) Rp) := by
  unfold w_X8_holding_118
  refine s_iinc (n := 1) C (by decide +kernel) (by decide) ?_
  exact s_goto (off := (-75)) (tgt := 46) C (by decide +kernel) (by decide) (fun _ _ _ _ _ _ h => h)
set_option maxRecDepth 20000 in
theorem b_X8_holding_109 {Z : Zt} {d : Nat} {p : Program} {e : Env} {R : Room} {s : State} {m : MethodId} {args : Array Value} {below : List Frame} {meth : Method} {c : Code} {Rp : RT} (C : Cx Z (d + 1) jX8_holding RX8 p R s m args meth c) : Sd Z jX8_holding p e R s m args below meth c (MQ below (QcS Z Rp) args s 0 0 (fun a => Z.2.2.1 < a)) 109 (w_X8_holding_109 (MS Z (d + 1)) (Gw Z 10 p e R s m args below meth c (MQ below (QcS Z Rp) args s 0 0 (fun a => Z.2.2.1 < a))) Rp) := by
  unfold w_X8_holding_109
  refine s_iload (k := 6) C (by decide +kernel) ?_
  refine s_iconst (n := 1) C (by decide +kernel) (by decide) ?_
  refine s_iload (k := 7) C (by decide +kernel) ?_
  refine s_ishl C (by decide +kernel) ?_
  refine s_ior C (by decide +kernel) ?_
  refine s_istore (k := 6) C (by decide +kernel) ?_
  exact (b_X8_holding_118 C)
set_option maxRecDepth 20000 in
theorem b_X8_holding_85 {Z : Zt} {d : Nat} {p : Program} {e : Env} {R : Room} {s : State} {m : MethodId} {args : Array Value} {below : List Frame} {meth : Method} {c : Code} {Rp : RT} (C : Cx Z (d + 1) jX8_holding RX8 p R s m args meth c) : Sd Z jX8_holding p e R s m args below meth c (MQ below (QcS Z Rp) args s 0 0 (fun a => Z.2.2.1 < a)) 85 (w_X8_holding_85 (MS Z (d + 1)) (Gw Z 10 p e R s m args below meth c (MQ below (QcS Z Rp) args s 0 0 (fun a => Z.2.2.1 < a))) Rp) := by
  unfold w_X8_holding_85
  refine s_istore (k := 9) C (by decide +kernel) ?_
  refine s_iload (k := 9) C (by decide +kernel) ?_
  refine s_if_ne (off := 20) (tgt := 109) C (by decide +kernel) (by decide) (b_X8_holding_109 C) ?_
  refine s_iload (k := 5) C (by decide +kernel) ?_
  refine s_if_eq (off := 24) (tgt := 118) C (by decide +kernel) (by decide) (b_X8_holding_118 C) ?_
  refine s_aload (k := 8) C (by decide +kernel) ?_
  refine s_getR C w_2_33 (by decide +kernel) rfl ?_
  refine s_getI C w_1_161 (by decide +kernel) rfl ?_
  refine s_iload_n (k := 2) C (by decide +kernel) ?_
  refine s_icmp_lt (off := 12) (tgt := 118) C (by decide +kernel) (by decide) (b_X8_holding_118 C) ?_
  exact (b_X8_holding_109 C)
set_option maxRecDepth 20000 in
theorem b_X8_holding_84 {Z : Zt} {d : Nat} {p : Program} {e : Env} {R : Room} {s : State} {m : MethodId} {args : Array Value} {below : List Frame} {meth : Method} {c : Code} {Rp : RT} (C : Cx Z (d + 1) jX8_holding RX8 p R s m args meth c) : Sd Z jX8_holding p e R s m args below meth c (MQ below (QcS Z Rp) args s 0 0 (fun a => Z.2.2.1 < a)) 84 (w_X8_holding_84 (MS Z (d + 1)) (Gw Z 10 p e R s m args below meth c (MQ below (QcS Z Rp) args s 0 0 (fun a => Z.2.2.1 < a))) Rp) := by
  unfold w_X8_holding_84
  refine s_iconst (n := 0) C (by decide +kernel) (by decide) ?_
  exact (b_X8_holding_85 C)
set_option maxRecDepth 20000 in
theorem b_X8_holding_46 {Z : Zt} {d : Nat} {p : Program} {e : Env} {R : Room} {s : State} {m : MethodId} {args : Array Value} {below : List Frame} {meth : Method} {c : Code} {Rp : RT} (C : Cx Z (d + 1) jX8_holding RX8 p R s m args meth c) : Sd Z jX8_holding p e R s m args below meth c (MQ below (QcS Z Rp) args s 0 0 (fun a => Z.2.2.1 < a)) 46 (w_X8_holding_46 (MS Z (d + 1)) (Gw Z 10 p e R s m args below meth c (MQ below (QcS Z Rp) args s 0 0 (fun a => Z.2.2.1 < a))) Rp) := by
  unfold w_X8_holding_46
  refine s_iload (k := 7) C (by decide +kernel) ?_
  refine s_iconst (n := 5) C (by decide +kernel) (by decide) ?_
  refine s_icmp_ge (off := 75) (tgt := 124) C (by decide +kernel) (by decide) (b_X8_holding_124 C) ?_
  refine s_aload_n (k := 0) C (by decide +kernel) ?_
  refine s_getR C w_2_114 (by decide +kernel) rfl ?_
  refine s_iload (k := 7) C (by decide +kernel) ?_
  refine s_aald C rfl (by decide +kernel) ?_
  refine s_astore (k := 8) C (by decide +kernel) ?_
  refine s_aload (k := 8) C (by decide +kernel) ?_
  refine s_iload_n (k := 2) C (by decide +kernel) ?_
  refine s_fnV C (j2 := jX7_holds) (cl := 7) (nf := 18) rfl rfl (by decide +kernel) rfl w_5_186 w_5_108 w_5_109 w_1_5 w_5_110 (by decide +kernel) (fun _ _ _ _ _ h => f_X7_holds h) (fun _ _ _ _ _ h => r_X7_holds h) ?_
  refine s_if_eq (off := 17) (tgt := 84) C (by decide +kernel) (by decide) (b_X8_holding_84 C) ?_
  refine s_aload (k := 8) C (by decide +kernel) ?_
  refine s_iload_n (k := 2) C (by decide +kernel) ?_
  refine s_fnV C (j2 := jX7_termAt) (cl := 7) (nf := 18) rfl rfl (by decide +kernel) rfl w_5_95 w_3_130 w_3_131 w_1_5 w_3_132 (by decide +kernel) (fun _ _ _ _ _ h => f_X7_termAt h) (fun _ _ _ _ _ h => r_X7_termAt h) ?_
  refine s_iload_n (k := 3) C (by decide +kernel) ?_
  refine s_icmp_ne (off := 7) (tgt := 84) C (by decide +kernel) (by decide) (b_X8_holding_84 C) ?_
  refine s_iconst (n := 1) C (by decide +kernel) (by decide) ?_
  exact s_goto (off := 4) (tgt := 85) C (by decide +kernel) (by decide) (b_X8_holding_85 C)
set_option maxRecDepth 20000 in
theorem b_X8_holding_38 {Z : Zt} {d : Nat} {p : Program} {e : Env} {R : Room} {s : State} {m : MethodId} {args : Array Value} {below : List Frame} {meth : Method} {c : Code} {Rp : RT} (C : Cx Z (d + 1) jX8_holding RX8 p R s m args meth c) : Sd Z jX8_holding p e R s m args below meth c (MQ below (QcS Z Rp) args s 0 0 (fun a => Z.2.2.1 < a)) 38 (w_X8_holding_38 (MS Z (d + 1)) (Gw Z 10 p e R s m args below meth c (MQ below (QcS Z Rp) args s 0 0 (fun a => Z.2.2.1 < a))) Rp) := by
  unfold w_X8_holding_38
  refine s_istore (k := 5) C (by decide +kernel) ?_
  refine s_iconst (n := 0) C (by decide +kernel) (by decide) ?_
  refine s_istore (k := 6) C (by decide +kernel) ?_
  refine s_iconst (n := 0) C (by decide +kernel) (by decide) ?_
  refine s_istore (k := 7) C (by decide +kernel) ?_
  exact (fun _ _ _ _ _ _ h => h)
set_option maxRecDepth 20000 in
theorem b_X8_holding_37 {Z : Zt} {d : Nat} {p : Program} {e : Env} {R : Room} {s : State} {m : MethodId} {args : Array Value} {below : List Frame} {meth : Method} {c : Code} {Rp : RT} (C : Cx Z (d + 1) jX8_holding RX8 p R s m args meth c) : Sd Z jX8_holding p e R s m args below meth c (MQ below (QcS Z Rp) args s 0 0 (fun a => Z.2.2.1 < a)) 37 (w_X8_holding_37 (MS Z (d + 1)) (Gw Z 10 p e R s m args below meth c (MQ below (QcS Z Rp) args s 0 0 (fun a => Z.2.2.1 < a))) Rp) := by
  unfold w_X8_holding_37
  refine s_iconst (n := 0) C (by decide +kernel) (by decide) ?_
  exact (b_X8_holding_38 C)
set_option maxRecDepth 20000 in
theorem b_X8_holding_0 {Z : Zt} {d : Nat} {p : Program} {e : Env} {R : Room} {s : State} {m : MethodId} {args : Array Value} {below : List Frame} {meth : Method} {c : Code} {Rp : RT} (C : Cx Z (d + 1) jX8_holding RX8 p R s m args meth c) : Sd Z jX8_holding p e R s m args below meth c (MQ below (QcS Z Rp) args s 0 0 (fun a => Z.2.2.1 < a)) 0 (w_X8_holding_0 (MS Z (d + 1)) (Gw Z 10 p e R s m args below meth c (MQ below (QcS Z Rp) args s 0 0 (fun a => Z.2.2.1 < a))) Rp) := by
  unfold w_X8_holding_0
  refine s_aload_n (k := 0) C (by decide +kernel) ?_
  refine s_getR C w_2_114 (by decide +kernel) rfl ?_
  refine s_iload_n (k := 1) C (by decide +kernel) ?_
  refine s_aald C rfl (by decide +kernel) ?_
  refine s_iload_n (k := 2) C (by decide +kernel) ?_
  refine s_fnV C (j2 := jX7_termAt) (cl := 7) (nf := 18) rfl rfl (by decide +kernel) rfl w_5_95 w_3_130 w_3_131 w_1_5 w_3_132 (by decide +kernel) (fun _ _ _ _ _ h => f_X7_termAt h) (fun _ _ _ _ _ h => r_X7_termAt h) ?_
  refine s_istore_n (k := 3) C (by decide +kernel) ?_
  refine s_aload_n (k := 0) C (by decide +kernel) ?_
  refine s_getR C w_2_122 (by decide +kernel) rfl ?_
  refine s_iload_n (k := 2) C (by decide +kernel) ?_
  refine s_iald C (by decide +kernel) ?_
  refine s_istore (k := 4) C (by decide +kernel) ?_
  refine s_iload (k := 4) C (by decide +kernel) ?_
  refine s_if_eq (off := 16) (tgt := 37) C (by decide +kernel) (by decide) (b_X8_holding_37 C) ?_
  refine s_iload (k := 4) C (by decide +kernel) ?_
  refine s_fnS C (j2 := jX0_termOf) (by decide +kernel) rfl w_5_185 w_3_175 w_1_9 w_3_176 (by decide +kernel) (fun _ _ _ _ _ h => f_X0_termOf h) ?_
  refine s_iload_n (k := 3) C (by decide +kernel) ?_
  refine s_icmp_ne (off := 7) (tgt := 37) C (by decide +kernel) (by decide) (b_X8_holding_37 C) ?_
  refine s_iconst (n := 1) C (by decide +kernel) (by decide) ?_
  exact s_goto (off := 4) (tgt := 38) C (by decide +kernel) (by decide) (b_X8_holding_38 C)
theorem ms_X8_holding {Z : Zt} {d : Nat} {S : Sh} {μ : Mi} {ρ : Mr} {Rp : RT} (a1 : Nat) (x2 : Int32) (x3 : Int32) (h : ∀ G : Nat → PT, (∀ (L st : List Value) (S : Sh) (q : Nat × Nat) (μ : Mi) (ρ : Mr), w_X8_holding_46 (MS Z (d + 1)) G Rp L st S q μ ρ → G 46 L st S q μ ρ) → w_X8_holding_0 (MS Z (d + 1)) G Rp [.ref a1, .int x2, .int x3, .null, .null, .null, .null, .null, .null, .null] [] S (0, 0) μ ρ) : MS Z (d + 2) jX8_holding [.ref a1, .int x2, .int x3] S μ ρ Rp :=
  MS_of [.ref a1, .int x2, .int x3, .null, .null, .null, .null, .null, .null, .null] (by decide +kernel) rfl rfl (Nat.le_of_ble_eq_true rfl) rfl (fun p e R s m args below meth c C => b_X8_holding_0 C _ _ _ _ _ _ (h _ (b_X8_holding_46 C)))
def F_X8_holding : FT := fun As S μ ρ k => match As with
  | [.ref a, .int n, .int p] => S.2 a = (10, 6) ∧ ∃ (s q : Nat) (A : Rw), RR A a S μ ρ ∧ n = nI s ∧ s < 5 ∧ p = nI q ∧ (A (514 * s + 5)).toInt < (nI q).toInt ∧ (nI q).toInt ≤ (A (514 * s + 4)).toInt ∧ q < 2 ^ 31 ∧ k (some (.int (qHolders A s q))) μ
  | _ => False
set_option maxHeartbeats 1000000 in
theorem f_X8_holding {Z : Zt} {d : Nat} {As : List Value} {S : Sh} {μ : Mi} {ρ : Mr} {Rp : RT} (h : F_X8_holding As S μ ρ (fun r μ' => Rp r S μ' ρ)) : MS Z (d + 2) jX8_holding As S μ ρ Rp := by
  unfold F_X8_holding at h
  split at h
  · rename_i a n p
    obtain ⟨a, hNa⟩ : ∃ n : Nat, n = a := ⟨a, rfl⟩
    subst hNa
    obtain ⟨h1, s, q, A, hR, rfl, hs, rfl, q1, q2, q3, h⟩ := h
    unfold qHolders at h
    refine ms_X8_holding _ _ _ (fun G g46 => ?_)
    have hW := RR_W hR
    obtain ⟨z1, z2, z3⟩ := W_st hW hs
    have hSs := RR_st hR hs
    have hi5 := inb_nI hs (show (5 : Nat) < 2 ^ 31 by decide)
    obtain ⟨l, l1, l2, -, l3⟩ := rg_ex hSs.2.1.2.1
    obtain ⟨sn, s1, s2, -, s3⟩ := rg_ex hSs.2.1.2.2.1
    rw [s1, nI_toInt s2, nI_toInt q3] at q1
    rw [l1, nI_toInt l2, nI_toInt q3] at q2
    have en := hSs.2.2.2.1 q (by rw [s1, nI_clamp s2]; omega) (by rw [l1, nI_clamp l2]; omega)
    have et : qTermAt A s (nI q) = A (514 * s + 30 + 4 * q) := by
      unfold qTermAt
      rw [s1, l1, nI_toInt s2, nI_toInt l2, nI_toInt q3, if_neg (by rw [nI_eq q3 s2]; omega), if_pos (by omega), nI_clamp q3]
    have tz : ¬ A (514 * s + 30 + 4 * q) = 0 := by rw [← en.1.1]; exact en.2.1
    have hfi := hR.1.2.2.2.1.1 q (by omega) (by omega)
    generalize htm : A (514 * s + 30 + 4 * q) = tm at *
    have main : ∀ wa : Int32, (wa = 0 ∨ wa = 1) → (wa = 1 ↔ A (3826 + 4 * q) = tm) → ∀ fi : Int32, ∀ (j t : Nat) (v8 v9 : Value), j + t = 5 → G 46 [.ref a, .int (nI s), .int (nI q), .int tm, .int fi, .int wa, .int (foldF (ho1 A q tm) 0 t), .int (nI t), v8, v9] [] S (0, 0) μ ρ := by
      intro wa hwa hwi fi j
      induction j with
      | zero =>
        intro t v8 v9 ht
        obtain rfl : t = 5 := by omega
        rw [foldF_5]
        apply g46
        simp only [w_X8_holding_46, w_X8_holding_124, tAload, tIload, nth, tGetI, tGetR, tConst, tLconst, tBin, tUn, tI2l, tAld, tAldR, tAlen, tIast, tBast, tZast, tAast, tIret, tZret, tVret, tAret, tIf, tIf2, tGoto, tIstore, tAstore, sset, tIinc, tDup, tDup2, tPop, tPutI, tPutZ, tPutR, tCallV, tCallS, popN, tFn, tCopy, tMax, tMin, tSw, swc, tRem, tObjI, Option.toList, List.nil_append, List.cons_append, okR, true_and, and_true, true_or, or_true, Nat.zero_le, ne_eq, not_false_eq_true, Nat.reduceEqDiff]
        exact ⟨fun _ => h, fun c => absurd ((nI_le5 (by decide)).mpr rfl) c⟩
      | succ j ih =>
        intro t v8 v9 ht
        have ht5 : t < 5 := by omega
        obtain ⟨x1, x2, x3⟩ := W_st hW ht5
        have x2' := x2
        unfold StS at x2
        have hSt := RR_st hR ht5
        have hA := hSt.1
        unfold StA at hA
        obtain ⟨lt, lt1, lt2, -, lt3⟩ := rg_ex hSt.2.1.2.1
        obtain ⟨st, st1, st2, -, st3⟩ := rg_ex hSt.2.1.2.2.1
        have nx := fun v8 v9 => ih (t + 1) v8 v9 (by omega)
        have e1 : ∀ x, ho1 A q tm t x = x ||| (if holds1 A q tm t then (1 : Int32) <<< (nI t &&& 31) else 0) := fun _ => rfl
        rw [foldF_s, e1] at nx
        have f109 : holds1 A q tm t → ∀ v9 : Value, w_X8_holding_109 (MS Z (d + 1)) G Rp [.ref a, .int (nI s), .int (nI q), .int tm, .int fi, .int wa, .int (foldF (ho1 A q tm) 0 t), .int (nI t), .ref (a + 130 + 8 * t), v9] [] S (0, 0) μ ρ := by
          intro c v9
          rw [if_pos c] at nx
          simp only [w_X8_holding_109, w_X8_holding_118, tAload, tIload, nth, tGetI, tGetR, tConst, tLconst, tBin, tUn, tI2l, tAld, tAldR, tAlen, tIast, tBast, tZast, tAast, tIret, tZret, tVret, tAret, tIf, tIf2, tGoto, tIstore, tAstore, sset, tIinc, tDup, tDup2, tPop, tPutI, tPutZ, tPutR, tCallV, tCallS, popN, tFn, tCopy, tMax, tMin, tSw, swc, tRem, tObjI, Option.toList, List.nil_append, List.cons_append, okR, true_and, and_true, true_or, or_true, Nat.zero_le, ne_eq, not_false_eq_true, Nat.reduceEqDiff, nI_s1]
          exact nx _ _
        have f118 : ¬ holds1 A q tm t → ∀ v9 : Value, w_X8_holding_118 (MS Z (d + 1)) G Rp [.ref a, .int (nI s), .int (nI q), .int tm, .int fi, .int wa, .int (foldF (ho1 A q tm) 0 t), .int (nI t), .ref (a + 130 + 8 * t), v9] [] S (0, 0) μ ρ := by
          intro c v9
          rw [if_neg c, Int32.or_zero] at nx
          simp only [w_X8_holding_118, tAload, tIload, nth, tGetI, tGetR, tConst, tLconst, tBin, tUn, tI2l, tAld, tAldR, tAlen, tIast, tBast, tZast, tAast, tIret, tZret, tVret, tAret, tIf, tIf2, tGoto, tIstore, tAstore, sset, tIinc, tDup, tDup2, tPop, tPutI, tPutZ, tPutR, tCallV, tCallS, popN, tFn, tCopy, tMax, tMin, tSw, swc, tRem, tObjI, Option.toList, List.nil_append, List.cons_append, okR, true_and, and_true, true_or, or_true, Nat.zero_le, ne_eq, not_false_eq_true, Nat.reduceEqDiff, nI_s1]
          exact nx _ _
        have hd : holds1 A q tm t ↔ ((¬ st < q ∧ wa = 1) ∨ (st < q ∧ q ≤ lt ∧ A (514 * t + 30 + 4 * q) = tm)) := by
          unfold holds1
          rw [st1, lt1, nI_toInt st2, nI_toInt lt2, nI_toInt q3]
          by_cases c : nI st < nI q
          · rw [if_neg (not_not_intro c)]
            rw [nI_ltI st2 q3] at c
            constructor
            · exact fun z => Or.inr ⟨c, by omega, z.2⟩
            · exact fun z => z.elim (fun z => absurd c z.1) (fun z => ⟨by omega, z.2.2⟩)
          · rw [if_pos c, ← hwi]
            rw [nI_ltI st2 q3] at c
            constructor
            · exact fun z => Or.inl ⟨c, z⟩
            · exact fun z => z.elim (fun z => z.2) (fun z => absurd z.1 c)
        have f85 : ∀ il : Int32, (il = 0 ∨ il = 1) → (il = 1 ↔ (st < q ∧ q ≤ lt ∧ A (514 * t + 30 + 4 * q) = tm)) → w_X8_holding_85 (MS Z (d + 1)) G Rp [.ref a, .int (nI s), .int (nI q), .int tm, .int fi, .int wa, .int (foldF (ho1 A q tm) 0 t), .int (nI t), .ref (a + 130 + 8 * t), v9] [.int il] S (0, 0) μ ρ := by
          intro il hil hii
          simp only [w_X8_holding_85, tAload, tIload, nth, tGetI, tGetR, tConst, tLconst, tBin, tUn, tI2l, tAld, tAldR, tAlen, tIast, tBast, tZast, tAast, tIret, tZret, tVret, tAret, tIf, tIf2, tGoto, tIstore, tAstore, sset, tIinc, tDup, tDup2, tPop, tPutI, tPutZ, tPutR, tCallV, tCallS, popN, tFn, tCopy, tMax, tMin, tSw, swc, tRem, tObjI, Option.toList, List.nil_append, List.cons_append, okR, true_and, and_true, true_or, or_true, Nat.zero_le, ne_eq, not_false_eq_true, Nat.reduceEqDiff, x1, x2, hA, st1]
          rw [nI_ltI st2 q3]
          refine ⟨fun c => f109 (hd.mpr (Or.inr (hii.mp (hil.elim (fun z => absurd z c) id)))) _, fun c => ⟨fun c2 => f118 (fun z => ?_) _, fun c2 => ⟨fun c3 => f118 (fun z => ?_) _, fun c3 => f109 (hd.mpr (Or.inl ⟨c3, hwa.elim (fun z => absurd z c2) id⟩)) _⟩⟩⟩
          · have c' := Classical.not_not.mp c
            rcases hd.mp z with y | y
            · rw [y.2] at c2; exact absurd c2 (by decide)
            · have := hii.mpr y; rw [this] at c'; exact absurd c' (by decide)
          · have c' := Classical.not_not.mp c
            rcases hd.mp z with y | y
            · exact y.1 c3
            · have := hii.mpr y; rw [this] at c'; exact absurd c' (by decide)
        apply g46
        simp only [w_X8_holding_46, w_X8_holding_84, tAload, tIload, nth, tGetI, tGetR, tConst, tLconst, tBin, tUn, tI2l, tAld, tAldR, tAlen, tIast, tBast, tZast, tAast, tIret, tZret, tVret, tAret, tIf, tIf2, tGoto, tIstore, tAstore, sset, tIinc, tDup, tDup2, tPop, tPutI, tPutZ, tPutR, tCallV, tCallS, popN, tFn, tCopy, tMax, tMin, tSw, swc, tRem, tObjI, Option.toList, List.nil_append, List.cons_append, okR, true_and, and_true, true_or, or_true, Nat.zero_le, ne_eq, not_false_eq_true, Nat.reduceEqDiff, F_X7_holds, F_X7_termAt, b2_z, h1, hW.2.2.2.2.1, hW.2.1]
        simp (disch := omega) only [nI_clamp, x3, x1]
        rw [nI_le5 (by omega)]
        have hch : cHolds μ (a + 130 + 8 * t) (nI q) ↔ (st < q ∧ q ≤ lt) := by
          unfold cHolds
          rw [hA.2.2.2.2.2.2.2.2.2.1, hA.2.2.2.2.2.2.2.1, st1, lt1, nI_leI q3 st2, nI_ltI lt2 q3]
          omega
        have htt : st < q ∧ q ≤ lt → cTermAt μ (a + 130 + 8 * t) (nI q) = A (514 * t + 30 + 4 * q) := by
          intro c
          rw [St_termAt hSt]
          unfold qTermAt
          rw [st1, lt1, nI_toInt st2, nI_toInt lt2, nI_toInt q3, if_neg (by rw [nI_eq q3 st2]; omega), if_pos (by omega), nI_clamp q3]
        refine ⟨fun z => absurd z (by omega), fun _ => ⟨inb_nI ht5 (by decide), by omega, trivial, x2', fun c => ?_, fun c => ⟨trivial, x2', ?_, ?_, fun c2 => ?_, fun c2 => ?_⟩⟩⟩
        · exact f85 0 (Or.inl rfl) ⟨fun z => absurd z (by decide), fun z => absurd (hch.mpr ⟨z.1, z.2.1⟩) c⟩
        · rw [hA.2.2.2.2.2.2.2.2.2.1]; exact hSt.2.1.2.2.1.1
        · rw [hA.2.2.2.2.2.2.2.1]; exact hSt.2.1.2.1.2
        · have c' := hch.mp (Decidable.not_not.mp c)
          rw [htt c'] at c2
          exact f85 0 (Or.inl rfl) ⟨fun z => absurd z (by decide), fun z => absurd z.2.2 c2⟩
        · have c' := hch.mp (Decidable.not_not.mp c)
          rw [htt c'] at c2
          exact f85 1 (Or.inr rfl) ⟨fun _ => ⟨c'.1, c'.2, Classical.not_not.mp c2⟩, fun _ => rfl⟩
    simp only [w_X8_holding_0, w_X8_holding_37, w_X8_holding_38, tAload, tIload, nth, tGetI, tGetR, tConst, tLconst, tBin, tUn, tI2l, tAld, tAldR, tAlen, tIast, tBast, tZast, tAast, tIret, tZret, tVret, tAret, tIf, tIf2, tGoto, tIstore, tAstore, sset, tIinc, tDup, tDup2, tPop, tPutI, tPutZ, tPutR, tCallV, tCallS, popN, tFn, tCopy, tMax, tMin, tSw, swc, tRem, tObjI, Option.toList, List.nil_append, List.cons_append, okR, true_and, and_true, true_or, or_true, Nat.zero_le, ne_eq, not_false_eq_true, Nat.reduceEqDiff, F_X7_termAt, F_X0_termOf, h1, hW.2.2.2.2.1, hW.2.1, nI_clamp (show s < 2 ^ 31 by omega), nI_clamp q3, z3, z1, hi5]
    have c0 : cTermAt μ (a + 130 + 8 * s) (nI q) = tm := by rw [St_termAt hSs, et]
    rw [c0]
    refine ⟨by omega, z2, ?_, ?_, inb_nI (by omega) (by decide), fun c => ?_, fun c => ⟨fun c2 => ?_, fun c2 => ?_⟩⟩
    · rw [hSs.1.2.2.2.2.2.2.2.2.2.1]; exact hSs.2.1.2.2.1.1
    · rw [hSs.1.2.2.2.2.2.2.2.1]; exact hSs.2.1.2.1.2
    · refine main 0 (Or.inl rfl) ⟨fun z => absurd z (by decide), fun z => ?_⟩ _ 5 0 _ _ rfl
      rcases hfi with y | y
      · exact absurd (z.symm.trans y.2) tz
      · rw [c] at y; exact absurd (show eTm 0 = 0 by decide) y.2.1
    · refine main 0 (Or.inl rfl) ⟨fun z => absurd z (by decide), fun z => ?_⟩ _ 5 0 _ _ rfl
      rcases hfi with y | y
      · exact absurd y.1 c
      · exact absurd (y.1.1.trans z) c2
    · refine main 1 (Or.inr rfl) ⟨fun _ => ?_, fun _ => rfl⟩ _ 5 0 _ _ rfl
      rcases hfi with y | y
      · exact absurd y.1 c
      · rw [← y.1.1]; exact Classical.not_not.mp c2
  · exact h.elim
def w_X8_alikeUpTo_60 (M : CT) (G : Nat → PT) (Rp : RT) : PT := tConst 0 <| tIret Rp
def w_X8_alikeUpTo_54 (M : CT) (G : Nat → PT) (Rp : RT) : PT := tIinc 3 (-1) <| tGoto (G 34)
def w_X8_alikeUpTo_34 (M : CT) (G : Nat → PT) (Rp : RT) : PT := tIload 3 <| tIload 2 <| tIf2 (fun x y => x < y) (w_X8_alikeUpTo_60 M G Rp) <| tAload 0 <| tIload 3 <| tFn 2 F_X7_termAt <| tAload 1 <| tIload 3 <| tFn 2 F_X7_termAt <| tIf2 (fun x y => x ≠ y) (w_X8_alikeUpTo_54 M G Rp) <| tIload 3 <| tIret Rp
def w_X8_alikeUpTo_0 (M : CT) (G : Nat → PT) (Rp : RT) : PT := tConst 1 <| tAload 0 <| tGetR 7 18 16 <| tGetI 6 5 0 <| tAload 1 <| tGetR 7 18 16 <| tGetI 6 5 0 <| tMax <| tMax <| tIstore 2 <| tAload 0 <| tGetI 7 18 7 <| tAload 1 <| tGetI 7 18 7 <| tMin <| tIstore 3 <| G 34
set_option maxRecDepth 20000 in
theorem b_X8_alikeUpTo_60 {Z : Zt} {d : Nat} {p : Program} {e : Env} {R : Room} {s : State} {m : MethodId} {args : Array Value} {below : List Frame} {meth : Method} {c : Code} {Rp : RT} (C : Cx Z (d + 1) jX8_alikeUpTo RX8 p R s m args meth c) : Sd Z jX8_alikeUpTo p e R s m args below meth c (MQ below (QcS Z Rp) args s 0 0 (fun a => Z.2.2.1 < a)) 60 (w_X8_alikeUpTo_60 (MS Z (d + 1)) (Gw Z 4 p e R s m args below meth c (MQ below (QcS Z Rp) args s 0 0 (fun a => Z.2.2.1 < a))) Rp) := by
  unfold w_X8_alikeUpTo_60
  refine s_iconst (n := 0) C (by decide +kernel) (by decide) ?_
  exact s_iret C rfl (by decide +kernel)
set_option maxRecDepth 20000 in
theorem b_X8_alikeUpTo_54 {Z : Zt} {d : Nat} {p : Program} {e : Env} {R : Room} {s : State} {m : MethodId} {args : Array Value} {below : List Frame} {meth : Method} {c : Code} {Rp : RT} (C : Cx Z (d + 1) jX8_alikeUpTo RX8 p R s m args meth c) : Sd Z jX8_alikeUpTo p e R s m args below meth c (MQ below (QcS Z Rp) args s 0 0 (fun a => Z.2.2.1 < a)) 54 (w_X8_alikeUpTo_54 (MS Z (d + 1)) (Gw Z 4 p e R s m args below meth c (MQ below (QcS Z Rp) args s 0 0 (fun a => Z.2.2.1 < a))) Rp) := by
  unfold w_X8_alikeUpTo_54
  refine s_iinc (n := (-1)) C (by decide +kernel) (by decide) ?_
  exact s_goto (off := (-23)) (tgt := 34) C (by decide +kernel) (by decide) (fun _ _ _ _ _ _ h => h)
set_option maxRecDepth 20000 in
theorem b_X8_alikeUpTo_34 {Z : Zt} {d : Nat} {p : Program} {e : Env} {R : Room} {s : State} {m : MethodId} {args : Array Value} {below : List Frame} {meth : Method} {c : Code} {Rp : RT} (C : Cx Z (d + 1) jX8_alikeUpTo RX8 p R s m args meth c) : Sd Z jX8_alikeUpTo p e R s m args below meth c (MQ below (QcS Z Rp) args s 0 0 (fun a => Z.2.2.1 < a)) 34 (w_X8_alikeUpTo_34 (MS Z (d + 1)) (Gw Z 4 p e R s m args below meth c (MQ below (QcS Z Rp) args s 0 0 (fun a => Z.2.2.1 < a))) Rp) := by
  unfold w_X8_alikeUpTo_34
  refine s_iload_n (k := 3) C (by decide +kernel) ?_
  refine s_iload_n (k := 2) C (by decide +kernel) ?_
  refine s_icmp_lt (off := 24) (tgt := 60) C (by decide +kernel) (by decide) (b_X8_alikeUpTo_60 C) ?_
  refine s_aload_n (k := 0) C (by decide +kernel) ?_
  refine s_iload_n (k := 3) C (by decide +kernel) ?_
  refine s_fnV C (j2 := jX7_termAt) (cl := 7) (nf := 18) rfl rfl (by decide +kernel) rfl w_5_95 w_3_130 w_3_131 w_1_5 w_3_132 (by decide +kernel) (fun _ _ _ _ _ h => f_X7_termAt h) (fun _ _ _ _ _ h => r_X7_termAt h) ?_
  refine s_aload_n (k := 1) C (by decide +kernel) ?_
  refine s_iload_n (k := 3) C (by decide +kernel) ?_
  refine s_fnV C (j2 := jX7_termAt) (cl := 7) (nf := 18) rfl rfl (by decide +kernel) rfl w_5_95 w_3_130 w_3_131 w_1_5 w_3_132 (by decide +kernel) (fun _ _ _ _ _ h => f_X7_termAt h) (fun _ _ _ _ _ h => r_X7_termAt h) ?_
  refine s_icmp_ne (off := 5) (tgt := 54) C (by decide +kernel) (by decide) (b_X8_alikeUpTo_54 C) ?_
  refine s_iload_n (k := 3) C (by decide +kernel) ?_
  exact s_iret C rfl (by decide +kernel)
set_option maxRecDepth 20000 in
theorem b_X8_alikeUpTo_0 {Z : Zt} {d : Nat} {p : Program} {e : Env} {R : Room} {s : State} {m : MethodId} {args : Array Value} {below : List Frame} {meth : Method} {c : Code} {Rp : RT} (C : Cx Z (d + 1) jX8_alikeUpTo RX8 p R s m args meth c) : Sd Z jX8_alikeUpTo p e R s m args below meth c (MQ below (QcS Z Rp) args s 0 0 (fun a => Z.2.2.1 < a)) 0 (w_X8_alikeUpTo_0 (MS Z (d + 1)) (Gw Z 4 p e R s m args below meth c (MQ below (QcS Z Rp) args s 0 0 (fun a => Z.2.2.1 < a))) Rp) := by
  unfold w_X8_alikeUpTo_0
  refine s_iconst (n := 1) C (by decide +kernel) (by decide) ?_
  refine s_aload_n (k := 0) C (by decide +kernel) ?_
  refine s_getR C w_2_33 (by decide +kernel) rfl ?_
  refine s_getI C w_1_161 (by decide +kernel) rfl ?_
  refine s_aload_n (k := 1) C (by decide +kernel) ?_
  refine s_getR C w_2_33 (by decide +kernel) rfl ?_
  refine s_getI C w_1_161 (by decide +kernel) rfl ?_
  refine s_max C w_5_150 w_3_168 w_1_16 w_max (by decide +kernel) ?_
  refine s_max C w_5_150 w_3_168 w_1_16 w_max (by decide +kernel) ?_
  refine s_istore_n (k := 2) C (by decide +kernel) ?_
  refine s_aload_n (k := 0) C (by decide +kernel) ?_
  refine s_getI C w_2_3 (by decide +kernel) rfl ?_
  refine s_aload_n (k := 1) C (by decide +kernel) ?_
  refine s_getI C w_2_3 (by decide +kernel) rfl ?_
  refine s_min C w_5_151 w_3_84 w_1_16 w_min (by decide +kernel) ?_
  refine s_istore_n (k := 3) C (by decide +kernel) ?_
  exact (fun _ _ _ _ _ _ h => h)
theorem ms_X8_alikeUpTo {Z : Zt} {d : Nat} {S : Sh} {μ : Mi} {ρ : Mr} {Rp : RT} (a1 : Nat) (a2 : Nat) (h : ∀ G : Nat → PT, (∀ (L st : List Value) (S : Sh) (q : Nat × Nat) (μ : Mi) (ρ : Mr), w_X8_alikeUpTo_34 (MS Z (d + 1)) G Rp L st S q μ ρ → G 34 L st S q μ ρ) → w_X8_alikeUpTo_0 (MS Z (d + 1)) G Rp [.ref a1, .ref a2, .null, .null] [] S (0, 0) μ ρ) : MS Z (d + 2) jX8_alikeUpTo [.ref a1, .ref a2] S μ ρ Rp :=
  MS_of [.ref a1, .ref a2, .null, .null] (by decide +kernel) rfl rfl (Nat.le_of_ble_eq_true rfl) rfl (fun p e R s m args below meth c C => b_X8_alikeUpTo_0 C _ _ _ _ _ _ (h _ (b_X8_alikeUpTo_34 C)))
def F_X8_alikeUpTo : FT := fun As S μ ρ k => match As with
  | [.ref x, .ref y] => S.2 x = (7, 18) ∧ S.2 y = (7, 18) ∧ ∃ (w a b : Nat) (A : Rw), RR A w S μ ρ ∧ a < 5 ∧ b < 5 ∧ x = w + 130 + 8 * a ∧ y = w + 130 + 8 * b ∧ 0 ≤ (A (514 * a + 6)).toInt ∧ 0 ≤ (A (514 * b + 6)).toInt ∧ k (some (.int (alF A a b (min (A (514 * a + 4)).toNatClampNeg (A (514 * b + 4)).toNatClampNeg)))) μ
  | _ => False
set_option maxHeartbeats 1000000 in
theorem f_X8_alikeUpTo {Z : Zt} {d : Nat} {As : List Value} {S : Sh} {μ : Mi} {ρ : Mr} {Rp : RT} (h : F_X8_alikeUpTo As S μ ρ (fun r μ' => Rp r S μ' ρ)) : MS Z (d + 2) jX8_alikeUpTo As S μ ρ Rp := by
  unfold F_X8_alikeUpTo at h
  split at h
  · rename_i x y
    obtain ⟨x, hNx⟩ : ∃ n : Nat, n = x := ⟨x, rfl⟩
    subst hNx
    obtain ⟨y, hNy⟩ : ∃ n : Nat, n = y := ⟨y, rfl⟩
    subst hNy
    obtain ⟨h1, h2, w, a, b, A, hR, ha, hb, rfl, rfl, ta, tb, h⟩ := h
    refine ms_X8_alikeUpTo _ _ (fun G g34 => ?_)
    have hW := RR_W hR
    obtain ⟨x1, x2, -⟩ := W_st hW ha
    obtain ⟨y1, y2, -⟩ := W_st hW hb
    have x2' := x2
    have y2' := y2
    unfold StS at x2 y2
    have hSa := RR_st hR ha
    have hSb := RR_st hR hb
    obtain ⟨la, la1, la2, -, la3⟩ := rg_ex hSa.2.1.2.1
    obtain ⟨sa, sa1, sa2, -, sa3⟩ := rg_ex hSa.2.1.2.2.1
    obtain ⟨lb, lb1, lb2, -, lb3⟩ := rg_ex hSb.2.1.2.1
    obtain ⟨sb, sb1, sb2, -, sb3⟩ := rg_ex hSb.2.1.2.2.1
    rw [la1, lb1, nI_clamp la2, nI_clamp lb2] at h
    have a7 : μ (w + 130 + 8 * a) 7 = nI la := hSa.1.2.2.2.2.2.2.2.1.trans la1
    have b7 : μ (w + 130 + 8 * b) 7 = nI lb := hSb.1.2.2.2.2.2.2.2.1.trans lb1
    have a5 : μ (w + 130 + 8 * a + 5) 0 = nI sa := hSa.1.2.2.2.2.2.2.2.2.2.1.trans sa1
    have b5 : μ (w + 130 + 8 * b + 5) 0 = nI sb := hSb.1.2.2.2.2.2.2.2.2.2.1.trans sb1
    have tin : ∀ (c : Nat), c < 5 → ∀ (sc lc p : Nat), St A c (w + 130 + 8 * c) μ → A (514 * c + 5) = nI sc → A (514 * c + 4) = nI lc → 0 ≤ (A (514 * c + 6)).toInt → sc ≤ 120 → lc ≤ 120 → p ≤ 120 → (qTermAt A c (nI p) = -1 ↔ ¬ (sc ≤ p ∧ (p ≤ lc ∨ p = sc))) := by
      intro c hc sc lc p hS e5 e4 et h1 h2 h3
      unfold qTermAt
      rw [e5, e4, nI_toInt (by omega), nI_toInt (by omega), nI_toInt (by omega), nI_clamp (by omega)]
      by_cases z : nI p = nI sc
      · rw [if_pos z]
        rw [nI_eq (by omega) (by omega)] at z
        constructor
        · intro y; rw [y] at et; exact absurd et (by decide)
        · intro y; omega
      · rw [if_neg z]
        rw [nI_eq (by omega) (by omega)] at z
        by_cases z2 : (sc : Int) < p ∧ (p : Int) ≤ lc
        · rw [if_pos z2]
          have en := hS.2.2.2.1 p (by rw [e5, nI_clamp (by omega)]; omega) (by rw [e4, nI_clamp (by omega)]; omega)
          constructor
          · intro y
            have h255 : rg (eTm (μ (w + 130 + 8 * c + 1) p)) 0 255 := by
              have hh : (eTm (μ (w + 130 + 8 * c + 1) p)).toBitVec.toNat ≤ 255 := by
                unfold eTm
                rw [Int32.toBitVec_and, BitVec.toNat_and]
                exact Nat.and_le_right
              unfold rg
              rw [← Int32.toInt_toBitVec, BitVec.toInt_eq_toNat_cond, if_pos (by omega)]
              omega
            rw [en.1.1, y] at h255
            exact absurd h255.1 (by decide)
          · intro y; omega
        · rw [if_neg z2]
          constructor
          · intro _; omega
          · intro _; rfl
    have loop : ∀ p, p ≤ min la lb → Rp (some (.int (alF A a b p))) S μ ρ → G 34 [.ref (w + 130 + 8 * a), .ref (w + 130 + 8 * b), .int (nI (max 1 (max sa sb))), .int (nI p)] [] S (0, 0) μ ρ := by
      intro p
      induction p with
      | zero =>
        intro hp hh
        apply g34
        simp only [w_X8_alikeUpTo_34, w_X8_alikeUpTo_60, tAload, tIload, nth, tGetI, tGetR, tConst, tLconst, tBin, tUn, tI2l, tAld, tAldR, tAlen, tIast, tBast, tZast, tAast, tIret, tZret, tVret, tAret, tIf, tIf2, tGoto, tIstore, tAstore, sset, tIinc, tDup, tDup2, tPop, tPutI, tPutZ, tPutR, tCallV, tCallS, popN, tFn, tCopy, tMax, tMin, tSw, swc, tRem, tObjI, Option.toList, List.nil_append, List.cons_append, okR, true_and, and_true, true_or, or_true, Nat.zero_le, ne_eq, not_false_eq_true, Nat.reduceEqDiff]
        exact ⟨fun _ => hh, fun z => absurd (by rw [nI_ltI (by omega) (by omega)]; omega) z⟩
      | succ p ih =>
        intro hp hh
        have em : nI (p + 1) + -1 = nI p := by rw [← nI_s1, Int32.add_assoc]; simp
        apply g34
        simp only [w_X8_alikeUpTo_34, w_X8_alikeUpTo_60, w_X8_alikeUpTo_54, tAload, tIload, nth, tGetI, tGetR, tConst, tLconst, tBin, tUn, tI2l, tAld, tAldR, tAlen, tIast, tBast, tZast, tAast, tIret, tZret, tVret, tAret, tIf, tIf2, tGoto, tIstore, tAstore, sset, tIinc, tDup, tDup2, tPop, tPutI, tPutZ, tPutR, tCallV, tCallS, popN, tFn, tCopy, tMax, tMin, tSw, swc, tRem, tObjI, Option.toList, List.nil_append, List.cons_append, okR, true_and, and_true, true_or, or_true, Nat.zero_le, ne_eq, not_false_eq_true, Nat.reduceEqDiff, F_X7_termAt, h1, h2, x2', y2', a5, b5, a7, b7, em]
        rw [nI_ltI (by omega) (by omega), nI_toInt sa2, nI_toInt sb2, nI_toInt la2, nI_toInt lb2, St_termAt hSa, St_termAt hSb]
        refine ⟨fun c => ?_, fun c => ⟨by omega, by omega, by omega, by omega, fun c2 => ?_, fun c2 => ?_⟩⟩
        · -- below a snapshot nothing is alike
          have key : ∀ q, q < max 1 (max sa sb) → q ≤ 120 → alF A a b q = 0 := by
            intro q
            induction q with
            | zero => intro _ _; rfl
            | succ q ihq =>
              intro hq hq2
              rw [alF_s, if_neg, ihq (by omega) (by omega)]
              intro z
              have ia := tin a ha sa la (q + 1) hSa sa1 la1 ta (by omega) (by omega) (by omega)
              have ib := tin b hb sb lb (q + 1) hSb sb1 lb1 tb (by omega) (by omega) (by omega)
              have : ¬ qTermAt A b (nI (q + 1)) = -1 := by rw [← z.2]; exact z.1
              rw [ia] at z
              rw [ib] at this
              omega
          rw [key (p + 1) c (by omega)] at hh
          exact hh
        · rw [alF_s, if_neg (fun z => c2 z.2)] at hh
          exact ih (by omega) hh
        · have c3 := Classical.not_not.mp c2
          have ia := tin a ha sa la (p + 1) hSa sa1 la1 ta (by omega) (by omega) (by omega)
          rw [alF_s, if_pos ⟨by rw [ia]; omega, c3⟩] at hh
          exact hh
    simp only [w_X8_alikeUpTo_0, tAload, tIload, nth, tGetI, tGetR, tConst, tLconst, tBin, tUn, tI2l, tAld, tAldR, tAlen, tIast, tBast, tZast, tAast, tIret, tZret, tVret, tAret, tIf, tIf2, tGoto, tIstore, tAstore, sset, tIinc, tDup, tDup2, tPop, tPutI, tPutZ, tPutR, tCallV, tCallS, popN, tFn, tCopy, tMax, tMin, tSw, swc, tRem, tObjI, Option.toList, List.nil_append, List.cons_append, okR, true_and, and_true, true_or, or_true, Nat.zero_le, ne_eq, not_false_eq_true, Nat.reduceEqDiff, h1, h2, x2, y2, a5, b5, a7, b7]
    have e1 : (if nI sa < nI sb then nI sb else nI sa) = nI (max sa sb) := by
      simp only [nI_ltI sa2 sb2]
      split
      · rw [show max sa sb = sb by omega]
      · rw [show max sa sb = sa by omega]
    have e2 : (if (1 : Int32) < nI (max sa sb) then nI (max sa sb) else 1) = nI (max 1 (max sa sb)) := by
      simp only [show (1 : Int32) = nI 1 from rfl, nI_ltI (show 1 < 2 ^ 31 by decide) (show max sa sb < 2 ^ 31 by omega)]
      split
      · rw [show max 1 (max sa sb) = max sa sb by omega]
      · rw [show max 1 (max sa sb) = 1 by omega]
    have e3 : (if nI lb < nI la then nI lb else nI la) = nI (min la lb) := by
      simp only [nI_ltI lb2 la2]
      split
      · rw [show min la lb = lb by omega]
      · rw [show min la lb = la by omega]
    rw [e1, e2, e3]
    exact loop (min la lb) (Nat.le_refl _) h
  · exact h.elim
