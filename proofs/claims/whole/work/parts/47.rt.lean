/-! ===== the reference: settles and the acts ===== -/
theorem il_0 : Int64.toInt 0 = 0 := by decide
theorem il_1 : Int64.toInt 1 = 1 := by decide
theorem il_2 : Int64.toInt 2 = 2 := by decide
theorem il_31 : Int64.toInt 31 = 31 := by decide
theorem il_200 : Int64.toInt 200 = 200 := by decide
theorem il_999 : Int64.toInt 999 = 999 := by decide
theorem il_m999 : Int64.toInt (-999) = -999 := by decide
theorem waits {A : Rw} (h : good A) (h0 : ¬ A 4510 ≤ 0) : 0 < (A 4510).toNatClampNeg ∧ 0 < (A 4510).toInt := by
  obtain ⟨w, ew, ew0, -, ew1⟩ := rg_ex (good_w h)
  rw [ew, show (0 : Int32) = nI 0 from rfl, nI_leI ew0 (by decide)] at h0
  rw [ew, nI_clamp ew0, nI_toInt ew0]
  omega
theorem setF_s {n : Nat} {A : Rw} (h : 0 < A 4510) : setF (n + 1) A = setF n (qComes A 0) ∧ setN (n + 1) A = setN n (qComes A 0) + 1 := by
  constructor
  · show (if 0 < A 4510 then _ else _) = _; rw [if_pos h]
  · show (if 0 < A 4510 then _ else _) = _; rw [if_pos h]
theorem setF_e {n : Nat} {A : Rw} (h : ¬ 0 < A 4510) : setF n A = A ∧ setN n A = 0 := by
  cases n with
  | zero => exact ⟨rfl, rfl⟩
  | succ n => constructor <;> (show (if 0 < A 4510 then _ else _) = _; rw [if_neg h])
theorem setN_le {n : Nat} : ∀ {A : Rw}, setN n A ≤ n := by
  induction n with
  | zero => intro A; exact Nat.le_refl _
  | succ n ih =>
    intro A
    by_cases h : 0 < A 4510
    · rw [(setF_s h).2]; have := @ih (qComes A 0); omega
    · rw [(setF_e h).2]; omega
theorem good_set {n : Nat} : ∀ {A : Rw}, good A → good (setF n A) := by
  induction n with
  | zero => intro A h; exact h
  | succ n ih =>
    intro A hg
    by_cases h : 0 < A 4510
    · rw [(setF_s h).1]; exact ih (good_step hg (Sp.comes (waits hg (Int32.not_le.mpr h)).1))
    · rw [(setF_e h).1]; exact hg
def w_X12_settles_30 (M : CT) (G : Nat → PT) (Rp : RT) : PT := tIload 2 <| tIret Rp
def w_X12_settles_2 (M : CT) (G : Nat → PT) (Rp : RT) : PT := tIload 2 <| tIload 1 <| tIf2 (fun x y => y ≤ x) (w_X12_settles_30 M G Rp) <| tAload 0 <| tGetR 12 27 1 <| tConst 4510 <| tAld 20 <| tIf (fun x => x ≤ 0) (w_X12_settles_30 M G Rp) <| tAload 0 <| tConst 0 <| tFn 2 F_X12_comes <| tIstore 3 <| tIinc 2 1 <| tGoto (G 2)
def w_X12_settles_0 (M : CT) (G : Nat → PT) (Rp : RT) : PT := tConst 0 <| tIstore 2 <| G 2
set_option maxRecDepth 20000 in
theorem b_X12_settles_30 {Z : Zt} {d : Nat} {p : Program} {e : Env} {R : Room} {s : State} {m : MethodId} {args : Array Value} {below : List Frame} {meth : Method} {c : Code} {Rp : RT} (C : Cx Z (d + 11) jX12_settles RX12 p R s m args meth c) : Sd Z jX12_settles p e R s m args below meth c (MQ below (QcS Z Rp) args s 0 0 (fun a => Z.2.2.1 < a)) 30 (w_X12_settles_30 (MS Z (d + 11)) (Gw Z 4 p e R s m args below meth c (MQ below (QcS Z Rp) args s 0 0 (fun a => Z.2.2.1 < a))) Rp) := by
  unfold w_X12_settles_30
  refine s_iload_n (k := 2) C (by decide +kernel) ?_
  exact s_iret C rfl (by decide +kernel)
set_option maxRecDepth 20000 in
theorem b_X12_settles_2 {Z : Zt} {d : Nat} {p : Program} {e : Env} {R : Room} {s : State} {m : MethodId} {args : Array Value} {below : List Frame} {meth : Method} {c : Code} {Rp : RT} (C : Cx Z (d + 11) jX12_settles RX12 p R s m args meth c) : Sd Z jX12_settles p e R s m args below meth c (MQ below (QcS Z Rp) args s 0 0 (fun a => Z.2.2.1 < a)) 2 (w_X12_settles_2 (MS Z (d + 11)) (Gw Z 4 p e R s m args below meth c (MQ below (QcS Z Rp) args s 0 0 (fun a => Z.2.2.1 < a))) Rp) := by
  unfold w_X12_settles_2
  refine s_iload_n (k := 2) C (by decide +kernel) ?_
  refine s_iload_n (k := 1) C (by decide +kernel) ?_
  refine s_icmp_ge (off := 26) (tgt := 30) C (by decide +kernel) (by decide) (b_X12_settles_30 C) ?_
  refine s_aload_n (k := 0) C (by decide +kernel) ?_
  refine s_getR C w_6_88 (by decide +kernel) rfl ?_
  refine s_sipush (n := 4510) C (by decide +kernel) (by decide) ?_
  refine s_iald C (by decide +kernel) ?_
  refine s_if_le (off := 15) (tgt := 30) C (by decide +kernel) (by decide) (b_X12_settles_30 C) ?_
  refine s_aload_n (k := 0) C (by decide +kernel) ?_
  refine s_iconst (n := 0) C (by decide +kernel) (by decide) ?_
  refine s_fnV C (j2 := jX12_comes) (cl := 12) (nf := 27) rfl rfl (by decide +kernel) rfl w_7_172 w_7_174 w_p5_13 w_1_13 w_7_175 (by decide +kernel) (fun _ _ _ _ _ h => f_X12_comes h) (fun _ _ _ _ _ h => r_X12_comes h) ?_
  refine s_istore_n (k := 3) C (by decide +kernel) ?_
  refine s_iinc (n := 1) C (by decide +kernel) (by decide) ?_
  exact s_goto (off := (-25)) (tgt := 2) C (by decide +kernel) (by decide) (fun _ _ _ _ _ _ h => h)
set_option maxRecDepth 20000 in
theorem b_X12_settles_0 {Z : Zt} {d : Nat} {p : Program} {e : Env} {R : Room} {s : State} {m : MethodId} {args : Array Value} {below : List Frame} {meth : Method} {c : Code} {Rp : RT} (C : Cx Z (d + 11) jX12_settles RX12 p R s m args meth c) : Sd Z jX12_settles p e R s m args below meth c (MQ below (QcS Z Rp) args s 0 0 (fun a => Z.2.2.1 < a)) 0 (w_X12_settles_0 (MS Z (d + 11)) (Gw Z 4 p e R s m args below meth c (MQ below (QcS Z Rp) args s 0 0 (fun a => Z.2.2.1 < a))) Rp) := by
  unfold w_X12_settles_0
  refine s_iconst (n := 0) C (by decide +kernel) (by decide) ?_
  refine s_istore_n (k := 2) C (by decide +kernel) ?_
  exact (fun _ _ _ _ _ _ h => h)
theorem ms_X12_settles {Z : Zt} {d : Nat} {S : Sh} {μ : Mi} {ρ : Mr} {Rp : RT} (a0 : Nat) (x1 : Int32) (h : ∀ G : Nat → PT, (∀ (L st : List Value) (S : Sh) (q : Nat × Nat) (μ : Mi) (ρ : Mr), w_X12_settles_2 (MS Z (d + 11)) G Rp L st S q μ ρ → G 2 L st S q μ ρ) → w_X12_settles_0 (MS Z (d + 11)) G Rp [.ref a0, .int x1, .null, .null] [] S (0, 0) μ ρ) : MS Z (d + 12) jX12_settles [.ref a0, .int x1] S μ ρ Rp :=
  MS_of [.ref a0, .int x1, .null, .null] (by decide +kernel) rfl rfl (Nat.le_of_ble_eq_true rfl) rfl (fun p e R s m args below meth c C => b_X12_settles_0 C _ _ _ _ _ _ (h _ (b_X12_settles_2 C)))
def F_X12_settles : FT := fun As S μ ρ k => match As with
  | [.ref a, .int n] => a = 2737 ∧ RS S ρ ∧ rg n 0 300 ∧ good (μ 2738) ∧ ∀ (t : T4) (g : Rw), k (some (.int (nI (setN n.toNatClampNeg (μ 2738))))) (M4 μ g t (setF n.toNatClampNeg (μ 2738)))
  | _ => False
theorem r_X12_settles {As S μ ρ k} (h : F_X12_settles As S μ ρ k) : ∃ a As', As = Value.ref a :: As' ∧ S.2 a = (12, 27) := by
  unfold F_X12_settles at h
  split at h
  · exact ⟨_, _, rfl, by rw [h.1]; exact h.2.1.1⟩
  · exact h.elim
set_option maxHeartbeats 1000000 in
theorem f_X12_settles {Z : Zt} {d : Nat} {As : List Value} {S : Sh} {μ : Mi} {ρ : Mr} {Rp : RT} (h : F_X12_settles As S μ ρ (fun r μ' => Rp r S μ' ρ)) : MS Z (d + 12) jX12_settles As S μ ρ Rp := by
  unfold F_X12_settles at h
  split at h
  · rename_i a n
    obtain ⟨rfl, hS, h⟩ := h
    have hS0 := hS
    unfold RS at hS
    obtain ⟨h1, hg, h⟩ := h
    obtain ⟨n, rfl, hn0, -, hn⟩ := rg_ex h1
    simp (disch := omega) only [nI_clamp] at h
    obtain ⟨g0, t0, h0⟩ := M4_self μ
    rw [h0]
    generalize hA : μ 2738 = A at *
    have i10 : inb 4510 13548 := inb_nI (k := 4510) (by decide) (by decide)
    refine ms_X12_settles _ _ (fun G g2 => ?_)
    simp only [w_X12_settles_0, tAload, tIload, nth, tGetI, tGetR, tConst, tLconst, tBin, tUn, tI2l, tAld, tAldR, tAlen, tIast, tBast, tZast, tAast, tIret, tZret, tVret, tAret, tIf, tIf2, tGoto, tIstore, tAstore, sset, tIinc, tDup, tDup2, tPop, tPutI, tPutZ, tPutR, tCallV, tCallS, popN, tFn, tCopy, tMax, tMin, tSw, swc, tRem, tObjI, Option.toList, List.nil_append, List.cons_append, okR, true_and, and_true, true_or, or_true, Nat.zero_le, ne_eq, not_false_eq_true, Nat.reduceEqDiff]
    have hr0 : rg 0 0 59 = True := eq_true ⟨by decide, by decide⟩
    have loop : ∀ (r k : Nat) (B : Rw) (v : Value) (g : Rw) (t : T4), r + k = n → good B → (∀ (t : T4) (g : Rw), Rp (some (.int (nI (k + setN r B)))) S (M4 μ g t (setF r B)) ρ) → G 2 [.ref 2737, .int (nI n), .int (nI k), v] [] S (0, 0) (M4 μ g t B) ρ := by
      intro r
      induction r with
      | zero =>
        intro k B v g t hk hB hq
        refine g2 _ _ _ _ _ _ ?_
        simp only [w_X12_settles_2, w_X12_settles_30, tAload, tIload, nth, tGetI, tGetR, tConst, tLconst, tBin, tUn, tI2l, tAld, tAldR, tAlen, tIast, tBast, tZast, tAast, tIret, tZret, tVret, tAret, tIf, tIf2, tGoto, tIstore, tAstore, sset, tIinc, tDup, tDup2, tPop, tPutI, tPutZ, tPutR, tCallV, tCallS, popN, tFn, tCopy, tMax, tMin, tSw, swc, tRem, tObjI, Option.toList, List.nil_append, List.cons_append, okR, true_and, and_true, true_or, or_true, Nat.zero_le, ne_eq, not_false_eq_true, Nat.reduceEqDiff]
        refine ⟨fun _ => ?_, fun c => absurd (nI_le (by omega) (by omega)) c⟩
        exact hq t g
      | succ r ih =>
        intro k B v g t hk hB hq
        refine g2 _ _ _ _ _ _ ?_
        simp only [w_X12_settles_2, w_X12_settles_30, tAload, tIload, nth, tGetI, tGetR, tConst, tLconst, tBin, tUn, tI2l, tAld, tAldR, tAlen, tIast, tBast, tZast, tAast, tIret, tZret, tVret, tAret, tIf, tIf2, tGoto, tIstore, tAstore, sset, tIinc, tDup, tDup2, tPop, tPutI, tPutZ, tPutR, tCallV, tCallS, popN, tFn, tCopy, tMax, tMin, tSw, swc, tRem, tObjI, Option.toList, List.nil_append, List.cons_append, okR, true_and, and_true, true_or, or_true, Nat.zero_le, ne_eq, not_false_eq_true, Nat.reduceEqDiff, F_X12_comes, hS0, hS, M4_row, M4_m, M4_g, M4_M3, i10, cl_4510, cl_0, hr0, nI_1]
        refine ⟨fun c => absurd c (nI_ge (by omega) (by omega)), fun _ => ⟨fun c => ?_, fun c => ⟨?_, good_cm hB, fun t' => ?_⟩⟩⟩
        · have := hq t g
          rw [(setF_e (Int32.not_lt.mpr c)).1, (setF_e (Int32.not_lt.mpr c)).2] at this
          exact this
        · exact (waits hB c).2
        · refine ih (k + 1) _ _ _ _ (by omega) (good_step hB (Sp.comes (waits hB c).1)) (fun t g => ?_)
          have := hq t g
          rw [(setF_s (Int32.not_le.mp c)).1, (setF_s (Int32.not_le.mp c)).2] at this
          rw [show k + 1 + setN r (qComes B 0) = k + (setN r (qComes B 0) + 1) by omega]
          exact this
    refine loop n 0 A _ _ _ (by omega) hg (fun t g => ?_)
    rw [Nat.zero_add]
    exact h t g
  · exact h.elim
def w_X12_actTimeout_21 (M : CT) (G : Nat → PT) (Rp : RT) : PT := tAload 0 <| tIload 1 <| tFn 2 F_X12_asks <| tAload 0 <| tIload 1 <| tConst 1 <| tFn 3 F_X12_of <| tIret Rp
def w_X12_actTimeout_10 (M : CT) (G : Nat → PT) (Rp : RT) : PT := tAload 0 <| tIload 1 <| tFn 2 F_X12_whyNot <| tIf (fun x => x = 0) (w_X12_actTimeout_21 M G Rp) <| tConst (-5) <| tIret Rp
def w_X12_actTimeout_0 (M : CT) (G : Nat → PT) (Rp : RT) : PT := tIload 1 <| tFn 1 F_X12_isStore <| tIf (fun x => x ≠ 0) (w_X12_actTimeout_10 M G Rp) <| tConst (-2) <| tIret Rp
set_option maxRecDepth 20000 in
theorem b_X12_actTimeout_21 {Z : Zt} {d : Nat} {p : Program} {e : Env} {R : Room} {s : State} {m : MethodId} {args : Array Value} {below : List Frame} {meth : Method} {c : Code} {Rp : RT} (C : Cx Z (d + 10) jX12_actTimeout RX12 p R s m args meth c) : Sd Z jX12_actTimeout p e R s m args below meth c (MQ below (QcS Z Rp) args s 0 0 (fun a => Z.2.2.1 < a)) 21 (w_X12_actTimeout_21 (MS Z (d + 10)) (Gw Z 2 p e R s m args below meth c (MQ below (QcS Z Rp) args s 0 0 (fun a => Z.2.2.1 < a))) Rp) := by
  unfold w_X12_actTimeout_21
  refine s_aload_n (k := 0) C (by decide +kernel) ?_
  refine s_iload_n (k := 1) C (by decide +kernel) ?_
  refine s_fnV C (j2 := jX12_asks) (cl := 12) (nf := 27) rfl rfl (by decide +kernel) rfl w_7_3 w_7_5 w_p4_0 w_1_13 w_7_6 (by decide +kernel) (fun _ _ _ _ _ h => f_X12_asks h) (fun _ _ _ _ _ h => r_X12_asks h) ?_
  refine s_aload_n (k := 0) C (by decide +kernel) ?_
  refine s_iload_n (k := 1) C (by decide +kernel) ?_
  refine s_iconst (n := 1) C (by decide +kernel) (by decide) ?_
  refine s_fnV C (j2 := jX12_of) (cl := 12) (nf := 27) rfl rfl (by decide +kernel) rfl w_6_220 w_6_222 w_p3_11 w_1_13 w_6_223 (by decide +kernel) (fun _ _ _ _ _ h => f_X12_of h) (fun _ _ _ _ _ h => r_X12_of h) ?_
  exact s_iret C rfl (by decide +kernel)
set_option maxRecDepth 20000 in
theorem b_X12_actTimeout_10 {Z : Zt} {d : Nat} {p : Program} {e : Env} {R : Room} {s : State} {m : MethodId} {args : Array Value} {below : List Frame} {meth : Method} {c : Code} {Rp : RT} (C : Cx Z (d + 10) jX12_actTimeout RX12 p R s m args meth c) : Sd Z jX12_actTimeout p e R s m args below meth c (MQ below (QcS Z Rp) args s 0 0 (fun a => Z.2.2.1 < a)) 10 (w_X12_actTimeout_10 (MS Z (d + 10)) (Gw Z 2 p e R s m args below meth c (MQ below (QcS Z Rp) args s 0 0 (fun a => Z.2.2.1 < a))) Rp) := by
  unfold w_X12_actTimeout_10
  refine s_aload_n (k := 0) C (by decide +kernel) ?_
  refine s_iload_n (k := 1) C (by decide +kernel) ?_
  refine s_fnV C (j2 := jX12_whyNot) (cl := 12) (nf := 27) rfl rfl (by decide +kernel) rfl w_6_212 w_6_214 w_p3_9 w_1_13 w_6_215 (by decide +kernel) (fun _ _ _ _ _ h => f_X12_whyNot h) (fun _ _ _ _ _ h => r_X12_whyNot h) ?_
  refine s_if_eq (off := 6) (tgt := 21) C (by decide +kernel) (by decide) (b_X12_actTimeout_21 C) ?_
  refine s_bipush (n := (-5)) C (by decide +kernel) (by decide) ?_
  exact s_iret C rfl (by decide +kernel)
set_option maxRecDepth 20000 in
theorem b_X12_actTimeout_0 {Z : Zt} {d : Nat} {p : Program} {e : Env} {R : Room} {s : State} {m : MethodId} {args : Array Value} {below : List Frame} {meth : Method} {c : Code} {Rp : RT} (C : Cx Z (d + 10) jX12_actTimeout RX12 p R s m args meth c) : Sd Z jX12_actTimeout p e R s m args below meth c (MQ below (QcS Z Rp) args s 0 0 (fun a => Z.2.2.1 < a)) 0 (w_X12_actTimeout_0 (MS Z (d + 10)) (Gw Z 2 p e R s m args below meth c (MQ below (QcS Z Rp) args s 0 0 (fun a => Z.2.2.1 < a))) Rp) := by
  unfold w_X12_actTimeout_0
  refine s_iload_n (k := 1) C (by decide +kernel) ?_
  refine s_fnS C (j2 := jX12_isStore) (by decide +kernel) rfl w_6_208 w_6_209 w_1_13 w_6_210 (by decide +kernel) (fun _ _ _ _ _ h => f_X12_isStore h) ?_
  refine s_if_ne (off := 6) (tgt := 10) C (by decide +kernel) (by decide) (b_X12_actTimeout_10 C) ?_
  refine s_bipush (n := (-2)) C (by decide +kernel) (by decide) ?_
  exact s_iret C rfl (by decide +kernel)
theorem ms_X12_actTimeout {Z : Zt} {d : Nat} {S : Sh} {μ : Mi} {ρ : Mr} {Rp : RT} (a0 : Nat) (x1 : Int32) (h : ∀ G : Nat → PT, w_X12_actTimeout_0 (MS Z (d + 10)) G Rp [.ref a0, .int x1] [] S (0, 0) μ ρ) : MS Z (d + 11) jX12_actTimeout [.ref a0, .int x1] S μ ρ Rp :=
  MS_of [.ref a0, .int x1] (by decide +kernel) rfl rfl (Nat.le_of_ble_eq_true rfl) rfl (fun p e R s m args below meth c C => b_X12_actTimeout_0 C _ _ _ _ _ _ (h _ ))
def F_X12_actTimeout : FT := fun As S μ ρ k => match As with
  | [.ref a, .int s] => a = 2737 ∧ RS S ρ ∧ good (μ 2738) ∧ ∀ (t : T4) (g : Rw), k (some (.int (aTimeout (μ 2738) s).1)) (M4 μ g t (aTimeout (μ 2738) s).2)
  | _ => False
theorem r_X12_actTimeout {As S μ ρ k} (h : F_X12_actTimeout As S μ ρ k) : ∃ a As', As = Value.ref a :: As' ∧ S.2 a = (12, 27) := by
  unfold F_X12_actTimeout at h
  split at h
  · exact ⟨_, _, rfl, by rw [h.1]; exact h.2.1.1⟩
  · exact h.elim
set_option maxHeartbeats 1000000 in
theorem f_X12_actTimeout {Z : Zt} {d : Nat} {As : List Value} {S : Sh} {μ : Mi} {ρ : Mr} {Rp : RT} (h : F_X12_actTimeout As S μ ρ (fun r μ' => Rp r S μ' ρ)) : MS Z (d + 11) jX12_actTimeout As S μ ρ Rp := by
  unfold F_X12_actTimeout at h
  split at h
  · rename_i a s
    obtain ⟨rfl, hS, h⟩ := h
    have hS0 := hS
    unfold RS at hS
    obtain ⟨hg, h⟩ := h
    obtain ⟨g0, t0, h0⟩ := M4_self μ
    rw [h0]
    generalize hA : μ 2738 = A at *
    refine ms_X12_actTimeout _ _ (fun G => ?_)
    unfold aTimeout at h
    simp only [w_X12_actTimeout_0, tAload, tIload, nth, tGetI, tGetR, tConst, tLconst, tBin, tUn, tI2l, tAld, tAldR, tAlen, tIast, tBast, tZast, tAast, tIret, tZret, tVret, tAret, tIf, tIf2, tGoto, tIstore, tAstore, sset, tIinc, tDup, tDup2, tPop, tPutI, tPutZ, tPutR, tCallV, tCallS, popN, tFn, tCopy, tMax, tMin, tSw, swc, tRem, tObjI, Option.toList, List.nil_append, List.cons_append, okR, true_and, and_true, true_or, or_true, Nat.zero_le, ne_eq, not_false_eq_true, Nat.reduceEqDiff, F_X12_isStore, b2_z, Decidable.not_not]
    refine ⟨fun c => ?_, fun c => ?_⟩
    · simp only [not_not_intro c, if_false] at h
      obtain ⟨s, rfl, hs0, -, hs⟩ := rg_ex (lo := 0) (hi := 4) c
      have hrs := rg_T (lo := 0) (hi := 4) (n := s) (by omega) (by omega) hs0
      have hs5 : s < 5 := by omega
      have hst := good_st hg hs5
      rw [nI_clamp hs0] at h
      have i1 : (514 : Int32) * nI s + 1 = nI (514 * s + 1) := ixs 1 1 rfl
      have b1 : inb (nI (514 * s + 1)) 13548 := inb_nI (by omega) (by decide)
      simp only [w_X12_actTimeout_10, w_X12_actTimeout_21, tAload, tIload, nth, tGetI, tGetR, tConst, tLconst, tBin, tUn, tI2l, tAld, tAldR, tAlen, tIast, tBast, tZast, tAast, tIret, tZret, tVret, tAret, tIf, tIf2, tGoto, tIstore, tAstore, sset, tIinc, tDup, tDup2, tPop, tPutI, tPutZ, tPutR, tCallV, tCallS, popN, tFn, tCopy, tMax, tMin, tSw, swc, tRem, tObjI, Option.toList, List.nil_append, List.cons_append, okR, true_and, and_true, true_or, or_true, Nat.zero_le, ne_eq, not_false_eq_true, Nat.reduceEqDiff, F_X12_whyNot, F_X12_asks, F_X12_of, hS0, hrs, M4_row, M4_setM, M4_M3, i1, b1]
      simp (disch := omega) only [nI_clamp]
      refine ⟨hst.1.1.2.1, hst.1.1.2.2.1, fun c2 => ⟨fun _ => ⟨suOK_st hst ?_, fun t => ?_⟩, fun z => absurd trivial z⟩, fun c2 => ⟨fun z => absurd z (by decide), fun _ => ?_⟩⟩
      · have c3 : ¬ A (514 * s + 1) = 200 := c2.2.2.2
        have c4 := hst.2.2.1.2
        rw [Int32.lt_iff_toInt_lt, show (200 : Int32).toInt = 200 by decide]
        rcases Int.lt_or_eq_of_le c4 with z | z
        · exact z
        · exact absurd (Int32.toInt_inj.mp (by rw [z]; decide)) c3
      · have := h t g0
        rw [canT_eq] at c2
        rw [if_neg (not_not_intro c2)] at this
        exact this
      · have := h (qMem A s) g0
        rw [canT_eq] at c2
        rw [if_pos c2] at this
        exact this
    · have := h t0 g0
      rw [if_pos c] at this
      exact this
  · exact h.elim
def w_X12_actBeat_21 (M : CT) (G : Nat → PT) (Rp : RT) : PT := tAload 0 <| tIload 1 <| tFn 2 F_X12_feedsAll <| tAload 0 <| tGetR 12 27 1 <| tConst 4510 <| tAld 20 <| tIret Rp
def w_X12_actBeat_10 (M : CT) (G : Nat → PT) (Rp : RT) : PT := tAload 0 <| tIload 1 <| tFn 2 F_X12_isLeader <| tIf (fun x => x ≠ 0) (w_X12_actBeat_21 M G Rp) <| tConst (-5) <| tIret Rp
def w_X12_actBeat_0 (M : CT) (G : Nat → PT) (Rp : RT) : PT := tIload 1 <| tFn 1 F_X12_isStore <| tIf (fun x => x ≠ 0) (w_X12_actBeat_10 M G Rp) <| tConst (-2) <| tIret Rp
set_option maxRecDepth 20000 in
theorem b_X12_actBeat_21 {Z : Zt} {d : Nat} {p : Program} {e : Env} {R : Room} {s : State} {m : MethodId} {args : Array Value} {below : List Frame} {meth : Method} {c : Code} {Rp : RT} (C : Cx Z (d + 5) jX12_actBeat RX12 p R s m args meth c) : Sd Z jX12_actBeat p e R s m args below meth c (MQ below (QcS Z Rp) args s 0 0 (fun a => Z.2.2.1 < a)) 21 (w_X12_actBeat_21 (MS Z (d + 5)) (Gw Z 2 p e R s m args below meth c (MQ below (QcS Z Rp) args s 0 0 (fun a => Z.2.2.1 < a))) Rp) := by
  unfold w_X12_actBeat_21
  refine s_aload_n (k := 0) C (by decide +kernel) ?_
  refine s_iload_n (k := 1) C (by decide +kernel) ?_
  refine s_fnV C (j2 := jX12_feedsAll) (cl := 12) (nf := 27) rfl rfl (by decide +kernel) rfl w_7_47 w_7_49 w_p4_11 w_1_13 w_7_50 (by decide +kernel) (fun _ _ _ _ _ h => f_X12_feedsAll h) (fun _ _ _ _ _ h => r_X12_feedsAll h) ?_
  refine s_aload_n (k := 0) C (by decide +kernel) ?_
  refine s_getR C w_6_88 (by decide +kernel) rfl ?_
  refine s_sipush (n := 4510) C (by decide +kernel) (by decide) ?_
  refine s_iald C (by decide +kernel) ?_
  exact s_iret C rfl (by decide +kernel)
set_option maxRecDepth 20000 in
theorem b_X12_actBeat_10 {Z : Zt} {d : Nat} {p : Program} {e : Env} {R : Room} {s : State} {m : MethodId} {args : Array Value} {below : List Frame} {meth : Method} {c : Code} {Rp : RT} (C : Cx Z (d + 5) jX12_actBeat RX12 p R s m args meth c) : Sd Z jX12_actBeat p e R s m args below meth c (MQ below (QcS Z Rp) args s 0 0 (fun a => Z.2.2.1 < a)) 10 (w_X12_actBeat_10 (MS Z (d + 5)) (Gw Z 2 p e R s m args below meth c (MQ below (QcS Z Rp) args s 0 0 (fun a => Z.2.2.1 < a))) Rp) := by
  unfold w_X12_actBeat_10
  refine s_aload_n (k := 0) C (by decide +kernel) ?_
  refine s_iload_n (k := 1) C (by decide +kernel) ?_
  refine s_fnV C (j2 := jX12_isLeader) (cl := 12) (nf := 27) rfl rfl (by decide +kernel) rfl w_6_236 w_6_238 w_p3_15 w_1_13 w_6_239 (by decide +kernel) (fun _ _ _ _ _ h => f_X12_isLeader h) (fun _ _ _ _ _ h => r_X12_isLeader h) ?_
  refine s_if_ne (off := 6) (tgt := 21) C (by decide +kernel) (by decide) (b_X12_actBeat_21 C) ?_
  refine s_bipush (n := (-5)) C (by decide +kernel) (by decide) ?_
  exact s_iret C rfl (by decide +kernel)
set_option maxRecDepth 20000 in
theorem b_X12_actBeat_0 {Z : Zt} {d : Nat} {p : Program} {e : Env} {R : Room} {s : State} {m : MethodId} {args : Array Value} {below : List Frame} {meth : Method} {c : Code} {Rp : RT} (C : Cx Z (d + 5) jX12_actBeat RX12 p R s m args meth c) : Sd Z jX12_actBeat p e R s m args below meth c (MQ below (QcS Z Rp) args s 0 0 (fun a => Z.2.2.1 < a)) 0 (w_X12_actBeat_0 (MS Z (d + 5)) (Gw Z 2 p e R s m args below meth c (MQ below (QcS Z Rp) args s 0 0 (fun a => Z.2.2.1 < a))) Rp) := by
  unfold w_X12_actBeat_0
  refine s_iload_n (k := 1) C (by decide +kernel) ?_
  refine s_fnS C (j2 := jX12_isStore) (by decide +kernel) rfl w_6_208 w_6_209 w_1_13 w_6_210 (by decide +kernel) (fun _ _ _ _ _ h => f_X12_isStore h) ?_
  refine s_if_ne (off := 6) (tgt := 10) C (by decide +kernel) (by decide) (b_X12_actBeat_10 C) ?_
  refine s_bipush (n := (-2)) C (by decide +kernel) (by decide) ?_
  exact s_iret C rfl (by decide +kernel)
theorem ms_X12_actBeat {Z : Zt} {d : Nat} {S : Sh} {μ : Mi} {ρ : Mr} {Rp : RT} (a0 : Nat) (x1 : Int32) (h : ∀ G : Nat → PT, w_X12_actBeat_0 (MS Z (d + 5)) G Rp [.ref a0, .int x1] [] S (0, 0) μ ρ) : MS Z (d + 6) jX12_actBeat [.ref a0, .int x1] S μ ρ Rp :=
  MS_of [.ref a0, .int x1] (by decide +kernel) rfl rfl (Nat.le_of_ble_eq_true rfl) rfl (fun p e R s m args below meth c C => b_X12_actBeat_0 C _ _ _ _ _ _ (h _ ))
def F_X12_actBeat : FT := fun As S μ ρ k => match As with
  | [.ref a, .int s] => a = 2737 ∧ RS S ρ ∧ good (μ 2738) ∧ ∀ (t : T4) (g : Rw), k (some (.int (aBeat (μ 2738) s).1)) (M4 μ g t (aBeat (μ 2738) s).2)
  | _ => False
theorem r_X12_actBeat {As S μ ρ k} (h : F_X12_actBeat As S μ ρ k) : ∃ a As', As = Value.ref a :: As' ∧ S.2 a = (12, 27) := by
  unfold F_X12_actBeat at h
  split at h
  · exact ⟨_, _, rfl, by rw [h.1]; exact h.2.1.1⟩
  · exact h.elim
set_option maxHeartbeats 1000000 in
theorem f_X12_actBeat {Z : Zt} {d : Nat} {As : List Value} {S : Sh} {μ : Mi} {ρ : Mr} {Rp : RT} (h : F_X12_actBeat As S μ ρ (fun r μ' => Rp r S μ' ρ)) : MS Z (d + 6) jX12_actBeat As S μ ρ Rp := by
  unfold F_X12_actBeat at h
  split at h
  · rename_i a s
    obtain ⟨rfl, hS, h⟩ := h
    have hS0 := hS
    unfold RS at hS
    obtain ⟨hg, h⟩ := h
    obtain ⟨g0, t0, h0⟩ := M4_self μ
    rw [h0]
    generalize hA : μ 2738 = A at *
    refine ms_X12_actBeat _ _ (fun G => ?_)
    unfold aBeat at h
    simp only [w_X12_actBeat_0, tAload, tIload, nth, tGetI, tGetR, tConst, tLconst, tBin, tUn, tI2l, tAld, tAldR, tAlen, tIast, tBast, tZast, tAast, tIret, tZret, tVret, tAret, tIf, tIf2, tGoto, tIstore, tAstore, sset, tIinc, tDup, tDup2, tPop, tPutI, tPutZ, tPutR, tCallV, tCallS, popN, tFn, tCopy, tMax, tMin, tSw, swc, tRem, tObjI, Option.toList, List.nil_append, List.cons_append, okR, true_and, and_true, true_or, or_true, Nat.zero_le, ne_eq, not_false_eq_true, Nat.reduceEqDiff, F_X12_isStore, b2_z, Decidable.not_not]
    refine ⟨fun c => ?_, fun c => ?_⟩
    · simp only [not_not_intro c, if_false] at h
      obtain ⟨s, rfl, hs0, -, hs⟩ := rg_ex (lo := 0) (hi := 4) c
      have hrs := rg_T (lo := 0) (hi := 4) (n := s) (by omega) (by omega) hs0
      have hs5 : s < 5 := by omega
      have hst := good_st hg hs5
      rw [nI_clamp hs0] at h
      have i10 : inb 4510 13548 := inb_nI (k := 4510) (by decide) (by decide)
      simp only [w_X12_actBeat_10, w_X12_actBeat_21, tAload, tIload, nth, tGetI, tGetR, tConst, tLconst, tBin, tUn, tI2l, tAld, tAldR, tAlen, tIast, tBast, tZast, tAast, tIret, tZret, tVret, tAret, tIf, tIf2, tGoto, tIstore, tAstore, sset, tIinc, tDup, tDup2, tPop, tPutI, tPutZ, tPutR, tCallV, tCallS, popN, tFn, tCopy, tMax, tMin, tSw, swc, tRem, tObjI, Option.toList, List.nil_append, List.cons_append, okR, true_and, and_true, true_or, or_true, Nat.zero_le, ne_eq, not_false_eq_true, Nat.reduceEqDiff, F_X12_isLeader, F_X12_feedsAll, hS0, hS, hrs, M4_row, M4_setM, M4_upF, i10, cl_4510, b2_z, Decidable.not_not]
      simp (disch := omega) only [nI_clamp]
      refine ⟨fun c2 => ⟨hst.1.1, ?_⟩, fun c2 => ?_⟩
      · have := h (qMem A s) g0
        rw [if_neg (not_not_intro c2)] at this
        exact this
      · have := h t0 g0
        rw [if_pos c2] at this
        exact this
    · have := h t0 g0
      rw [if_pos c] at this
      exact this
  · exact h.elim
/-- an entry may come to a log -/
theorem prop_ok {A : Rw} {s : Nat} {tm kd x y : Int32} (hs : s < 5) (h : stOK A s) (hl : A (514 * s + 4) < 100) (hk : kd = 1 ∨ kd = 2 → rg x 0 3) :
    agOK (qPut A s tm kd x y) s ∧ ((qPut A s tm kd x y) (514 * s + 5)).toInt ≤ ((qPut A s tm kd x y) (514 * s + 4)).toInt ∧ rg (A (514 * s + 4)) 0 119 ∧ (qPut A s tm kd x y) (514 * s + 4) = A (514 * s + 4) + 1 := by
  obtain ⟨l, el, el0, -, el1⟩ := rg_ex h.1.1.2.1
  rw [el, show (100 : Int32) = nI 100 from rfl, nI_ltI el0 (by decide)] at hl
  have hr : rg (A (514 * s + 4)) 0 119 := by rw [el, rg_nI el0]; omega
  refine ⟨agOK_put hs h.1 hr hk, ?_, hr, ?_⟩
  · have := h.2.1
    rw [el, nI_toInt el0] at this
    rw [qPut_4 el, qPut_out el el0 (by omega) (by omega), nI_toInt (by omega)]
    omega
  · rw [qPut_4 el, el, nI_1]
def w_X12_proposes_0 (M : CT) (G : Nat → PT) (Rp : RT) : PT := tAload 0 <| tIload 1 <| tAload 0 <| tIload 1 <| tConst 1 <| tFn 3 F_X12_of <| tIload 2 <| tIload 3 <| tIload 4 <| tFn 6 F_X12_comesToLog <| tAload 0 <| tIload 1 <| tConst 4 <| tFn 3 F_X12_of <| tIstore 5 <| tAload 0 <| tIload 1 <| tFn 2 F_X12_feedsAll <| tAload 0 <| tIload 1 <| tFn 2 F_X12_agrees <| tIload 5 <| tIret Rp
set_option maxRecDepth 20000 in
theorem b_X12_proposes_0 {Z : Zt} {d : Nat} {p : Program} {e : Env} {R : Room} {s : State} {m : MethodId} {args : Array Value} {below : List Frame} {meth : Method} {c : Code} {Rp : RT} (C : Cx Z (d + 7) jX12_proposes RX12 p R s m args meth c) : Sd Z jX12_proposes p e R s m args below meth c (MQ below (QcS Z Rp) args s 0 0 (fun a => Z.2.2.1 < a)) 0 (w_X12_proposes_0 (MS Z (d + 7)) (Gw Z 6 p e R s m args below meth c (MQ below (QcS Z Rp) args s 0 0 (fun a => Z.2.2.1 < a))) Rp) := by
  unfold w_X12_proposes_0
  refine s_aload_n (k := 0) C (by decide +kernel) ?_
  refine s_iload_n (k := 1) C (by decide +kernel) ?_
  refine s_aload_n (k := 0) C (by decide +kernel) ?_
  refine s_iload_n (k := 1) C (by decide +kernel) ?_
  refine s_iconst (n := 1) C (by decide +kernel) (by decide) ?_
  refine s_fnV C (j2 := jX12_of) (cl := 12) (nf := 27) rfl rfl (by decide +kernel) rfl w_6_220 w_6_222 w_p3_11 w_1_13 w_6_223 (by decide +kernel) (fun _ _ _ _ _ h => f_X12_of h) (fun _ _ _ _ _ h => r_X12_of h) ?_
  refine s_iload_n (k := 2) C (by decide +kernel) ?_
  refine s_iload_n (k := 3) C (by decide +kernel) ?_
  refine s_iload (k := 4) C (by decide +kernel) ?_
  refine s_fnV C (j2 := jX12_comesToLog) (cl := 12) (nf := 27) rfl rfl (by decide +kernel) rfl w_7_43 w_7_45 w_p4_10 w_1_13 w_7_46 (by decide +kernel) (fun _ _ _ _ _ h => f_X12_comesToLog h) (fun _ _ _ _ _ h => r_X12_comesToLog h) ?_
  refine s_aload_n (k := 0) C (by decide +kernel) ?_
  refine s_iload_n (k := 1) C (by decide +kernel) ?_
  refine s_iconst (n := 4) C (by decide +kernel) (by decide) ?_
  refine s_fnV C (j2 := jX12_of) (cl := 12) (nf := 27) rfl rfl (by decide +kernel) rfl w_6_220 w_6_222 w_p3_11 w_1_13 w_6_223 (by decide +kernel) (fun _ _ _ _ _ h => f_X12_of h) (fun _ _ _ _ _ h => r_X12_of h) ?_
  refine s_istore (k := 5) C (by decide +kernel) ?_
  refine s_aload_n (k := 0) C (by decide +kernel) ?_
  refine s_iload_n (k := 1) C (by decide +kernel) ?_
  refine s_fnV C (j2 := jX12_feedsAll) (cl := 12) (nf := 27) rfl rfl (by decide +kernel) rfl w_7_47 w_7_49 w_p4_11 w_1_13 w_7_50 (by decide +kernel) (fun _ _ _ _ _ h => f_X12_feedsAll h) (fun _ _ _ _ _ h => r_X12_feedsAll h) ?_
  refine s_aload_n (k := 0) C (by decide +kernel) ?_
  refine s_iload_n (k := 1) C (by decide +kernel) ?_
  refine s_fnV C (j2 := jX12_agrees) (cl := 12) (nf := 27) rfl rfl (by decide +kernel) rfl w_7_61 w_7_63 w_p4_13 w_1_13 w_7_64 (by decide +kernel) (fun _ _ _ _ _ h => f_X12_agrees h) (fun _ _ _ _ _ h => r_X12_agrees h) ?_
  refine s_iload (k := 5) C (by decide +kernel) ?_
  exact s_iret C rfl (by decide +kernel)
theorem ms_X12_proposes {Z : Zt} {d : Nat} {S : Sh} {μ : Mi} {ρ : Mr} {Rp : RT} (a0 : Nat) (x1 : Int32) (x2 : Int32) (x3 : Int32) (x4 : Int32) (h : ∀ G : Nat → PT, w_X12_proposes_0 (MS Z (d + 7)) G Rp [.ref a0, .int x1, .int x2, .int x3, .int x4, .null] [] S (0, 0) μ ρ) : MS Z (d + 8) jX12_proposes [.ref a0, .int x1, .int x2, .int x3, .int x4] S μ ρ Rp :=
  MS_of [.ref a0, .int x1, .int x2, .int x3, .int x4, .null] (by decide +kernel) rfl rfl (Nat.le_of_ble_eq_true rfl) rfl (fun p e R s m args below meth c C => b_X12_proposes_0 C _ _ _ _ _ _ (h _ ))
def F_X12_proposes : FT := fun As S μ ρ k => match As with
  | [.ref a, .int s, .int kd, .int x, .int y] => a = 2737 ∧ RS S ρ ∧ rg s 0 4 ∧ stOK (μ 2738) s.toNatClampNeg ∧ μ 2738 (514 * s.toNatClampNeg + 4) < 100 ∧ (kd = 1 ∨ kd = 2 → rg x 0 3) ∧ ∀ t : T4, k (some (.int (μ 2738 (514 * s.toNatClampNeg + 4) + 1))) (M3 μ t (qProp (μ 2738) s.toNatClampNeg kd x y))
  | _ => False
theorem r_X12_proposes {As S μ ρ k} (h : F_X12_proposes As S μ ρ k) : ∃ a As', As = Value.ref a :: As' ∧ S.2 a = (12, 27) := by
  unfold F_X12_proposes at h
  split at h
  · exact ⟨_, _, rfl, by rw [h.1]; exact h.2.1.1⟩
  · exact h.elim
set_option maxHeartbeats 1000000 in
theorem f_X12_proposes {Z : Zt} {d : Nat} {As : List Value} {S : Sh} {μ : Mi} {ρ : Mr} {Rp : RT} (h : F_X12_proposes As S μ ρ (fun r μ' => Rp r S μ' ρ)) : MS Z (d + 8) jX12_proposes As S μ ρ Rp := by
  unfold F_X12_proposes at h
  split at h
  · rename_i a s kd x y
    obtain ⟨rfl, hS, h⟩ := h
    have hS0 := hS
    unfold RS at hS
    obtain ⟨h1, h2, h3, h4, h⟩ := h
    obtain ⟨s, rfl, hs0, -, hs⟩ := rg_ex h1
    have hrs := rg_T (lo := 0) (hi := 4) (n := s) (by omega) (by omega) hs0
    simp (disch := omega) only [nI_clamp] at h h2 h3
    have hs5 : s < 5 := by omega
    obtain ⟨t0, ht0⟩ := M3_self μ
    rw [ht0]
    generalize hA : μ 2738 = A at *
    have hp := prop_ok (tm := A (514 * s + 1)) (y := y) hs5 h2 h3 h4
    have i1 : (514 : Int32) * nI s + 1 = nI (514 * s + 1) := ixs 1 1 rfl
    have b1 : inb (nI (514 * s + 1)) 13548 := inb_nI (by omega) (by decide)
    have i4 : (514 : Int32) * nI s + 4 = nI (514 * s + 4) := ixs 4 4 rfl
    have b4 : inb (nI (514 * s + 4)) 13548 := inb_nI (by omega) (by decide)
    refine ms_X12_proposes _ _ _ _ _ (fun G => ?_)
    simp only [w_X12_proposes_0, tAload, tIload, nth, tGetI, tGetR, tConst, tLconst, tBin, tUn, tI2l, tAld, tAldR, tAlen, tIast, tBast, tZast, tAast, tIret, tZret, tVret, tAret, tIf, tIf2, tGoto, tIstore, tAstore, sset, tIinc, tDup, tDup2, tPop, tPutI, tPutZ, tPutR, tCallV, tCallS, popN, tFn, tCopy, tMax, tMin, tSw, swc, tRem, tObjI, Option.toList, List.nil_append, List.cons_append, okR, true_and, and_true, true_or, or_true, Nat.zero_le, ne_eq, not_false_eq_true, Nat.reduceEqDiff, F_X12_of, F_X12_comesToLog, F_X12_feedsAll, F_X12_agrees, hS0, hrs, M3_row, M3_upF, M3_setM, M3_M3, i1, b1, i4, b4]
    simp (disch := omega) only [nI_clamp, hp.2.2.2]
    refine ⟨hp.2.2.1, hp.1.1, agOK_feeds hs5 hp.1, ?_, h⟩
    rw [qFeedsAll_lo (by omega), qFeedsAll_lo (by omega)]
    exact hp.2.1
  · exact h.elim
def w_X12_actPropose_83 (M : CT) (G : Nat → PT) (Rp : RT) : PT := tIret Rp
def w_X12_actPropose_74 (M : CT) (G : Nat → PT) (Rp : RT) : PT := tAload 0 <| tIload 1 <| tIload 2 <| tIload 3 <| tIload 4 <| tFn 5 F_X12_proposes <| w_X12_actPropose_83 M G Rp
def w_X12_actPropose_58 (M : CT) (G : Nat → PT) (Rp : RT) : PT := tAload 0 <| tIload 1 <| tConst 4 <| tFn 3 F_X12_of <| tConst 100 <| tIf2 (fun x y => x < y) (w_X12_actPropose_74 M G Rp) <| tConst (-4) <| tGoto (w_X12_actPropose_83 M G Rp)
def w_X12_actPropose_47 (M : CT) (G : Nat → PT) (Rp : RT) : PT := tAload 0 <| tIload 1 <| tFn 2 F_X12_isLeader <| tIf (fun x => x ≠ 0) (w_X12_actPropose_58 M G Rp) <| tConst (-5) <| tIret Rp
def w_X12_actPropose_29 (M : CT) (G : Nat → PT) (Rp : RT) : PT := tIload 4 <| tI2l <| tLconst (-999) <| tLconst 999 <| tFn 3 F_X12_within <| tIf (fun x => x ≠ 0) (w_X12_actPropose_47 M G Rp) <| tConst (-3) <| tIret Rp
def w_X12_actPropose_26 (M : CT) (G : Nat → PT) (Rp : RT) : PT := tConst (-2) <| tIret Rp
def w_X12_actPropose_0 (M : CT) (G : Nat → PT) (Rp : RT) : PT := tIload 1 <| tFn 1 F_X12_isStore <| tIf (fun x => x = 0) (w_X12_actPropose_26 M G Rp) <| tIload 2 <| tI2l <| tLconst 1 <| tLconst 2 <| tFn 3 F_X12_within <| tIf (fun x => x = 0) (w_X12_actPropose_26 M G Rp) <| tIload 3 <| tFn 1 F_X12_isCell <| tIf (fun x => x ≠ 0) (w_X12_actPropose_29 M G Rp) <| w_X12_actPropose_26 M G Rp
set_option maxRecDepth 20000 in
theorem b_X12_actPropose_83 {Z : Zt} {d : Nat} {p : Program} {e : Env} {R : Room} {s : State} {m : MethodId} {args : Array Value} {below : List Frame} {meth : Method} {c : Code} {Rp : RT} (C : Cx Z (d + 8) jX12_actPropose RX12 p R s m args meth c) : Sd Z jX12_actPropose p e R s m args below meth c (MQ below (QcS Z Rp) args s 0 0 (fun a => Z.2.2.1 < a)) 83 (w_X12_actPropose_83 (MS Z (d + 8)) (Gw Z 5 p e R s m args below meth c (MQ below (QcS Z Rp) args s 0 0 (fun a => Z.2.2.1 < a))) Rp) := by
  unfold w_X12_actPropose_83
  exact s_iret C rfl (by decide +kernel)
set_option maxRecDepth 20000 in
theorem b_X12_actPropose_74 {Z : Zt} {d : Nat} {p : Program} {e : Env} {R : Room} {s : State} {m : MethodId} {args : Array Value} {below : List Frame} {meth : Method} {c : Code} {Rp : RT} (C : Cx Z (d + 8) jX12_actPropose RX12 p R s m args meth c) : Sd Z jX12_actPropose p e R s m args below meth c (MQ below (QcS Z Rp) args s 0 0 (fun a => Z.2.2.1 < a)) 74 (w_X12_actPropose_74 (MS Z (d + 8)) (Gw Z 5 p e R s m args below meth c (MQ below (QcS Z Rp) args s 0 0 (fun a => Z.2.2.1 < a))) Rp) := by
  unfold w_X12_actPropose_74
  refine s_aload_n (k := 0) C (by decide +kernel) ?_
  refine s_iload_n (k := 1) C (by decide +kernel) ?_
  refine s_iload_n (k := 2) C (by decide +kernel) ?_
  refine s_iload_n (k := 3) C (by decide +kernel) ?_
  refine s_iload (k := 4) C (by decide +kernel) ?_
  refine s_fnV C (j2 := jX12_proposes) (cl := 12) (nf := 27) rfl rfl (by decide +kernel) rfl w_7_96 w_7_98 w_p5_2 w_1_13 w_7_99 (by decide +kernel) (fun _ _ _ _ _ h => f_X12_proposes h) (fun _ _ _ _ _ h => r_X12_proposes h) ?_
  exact (b_X12_actPropose_83 C)
set_option maxRecDepth 20000 in
theorem b_X12_actPropose_58 {Z : Zt} {d : Nat} {p : Program} {e : Env} {R : Room} {s : State} {m : MethodId} {args : Array Value} {below : List Frame} {meth : Method} {c : Code} {Rp : RT} (C : Cx Z (d + 8) jX12_actPropose RX12 p R s m args meth c) : Sd Z jX12_actPropose p e R s m args below meth c (MQ below (QcS Z Rp) args s 0 0 (fun a => Z.2.2.1 < a)) 58 (w_X12_actPropose_58 (MS Z (d + 8)) (Gw Z 5 p e R s m args below meth c (MQ below (QcS Z Rp) args s 0 0 (fun a => Z.2.2.1 < a))) Rp) := by
  unfold w_X12_actPropose_58
  refine s_aload_n (k := 0) C (by decide +kernel) ?_
  refine s_iload_n (k := 1) C (by decide +kernel) ?_
  refine s_iconst (n := 4) C (by decide +kernel) (by decide) ?_
  refine s_fnV C (j2 := jX12_of) (cl := 12) (nf := 27) rfl rfl (by decide +kernel) rfl w_6_220 w_6_222 w_p3_11 w_1_13 w_6_223 (by decide +kernel) (fun _ _ _ _ _ h => f_X12_of h) (fun _ _ _ _ _ h => r_X12_of h) ?_
  refine s_bipush (n := 100) C (by decide +kernel) (by decide) ?_
  refine s_icmp_lt (off := 8) (tgt := 74) C (by decide +kernel) (by decide) (b_X12_actPropose_74 C) ?_
  refine s_bipush (n := (-4)) C (by decide +kernel) (by decide) ?_
  exact s_goto (off := 12) (tgt := 83) C (by decide +kernel) (by decide) (b_X12_actPropose_83 C)
set_option maxRecDepth 20000 in
theorem b_X12_actPropose_47 {Z : Zt} {d : Nat} {p : Program} {e : Env} {R : Room} {s : State} {m : MethodId} {args : Array Value} {below : List Frame} {meth : Method} {c : Code} {Rp : RT} (C : Cx Z (d + 8) jX12_actPropose RX12 p R s m args meth c) : Sd Z jX12_actPropose p e R s m args below meth c (MQ below (QcS Z Rp) args s 0 0 (fun a => Z.2.2.1 < a)) 47 (w_X12_actPropose_47 (MS Z (d + 8)) (Gw Z 5 p e R s m args below meth c (MQ below (QcS Z Rp) args s 0 0 (fun a => Z.2.2.1 < a))) Rp) := by
  unfold w_X12_actPropose_47
  refine s_aload_n (k := 0) C (by decide +kernel) ?_
  refine s_iload_n (k := 1) C (by decide +kernel) ?_
  refine s_fnV C (j2 := jX12_isLeader) (cl := 12) (nf := 27) rfl rfl (by decide +kernel) rfl w_6_236 w_6_238 w_p3_15 w_1_13 w_6_239 (by decide +kernel) (fun _ _ _ _ _ h => f_X12_isLeader h) (fun _ _ _ _ _ h => r_X12_isLeader h) ?_
  refine s_if_ne (off := 6) (tgt := 58) C (by decide +kernel) (by decide) (b_X12_actPropose_58 C) ?_
  refine s_bipush (n := (-5)) C (by decide +kernel) (by decide) ?_
  exact s_iret C rfl (by decide +kernel)
set_option maxRecDepth 20000 in
theorem b_X12_actPropose_29 {Z : Zt} {d : Nat} {p : Program} {e : Env} {R : Room} {s : State} {m : MethodId} {args : Array Value} {below : List Frame} {meth : Method} {c : Code} {Rp : RT} (C : Cx Z (d + 8) jX12_actPropose RX12 p R s m args meth c) : Sd Z jX12_actPropose p e R s m args below meth c (MQ below (QcS Z Rp) args s 0 0 (fun a => Z.2.2.1 < a)) 29 (w_X12_actPropose_29 (MS Z (d + 8)) (Gw Z 5 p e R s m args below meth c (MQ below (QcS Z Rp) args s 0 0 (fun a => Z.2.2.1 < a))) Rp) := by
  unfold w_X12_actPropose_29
  refine s_iload (k := 4) C (by decide +kernel) ?_
  refine s_i2l C (by decide +kernel) ?_
  refine s_ldc2 C w_7_94 (by decide +kernel) ?_
  refine s_ldc2 C w_7_95 (by decide +kernel) ?_
  refine s_fnS C (j2 := jX12_within) (by decide +kernel) rfl w_6_175 w_6_176 w_1_13 w_6_177 (by decide +kernel) (fun _ _ _ _ _ h => f_X12_within h) ?_
  refine s_if_ne (off := 6) (tgt := 47) C (by decide +kernel) (by decide) (b_X12_actPropose_47 C) ?_
  refine s_bipush (n := (-3)) C (by decide +kernel) (by decide) ?_
  exact s_iret C rfl (by decide +kernel)
set_option maxRecDepth 20000 in
theorem b_X12_actPropose_26 {Z : Zt} {d : Nat} {p : Program} {e : Env} {R : Room} {s : State} {m : MethodId} {args : Array Value} {below : List Frame} {meth : Method} {c : Code} {Rp : RT} (C : Cx Z (d + 8) jX12_actPropose RX12 p R s m args meth c) : Sd Z jX12_actPropose p e R s m args below meth c (MQ below (QcS Z Rp) args s 0 0 (fun a => Z.2.2.1 < a)) 26 (w_X12_actPropose_26 (MS Z (d + 8)) (Gw Z 5 p e R s m args below meth c (MQ below (QcS Z Rp) args s 0 0 (fun a => Z.2.2.1 < a))) Rp) := by
  unfold w_X12_actPropose_26
  refine s_bipush (n := (-2)) C (by decide +kernel) (by decide) ?_
  exact s_iret C rfl (by decide +kernel)
set_option maxRecDepth 20000 in
theorem b_X12_actPropose_0 {Z : Zt} {d : Nat} {p : Program} {e : Env} {R : Room} {s : State} {m : MethodId} {args : Array Value} {below : List Frame} {meth : Method} {c : Code} {Rp : RT} (C : Cx Z (d + 8) jX12_actPropose RX12 p R s m args meth c) : Sd Z jX12_actPropose p e R s m args below meth c (MQ below (QcS Z Rp) args s 0 0 (fun a => Z.2.2.1 < a)) 0 (w_X12_actPropose_0 (MS Z (d + 8)) (Gw Z 5 p e R s m args below meth c (MQ below (QcS Z Rp) args s 0 0 (fun a => Z.2.2.1 < a))) Rp) := by
  unfold w_X12_actPropose_0
  refine s_iload_n (k := 1) C (by decide +kernel) ?_
  refine s_fnS C (j2 := jX12_isStore) (by decide +kernel) rfl w_6_208 w_6_209 w_1_13 w_6_210 (by decide +kernel) (fun _ _ _ _ _ h => f_X12_isStore h) ?_
  refine s_if_eq (off := 22) (tgt := 26) C (by decide +kernel) (by decide) (b_X12_actPropose_26 C) ?_
  refine s_iload_n (k := 2) C (by decide +kernel) ?_
  refine s_i2l C (by decide +kernel) ?_
  refine s_lconst (n := 1) C (by decide +kernel) (by decide) ?_
  refine s_ldc2 C w_7_89 (by decide +kernel) ?_
  refine s_fnS C (j2 := jX12_within) (by decide +kernel) rfl w_6_175 w_6_176 w_1_13 w_6_177 (by decide +kernel) (fun _ _ _ _ _ h => f_X12_within h) ?_
  refine s_if_eq (off := 10) (tgt := 26) C (by decide +kernel) (by decide) (b_X12_actPropose_26 C) ?_
  refine s_iload_n (k := 3) C (by decide +kernel) ?_
  refine s_fnS C (j2 := jX12_isCell) (by decide +kernel) rfl w_7_90 w_7_91 w_1_13 w_7_92 (by decide +kernel) (fun _ _ _ _ _ h => f_X12_isCell h) ?_
  refine s_if_ne (off := 6) (tgt := 29) C (by decide +kernel) (by decide) (b_X12_actPropose_29 C) ?_
  exact (b_X12_actPropose_26 C)
theorem ms_X12_actPropose {Z : Zt} {d : Nat} {S : Sh} {μ : Mi} {ρ : Mr} {Rp : RT} (a0 : Nat) (x1 : Int32) (x2 : Int32) (x3 : Int32) (x4 : Int32) (h : ∀ G : Nat → PT, w_X12_actPropose_0 (MS Z (d + 8)) G Rp [.ref a0, .int x1, .int x2, .int x3, .int x4] [] S (0, 0) μ ρ) : MS Z (d + 9) jX12_actPropose [.ref a0, .int x1, .int x2, .int x3, .int x4] S μ ρ Rp :=
  MS_of [.ref a0, .int x1, .int x2, .int x3, .int x4] (by decide +kernel) rfl rfl (Nat.le_of_ble_eq_true rfl) rfl (fun p e R s m args below meth c C => b_X12_actPropose_0 C _ _ _ _ _ _ (h _ ))
def F_X12_actPropose : FT := fun As S μ ρ k => match As with
  | [.ref a, .int s, .int kd, .int x, .int y] => a = 2737 ∧ RS S ρ ∧ good (μ 2738) ∧ ∀ (t : T4) (g : Rw), k (some (.int (aPropose (μ 2738) s kd x y).1)) (M4 μ g t (aPropose (μ 2738) s kd x y).2)
  | _ => False
theorem r_X12_actPropose {As S μ ρ k} (h : F_X12_actPropose As S μ ρ k) : ∃ a As', As = Value.ref a :: As' ∧ S.2 a = (12, 27) := by
  unfold F_X12_actPropose at h
  split at h
  · exact ⟨_, _, rfl, by rw [h.1]; exact h.2.1.1⟩
  · exact h.elim
set_option maxHeartbeats 1000000 in
theorem f_X12_actPropose {Z : Zt} {d : Nat} {As : List Value} {S : Sh} {μ : Mi} {ρ : Mr} {Rp : RT} (h : F_X12_actPropose As S μ ρ (fun r μ' => Rp r S μ' ρ)) : MS Z (d + 9) jX12_actPropose As S μ ρ Rp := by
  unfold F_X12_actPropose at h
  split at h
  · rename_i a s kd x y
    obtain ⟨rfl, hS, h⟩ := h
    have hS0 := hS
    unfold RS at hS
    obtain ⟨hg, h⟩ := h
    obtain ⟨g0, t0, h0⟩ := M4_self μ
    rw [h0]
    generalize hA : μ 2738 = A at *
    refine ms_X12_actPropose _ _ _ _ _ (fun G => ?_)
    unfold aPropose at h
    simp only [w_X12_actPropose_0, w_X12_actPropose_26, tAload, tIload, nth, tGetI, tGetR, tConst, tLconst, tBin, tUn, tI2l, tAld, tAldR, tAlen, tIast, tBast, tZast, tAast, tIret, tZret, tVret, tAret, tIf, tIf2, tGoto, tIstore, tAstore, sset, tIinc, tDup, tDup2, tPop, tPutI, tPutZ, tPutR, tCallV, tCallS, popN, tFn, tCopy, tMax, tMin, tSw, swc, tRem, tObjI, Option.toList, List.nil_append, List.cons_append, okR, true_and, and_true, true_or, or_true, Nat.zero_le, ne_eq, not_false_eq_true, Nat.reduceEqDiff, F_X12_isStore, F_X12_within, F_X12_isCell, b2_z, Decidable.not_not, l_leC, l_geC, il_1, il_2]
    have bad : ¬ (rgd s 0 4 ∧ rgd kd 1 2 ∧ rgd x 0 3) → Rp (some (.int (-2))) S (M4 μ g0 t0 A) ρ := by
      intro c
      have := h t0 g0
      rw [if_pos c] at this
      exact this
    refine ⟨fun c => bad (fun z => c z.1), fun c => ⟨fun c2 => bad (fun z => c2 z.2.1), fun c2 => ⟨fun c3 => ?_, fun c3 => bad (fun z => c3 z.2.2)⟩⟩⟩
    rw [if_neg (not_not_intro ⟨c, c2, c3⟩)] at h
    obtain ⟨s, rfl, hs0, -, hs⟩ := rg_ex (lo := 0) (hi := 4) c
    have hrs := rg_T (lo := 0) (hi := 4) (n := s) (by omega) (by omega) hs0
    have hs5 : s < 5 := by omega
    have hst := good_st hg hs5
    rw [nI_clamp hs0] at h
    have i4 : (514 : Int32) * nI s + 4 = nI (514 * s + 4) := ixs 4 4 rfl
    have b4 : inb (nI (514 * s + 4)) 13548 := inb_nI (by omega) (by decide)
    simp only [w_X12_actPropose_29, w_X12_actPropose_47, w_X12_actPropose_58, w_X12_actPropose_74, w_X12_actPropose_83, tAload, tIload, nth, tGetI, tGetR, tConst, tLconst, tBin, tUn, tI2l, tAld, tAldR, tAlen, tIast, tBast, tZast, tAast, tIret, tZret, tVret, tAret, tIf, tIf2, tGoto, tIstore, tAstore, sset, tIinc, tDup, tDup2, tPop, tPutI, tPutZ, tPutR, tCallV, tCallS, popN, tFn, tCopy, tMax, tMin, tSw, swc, tRem, tObjI, Option.toList, List.nil_append, List.cons_append, okR, true_and, and_true, true_or, or_true, Nat.zero_le, ne_eq, not_false_eq_true, Nat.reduceEqDiff, F_X12_within, F_X12_isLeader, F_X12_of, F_X12_proposes, hS0, hrs, b2_z, Decidable.not_not, l_leC, l_geC, il_999, il_m999, M4_row, M4_M3, i4, b4]
    simp (disch := omega) only [nI_clamp]
    refine ⟨fun c4 => ⟨fun c5 => ⟨fun c6 => ⟨hst, c6, fun _ => c3, fun t => ?_⟩, fun c6 => ?_⟩, fun c5 => ?_⟩, fun c4 => ?_⟩
    · have := h t g0
      rw [if_neg (not_not_intro c4), if_neg (not_not_intro c5), if_neg (not_not_intro c6)] at this
      exact this
    · have := h t0 g0
      rw [if_neg (not_not_intro c4), if_neg (not_not_intro c5), if_pos c6] at this
      exact this
    · have := h t0 g0
      rw [if_neg (not_not_intro c4), if_pos c5] at this
      exact this
    · have := h t0 g0
      rw [if_pos c4] at this
      exact this
  · exact h.elim
