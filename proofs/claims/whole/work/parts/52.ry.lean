/-! ===== the reference: more that it tells ===== -/
def frF (A : Rw) (f t kd : Int32) : Nat → Nat → Int32 := fun n i => match n with
  | 0 => -1
  | n + 1 => if A (2570 + 21 * i) = f ∧ A (2570 + 21 * i + 1) = t ∧ A (2570 + 21 * i + 3) = kd then nI i else frF A f t kd n (i + 1)
theorem frF_s {A : Rw} {f t kd : Int32} {n i : Nat} : frF A f t kd (n + 1) i = if A (2570 + 21 * i) = f ∧ A (2570 + 21 * i + 1) = t ∧ A (2570 + 21 * i + 3) = kd then nI i else frF A f t kd n (i + 1) := rfl
def vFirst (A : Rw) (f t kd : Int32) : Int32 := if ¬ (rgd f 0 4 ∧ rgd t 0 4 ∧ rgd kd 0 8) then -2 else frF A f t kd (A 4510).toNatClampNeg 0
def w_X12_first_92 (M : CT) (G : Nat → PT) (Rp : RT) : PT := tConst (-1) <| tIret Rp
def w_X12_first_86 (M : CT) (G : Nat → PT) (Rp : RT) : PT := tIinc 4 1 <| tGoto (G 37)
def w_X12_first_37 (M : CT) (G : Nat → PT) (Rp : RT) : PT := tIload 4 <| tAload 0 <| tGetR 12 27 1 <| tConst 4510 <| tAld 20 <| tIf2 (fun x y => y ≤ x) (w_X12_first_92 M G Rp) <| tAload 0 <| tIload 4 <| tConst 0 <| tFn 3 F_X12_ofMessage <| tIload 1 <| tIf2 (fun x y => x ≠ y) (w_X12_first_86 M G Rp) <| tAload 0 <| tIload 4 <| tConst 1 <| tFn 3 F_X12_ofMessage <| tIload 2 <| tIf2 (fun x y => x ≠ y) (w_X12_first_86 M G Rp) <| tAload 0 <| tIload 4 <| tConst 3 <| tFn 3 F_X12_ofMessage <| tIload 3 <| tIf2 (fun x y => x ≠ y) (w_X12_first_86 M G Rp) <| tIload 4 <| tIret Rp
def w_X12_first_34 (M : CT) (G : Nat → PT) (Rp : RT) : PT := tConst 0 <| tIstore 4 <| G 37
def w_X12_first_31 (M : CT) (G : Nat → PT) (Rp : RT) : PT := tConst (-2) <| tIret Rp
def w_X12_first_0 (M : CT) (G : Nat → PT) (Rp : RT) : PT := tAload 0 <| tConst 0 <| tPutI 12 27 0 <| tIload 1 <| tFn 1 F_X12_isStore <| tIf (fun x => x = 0) (w_X12_first_31 M G Rp) <| tIload 2 <| tFn 1 F_X12_isStore <| tIf (fun x => x = 0) (w_X12_first_31 M G Rp) <| tIload 3 <| tI2l <| tLconst 0 <| tLconst 8 <| tFn 3 F_X12_within <| tIf (fun x => x ≠ 0) (w_X12_first_34 M G Rp) <| w_X12_first_31 M G Rp
set_option maxRecDepth 20000 in
theorem b_X12_first_92 {Z : Zt} {d : Nat} {p : Program} {e : Env} {R : Room} {s : State} {m : MethodId} {args : Array Value} {below : List Frame} {meth : Method} {c : Code} {Rp : RT} (C : Cx Z (d + 2) jX12_first RX12 p R s m args meth c) : Sd Z jX12_first p e R s m args below meth c (MQ below (QcS Z Rp) args s 0 0 (fun a => Z.2.2.1 < a)) 92 (w_X12_first_92 (MS Z (d + 2)) (Gw Z 5 p e R s m args below meth c (MQ below (QcS Z Rp) args s 0 0 (fun a => Z.2.2.1 < a))) Rp) := by
  unfold w_X12_first_92
  refine s_iconst (n := (-1)) C (by decide +kernel) (by decide) ?_
  exact s_iret C rfl (by decide +kernel)
set_option maxRecDepth 20000 in
theorem b_X12_first_86 {Z : Zt} {d : Nat} {p : Program} {e : Env} {R : Room} {s : State} {m : MethodId} {args : Array Value} {below : List Frame} {meth : Method} {c : Code} {Rp : RT} (C : Cx Z (d + 2) jX12_first RX12 p R s m args meth c) : Sd Z jX12_first p e R s m args below meth c (MQ below (QcS Z Rp) args s 0 0 (fun a => Z.2.2.1 < a)) 86 (w_X12_first_86 (MS Z (d + 2)) (Gw Z 5 p e R s m args below meth c (MQ below (QcS Z Rp) args s 0 0 (fun a => Z.2.2.1 < a))) Rp) := by
  unfold w_X12_first_86
  refine s_iinc (n := 1) C (by decide +kernel) (by decide) ?_
  exact s_goto (off := (-52)) (tgt := 37) C (by decide +kernel) (by decide) (fun _ _ _ _ _ _ h => h)
set_option maxRecDepth 20000 in
theorem b_X12_first_37 {Z : Zt} {d : Nat} {p : Program} {e : Env} {R : Room} {s : State} {m : MethodId} {args : Array Value} {below : List Frame} {meth : Method} {c : Code} {Rp : RT} (C : Cx Z (d + 2) jX12_first RX12 p R s m args meth c) : Sd Z jX12_first p e R s m args below meth c (MQ below (QcS Z Rp) args s 0 0 (fun a => Z.2.2.1 < a)) 37 (w_X12_first_37 (MS Z (d + 2)) (Gw Z 5 p e R s m args below meth c (MQ below (QcS Z Rp) args s 0 0 (fun a => Z.2.2.1 < a))) Rp) := by
  unfold w_X12_first_37
  refine s_iload (k := 4) C (by decide +kernel) ?_
  refine s_aload_n (k := 0) C (by decide +kernel) ?_
  refine s_getR C w_6_88 (by decide +kernel) rfl ?_
  refine s_sipush (n := 4510) C (by decide +kernel) (by decide) ?_
  refine s_iald C (by decide +kernel) ?_
  refine s_icmp_ge (off := 45) (tgt := 92) C (by decide +kernel) (by decide) (b_X12_first_92 C) ?_
  refine s_aload_n (k := 0) C (by decide +kernel) ?_
  refine s_iload (k := 4) C (by decide +kernel) ?_
  refine s_iconst (n := 0) C (by decide +kernel) (by decide) ?_
  refine s_fnV C (j2 := jX12_ofMessage) (cl := 12) (nf := 27) rfl rfl (by decide +kernel) rfl w_8_123 w_8_125 w_p7_14 w_1_13 w_8_126 (by decide +kernel) (fun _ _ _ _ _ h => f_X12_ofMessage h) (fun _ _ _ _ _ h => r_X12_ofMessage h) ?_
  refine s_iload_n (k := 1) C (by decide +kernel) ?_
  refine s_icmp_ne (off := 28) (tgt := 86) C (by decide +kernel) (by decide) (b_X12_first_86 C) ?_
  refine s_aload_n (k := 0) C (by decide +kernel) ?_
  refine s_iload (k := 4) C (by decide +kernel) ?_
  refine s_iconst (n := 1) C (by decide +kernel) (by decide) ?_
  refine s_fnV C (j2 := jX12_ofMessage) (cl := 12) (nf := 27) rfl rfl (by decide +kernel) rfl w_8_123 w_8_125 w_p7_14 w_1_13 w_8_126 (by decide +kernel) (fun _ _ _ _ _ h => f_X12_ofMessage h) (fun _ _ _ _ _ h => r_X12_ofMessage h) ?_
  refine s_iload_n (k := 2) C (by decide +kernel) ?_
  refine s_icmp_ne (off := 17) (tgt := 86) C (by decide +kernel) (by decide) (b_X12_first_86 C) ?_
  refine s_aload_n (k := 0) C (by decide +kernel) ?_
  refine s_iload (k := 4) C (by decide +kernel) ?_
  refine s_iconst (n := 3) C (by decide +kernel) (by decide) ?_
  refine s_fnV C (j2 := jX12_ofMessage) (cl := 12) (nf := 27) rfl rfl (by decide +kernel) rfl w_8_123 w_8_125 w_p7_14 w_1_13 w_8_126 (by decide +kernel) (fun _ _ _ _ _ h => f_X12_ofMessage h) (fun _ _ _ _ _ h => r_X12_ofMessage h) ?_
  refine s_iload_n (k := 3) C (by decide +kernel) ?_
  refine s_icmp_ne (off := 6) (tgt := 86) C (by decide +kernel) (by decide) (b_X12_first_86 C) ?_
  refine s_iload (k := 4) C (by decide +kernel) ?_
  exact s_iret C rfl (by decide +kernel)
set_option maxRecDepth 20000 in
theorem b_X12_first_34 {Z : Zt} {d : Nat} {p : Program} {e : Env} {R : Room} {s : State} {m : MethodId} {args : Array Value} {below : List Frame} {meth : Method} {c : Code} {Rp : RT} (C : Cx Z (d + 2) jX12_first RX12 p R s m args meth c) : Sd Z jX12_first p e R s m args below meth c (MQ below (QcS Z Rp) args s 0 0 (fun a => Z.2.2.1 < a)) 34 (w_X12_first_34 (MS Z (d + 2)) (Gw Z 5 p e R s m args below meth c (MQ below (QcS Z Rp) args s 0 0 (fun a => Z.2.2.1 < a))) Rp) := by
  unfold w_X12_first_34
  refine s_iconst (n := 0) C (by decide +kernel) (by decide) ?_
  refine s_istore (k := 4) C (by decide +kernel) ?_
  exact (fun _ _ _ _ _ _ h => h)
set_option maxRecDepth 20000 in
theorem b_X12_first_31 {Z : Zt} {d : Nat} {p : Program} {e : Env} {R : Room} {s : State} {m : MethodId} {args : Array Value} {below : List Frame} {meth : Method} {c : Code} {Rp : RT} (C : Cx Z (d + 2) jX12_first RX12 p R s m args meth c) : Sd Z jX12_first p e R s m args below meth c (MQ below (QcS Z Rp) args s 0 0 (fun a => Z.2.2.1 < a)) 31 (w_X12_first_31 (MS Z (d + 2)) (Gw Z 5 p e R s m args below meth c (MQ below (QcS Z Rp) args s 0 0 (fun a => Z.2.2.1 < a))) Rp) := by
  unfold w_X12_first_31
  refine s_bipush (n := (-2)) C (by decide +kernel) (by decide) ?_
  exact s_iret C rfl (by decide +kernel)
set_option maxRecDepth 20000 in
theorem b_X12_first_0 {Z : Zt} {d : Nat} {p : Program} {e : Env} {R : Room} {s : State} {m : MethodId} {args : Array Value} {below : List Frame} {meth : Method} {c : Code} {Rp : RT} (C : Cx Z (d + 2) jX12_first RX12 p R s m args meth c) : Sd Z jX12_first p e R s m args below meth c (MQ below (QcS Z Rp) args s 0 0 (fun a => Z.2.2.1 < a)) 0 (w_X12_first_0 (MS Z (d + 2)) (Gw Z 5 p e R s m args below meth c (MQ below (QcS Z Rp) args s 0 0 (fun a => Z.2.2.1 < a))) Rp) := by
  unfold w_X12_first_0
  refine s_aload_n (k := 0) C (by decide +kernel) ?_
  refine s_iconst (n := 0) C (by decide +kernel) (by decide) ?_
  refine s_putI C w_6_87 (by decide +kernel) rfl (Or.inl rfl) ?_
  refine s_iload_n (k := 1) C (by decide +kernel) ?_
  refine s_fnS C (j2 := jX12_isStore) (by decide +kernel) rfl w_6_208 w_6_209 w_1_13 w_6_210 (by decide +kernel) (fun _ _ _ _ _ h => f_X12_isStore h) ?_
  refine s_if_eq (off := 22) (tgt := 31) C (by decide +kernel) (by decide) (b_X12_first_31 C) ?_
  refine s_iload_n (k := 2) C (by decide +kernel) ?_
  refine s_fnS C (j2 := jX12_isStore) (by decide +kernel) rfl w_6_208 w_6_209 w_1_13 w_6_210 (by decide +kernel) (fun _ _ _ _ _ h => f_X12_isStore h) ?_
  refine s_if_eq (off := 15) (tgt := 31) C (by decide +kernel) (by decide) (b_X12_first_31 C) ?_
  refine s_iload_n (k := 3) C (by decide +kernel) ?_
  refine s_i2l C (by decide +kernel) ?_
  refine s_lconst (n := 0) C (by decide +kernel) (by decide) ?_
  refine s_ldc2 C w_8_131 (by decide +kernel) ?_
  refine s_fnS C (j2 := jX12_within) (by decide +kernel) rfl w_6_175 w_6_176 w_1_13 w_6_177 (by decide +kernel) (fun _ _ _ _ _ h => f_X12_within h) ?_
  refine s_if_ne (off := 6) (tgt := 34) C (by decide +kernel) (by decide) (b_X12_first_34 C) ?_
  exact (b_X12_first_31 C)
theorem ms_X12_first {Z : Zt} {d : Nat} {S : Sh} {μ : Mi} {ρ : Mr} {Rp : RT} (a0 : Nat) (x1 : Int32) (x2 : Int32) (x3 : Int32) (h : ∀ G : Nat → PT, (∀ (L st : List Value) (S : Sh) (q : Nat × Nat) (μ : Mi) (ρ : Mr), w_X12_first_37 (MS Z (d + 2)) G Rp L st S q μ ρ → G 37 L st S q μ ρ) → w_X12_first_0 (MS Z (d + 2)) G Rp [.ref a0, .int x1, .int x2, .int x3, .null] [] S (0, 0) μ ρ) : MS Z (d + 3) jX12_first [.ref a0, .int x1, .int x2, .int x3] S μ ρ Rp :=
  MS_of [.ref a0, .int x1, .int x2, .int x3, .null] (by decide +kernel) rfl rfl (Nat.le_of_ble_eq_true rfl) rfl (fun p e R s m args below meth c C => b_X12_first_0 C _ _ _ _ _ _ (h _ (b_X12_first_37 C)))
def F_X12_first : FT := fun As S μ ρ k => match As with
  | [.ref a, .int f, .int t, .int kd] => a = 2737 ∧ RS S ρ ∧ good (μ 2738) ∧ ∀ μ', RQ μ μ' (μ 2738) (μ 2739) (μ 2737 6) → k (some (.int (vFirst (μ 2738) f t kd))) μ'
  | _ => False
theorem r_X12_first {As S μ ρ k} (h : F_X12_first As S μ ρ k) : ∃ a As', As = Value.ref a :: As' ∧ S.2 a = (12, 27) := by
  unfold F_X12_first at h
  split at h
  · exact ⟨_, _, rfl, by rw [h.1]; exact h.2.1.1⟩
  · exact h.elim
set_option maxHeartbeats 1000000 in
theorem f_X12_first {Z : Zt} {d : Nat} {As : List Value} {S : Sh} {μ : Mi} {ρ : Mr} {Rp : RT} (h : F_X12_first As S μ ρ (fun r μ' => Rp r S μ' ρ)) : MS Z (d + 3) jX12_first As S μ ρ Rp := by
  unfold F_X12_first at h
  split at h
  · rename_i a f t kd
    obtain ⟨rfl, hS, h⟩ := h
    have hS0 := hS
    unfold RS at hS
    obtain ⟨hg, h⟩ := h
    have hq := h _ RQ_0
    unfold vFirst at hq
    have hw := good_w hg
    obtain ⟨w, ew, ew0, -, ew1⟩ := rg_ex hw
    generalize hA : μ 2738 = A at *
    refine ms_X12_first _ _ _ _ (fun G g37 => ?_)
    have bad : ¬ (rgd f 0 4 ∧ rgd t 0 4 ∧ rgd kd 0 8) → Rp (some (.int (-2))) S (M6 μ) ρ := by
      intro c
      rw [if_pos c] at hq
      exact hq
    simp only [w_X12_first_0, w_X12_first_31, w_X12_first_34, tAload, tIload, nth, tGetI, tGetR, tConst, tLconst, tBin, tUn, tI2l, tAld, tAldR, tAlen, tIast, tBast, tZast, tAast, tIret, tZret, tVret, tAret, tIf, tIf2, tGoto, tIstore, tAstore, sset, tIinc, tDup, tDup2, tPop, tPutI, tPutZ, tPutR, tCallV, tCallS, popN, tFn, tCopy, tMax, tMin, tSw, swc, tRem, tObjI, Option.toList, List.nil_append, List.cons_append, okR, true_and, and_true, true_or, or_true, Nat.zero_le, ne_eq, not_false_eq_true, Nat.reduceEqDiff, F_X12_isStore, F_X12_within, hS0, hS, e6, M6_row, b2_z, Decidable.not_not, l_leC, l_geC, il_0, il_8]
    refine ⟨fun c => bad (fun z => c z.1), fun c => ⟨fun c2 => bad (fun z => c2 z.2.1), fun c2 => ⟨fun c3 => ?_, fun c3 => bad (fun z => c3 z.2.2)⟩⟩⟩
    rw [if_neg (not_not_intro ⟨c, c2, c3⟩), ew, nI_clamp ew0] at hq
    have i10 : inb 4510 13548 := inb_nI (k := 4510) (by decide) (by decide)
    have r0 : rg 0 0 20 = True := eq_true ⟨by decide, by decide⟩
    have r1 : rg 1 0 20 = True := eq_true ⟨by decide, by decide⟩
    have r3 : rg 3 0 20 = True := eq_true ⟨by decide, by decide⟩
    have loop : ∀ n i : Nat, n + i = w → Rp (some (.int (frF A f t kd n i))) S (M6 μ) ρ → G 37 [.ref 2737, .int f, .int t, .int kd, .int (nI i)] [] S (0, 0) (M6 μ) ρ := by
      intro n
      induction n with
      | zero =>
        intro i hi hr
        obtain rfl : i = w := by omega
        refine g37 _ _ _ _ _ _ ?_
        simp only [w_X12_first_37, w_X12_first_92, tAload, tIload, nth, tGetI, tGetR, tConst, tLconst, tBin, tUn, tI2l, tAld, tAldR, tAlen, tIast, tBast, tZast, tAast, tIret, tZret, tVret, tAret, tIf, tIf2, tGoto, tIstore, tAstore, sset, tIinc, tDup, tDup2, tPop, tPutI, tPutZ, tPutR, tCallV, tCallS, popN, tFn, tCopy, tMax, tMin, tSw, swc, tRem, tObjI, Option.toList, List.nil_append, List.cons_append, okR, true_and, and_true, true_or, or_true, Nat.zero_le, ne_eq, not_false_eq_true, Nat.reduceEqDiff, hS, M6_row, hA, ew, i10, cl_4510]
        exact ⟨fun _ => hr, fun z => absurd (Int32.le_refl _) z⟩
      | succ n ih =>
        intro i hi hr
        rw [frF_s] at hr
        refine g37 _ _ _ _ _ _ ?_
        have hri : rg (nI i) 0 59 = True := rg_T (by omega) (by omega) (by omega)
        have lt : ¬ nI w ≤ nI i := by rw [nI_leI (by omega) (by omega)]; omega
        simp only [w_X12_first_37, w_X12_first_86, tAload, tIload, nth, tGetI, tGetR, tConst, tLconst, tBin, tUn, tI2l, tAld, tAldR, tAlen, tIast, tBast, tZast, tAast, tIret, tZret, tVret, tAret, tIf, tIf2, tGoto, tIstore, tAstore, sset, tIinc, tDup, tDup2, tPop, tPutI, tPutZ, tPutR, tCallV, tCallS, popN, tFn, tCopy, tMax, tMin, tSw, swc, tRem, tObjI, Option.toList, List.nil_append, List.cons_append, okR, true_and, and_true, true_or, or_true, Nat.zero_le, ne_eq, not_false_eq_true, Nat.reduceEqDiff, F_X12_ofMessage, hS0, hS, M6_row, hA, ew, i10, cl_4510, hri, r0, r1, r3, cl_0, cl_1, cl_3, Nat.add_zero, nI_1, Decidable.not_not]
        simp (disch := omega) only [nI_clamp]
        refine ⟨fun z => absurd z lt, fun _ => ⟨fun d1 => ih _ (by omega) ?_, fun d1 => ⟨fun d2 => ih _ (by omega) ?_, fun d2 => ⟨fun d3 => ih _ (by omega) ?_, fun d3 => ?_⟩⟩⟩⟩
        · rw [if_neg (fun z => d1 z.1)] at hr; exact hr
        · rw [if_neg (fun z => d2 z.2.1)] at hr; exact hr
        · rw [if_neg (fun z => d3 z.2.2)] at hr; exact hr
        · rw [if_pos ⟨d1, d2, d3⟩] at hr; exact hr
    exact loop w 0 rfl hq
  · exact h.elim
def vLinked (A : Rw) (a b : Int32) : Int32 := if ¬ (rgd a 0 4 ∧ rgd b 0 4) then -2 else if a = b then -3 else if (A 4513 >>> ((5 * a + b) &&& 31)) &&& 1 = 1 then 1 else 0
def w_X12_linked_46 (M : CT) (G : Nat → PT) (Rp : RT) : PT := tIret Rp
def w_X12_linked_45 (M : CT) (G : Nat → PT) (Rp : RT) : PT := tConst 0 <| w_X12_linked_46 M G Rp
def w_X12_linked_32 (M : CT) (G : Nat → PT) (Rp : RT) : PT := tAload 0 <| tIload 1 <| tIload 2 <| tFn 3 F_X12_isLinked <| tIf (fun x => x = 0) (w_X12_linked_45 M G Rp) <| tConst 1 <| tGoto (w_X12_linked_46 M G Rp)
def w_X12_linked_22 (M : CT) (G : Nat → PT) (Rp : RT) : PT := tIload 1 <| tIload 2 <| tIf2 (fun x y => x ≠ y) (w_X12_linked_32 M G Rp) <| tConst (-3) <| tGoto (w_X12_linked_46 M G Rp)
def w_X12_linked_19 (M : CT) (G : Nat → PT) (Rp : RT) : PT := tConst (-2) <| tIret Rp
def w_X12_linked_0 (M : CT) (G : Nat → PT) (Rp : RT) : PT := tAload 0 <| tConst 0 <| tPutI 12 27 0 <| tIload 1 <| tFn 1 F_X12_isStore <| tIf (fun x => x = 0) (w_X12_linked_19 M G Rp) <| tIload 2 <| tFn 1 F_X12_isStore <| tIf (fun x => x ≠ 0) (w_X12_linked_22 M G Rp) <| w_X12_linked_19 M G Rp
set_option maxRecDepth 20000 in
theorem b_X12_linked_46 {Z : Zt} {d : Nat} {p : Program} {e : Env} {R : Room} {s : State} {m : MethodId} {args : Array Value} {below : List Frame} {meth : Method} {c : Code} {Rp : RT} (C : Cx Z (d + 2) jX12_linked RX12 p R s m args meth c) : Sd Z jX12_linked p e R s m args below meth c (MQ below (QcS Z Rp) args s 0 0 (fun a => Z.2.2.1 < a)) 46 (w_X12_linked_46 (MS Z (d + 2)) (Gw Z 3 p e R s m args below meth c (MQ below (QcS Z Rp) args s 0 0 (fun a => Z.2.2.1 < a))) Rp) := by
  unfold w_X12_linked_46
  exact s_iret C rfl (by decide +kernel)
set_option maxRecDepth 20000 in
theorem b_X12_linked_45 {Z : Zt} {d : Nat} {p : Program} {e : Env} {R : Room} {s : State} {m : MethodId} {args : Array Value} {below : List Frame} {meth : Method} {c : Code} {Rp : RT} (C : Cx Z (d + 2) jX12_linked RX12 p R s m args meth c) : Sd Z jX12_linked p e R s m args below meth c (MQ below (QcS Z Rp) args s 0 0 (fun a => Z.2.2.1 < a)) 45 (w_X12_linked_45 (MS Z (d + 2)) (Gw Z 3 p e R s m args below meth c (MQ below (QcS Z Rp) args s 0 0 (fun a => Z.2.2.1 < a))) Rp) := by
  unfold w_X12_linked_45
  refine s_iconst (n := 0) C (by decide +kernel) (by decide) ?_
  exact (b_X12_linked_46 C)
set_option maxRecDepth 20000 in
theorem b_X12_linked_32 {Z : Zt} {d : Nat} {p : Program} {e : Env} {R : Room} {s : State} {m : MethodId} {args : Array Value} {below : List Frame} {meth : Method} {c : Code} {Rp : RT} (C : Cx Z (d + 2) jX12_linked RX12 p R s m args meth c) : Sd Z jX12_linked p e R s m args below meth c (MQ below (QcS Z Rp) args s 0 0 (fun a => Z.2.2.1 < a)) 32 (w_X12_linked_32 (MS Z (d + 2)) (Gw Z 3 p e R s m args below meth c (MQ below (QcS Z Rp) args s 0 0 (fun a => Z.2.2.1 < a))) Rp) := by
  unfold w_X12_linked_32
  refine s_aload_n (k := 0) C (by decide +kernel) ?_
  refine s_iload_n (k := 1) C (by decide +kernel) ?_
  refine s_iload_n (k := 2) C (by decide +kernel) ?_
  refine s_fnV C (j2 := jX12_isLinked) (cl := 12) (nf := 27) rfl rfl (by decide +kernel) rfl w_7_31 w_7_33 w_p4_7 w_1_13 w_7_34 (by decide +kernel) (fun _ _ _ _ _ h => f_X12_isLinked h) (fun _ _ _ _ _ h => r_X12_isLinked h) ?_
  refine s_if_eq (off := 7) (tgt := 45) C (by decide +kernel) (by decide) (b_X12_linked_45 C) ?_
  refine s_iconst (n := 1) C (by decide +kernel) (by decide) ?_
  exact s_goto (off := 4) (tgt := 46) C (by decide +kernel) (by decide) (b_X12_linked_46 C)
set_option maxRecDepth 20000 in
theorem b_X12_linked_22 {Z : Zt} {d : Nat} {p : Program} {e : Env} {R : Room} {s : State} {m : MethodId} {args : Array Value} {below : List Frame} {meth : Method} {c : Code} {Rp : RT} (C : Cx Z (d + 2) jX12_linked RX12 p R s m args meth c) : Sd Z jX12_linked p e R s m args below meth c (MQ below (QcS Z Rp) args s 0 0 (fun a => Z.2.2.1 < a)) 22 (w_X12_linked_22 (MS Z (d + 2)) (Gw Z 3 p e R s m args below meth c (MQ below (QcS Z Rp) args s 0 0 (fun a => Z.2.2.1 < a))) Rp) := by
  unfold w_X12_linked_22
  refine s_iload_n (k := 1) C (by decide +kernel) ?_
  refine s_iload_n (k := 2) C (by decide +kernel) ?_
  refine s_icmp_ne (off := 8) (tgt := 32) C (by decide +kernel) (by decide) (b_X12_linked_32 C) ?_
  refine s_bipush (n := (-3)) C (by decide +kernel) (by decide) ?_
  exact s_goto (off := 17) (tgt := 46) C (by decide +kernel) (by decide) (b_X12_linked_46 C)
set_option maxRecDepth 20000 in
theorem b_X12_linked_19 {Z : Zt} {d : Nat} {p : Program} {e : Env} {R : Room} {s : State} {m : MethodId} {args : Array Value} {below : List Frame} {meth : Method} {c : Code} {Rp : RT} (C : Cx Z (d + 2) jX12_linked RX12 p R s m args meth c) : Sd Z jX12_linked p e R s m args below meth c (MQ below (QcS Z Rp) args s 0 0 (fun a => Z.2.2.1 < a)) 19 (w_X12_linked_19 (MS Z (d + 2)) (Gw Z 3 p e R s m args below meth c (MQ below (QcS Z Rp) args s 0 0 (fun a => Z.2.2.1 < a))) Rp) := by
  unfold w_X12_linked_19
  refine s_bipush (n := (-2)) C (by decide +kernel) (by decide) ?_
  exact s_iret C rfl (by decide +kernel)
set_option maxRecDepth 20000 in
theorem b_X12_linked_0 {Z : Zt} {d : Nat} {p : Program} {e : Env} {R : Room} {s : State} {m : MethodId} {args : Array Value} {below : List Frame} {meth : Method} {c : Code} {Rp : RT} (C : Cx Z (d + 2) jX12_linked RX12 p R s m args meth c) : Sd Z jX12_linked p e R s m args below meth c (MQ below (QcS Z Rp) args s 0 0 (fun a => Z.2.2.1 < a)) 0 (w_X12_linked_0 (MS Z (d + 2)) (Gw Z 3 p e R s m args below meth c (MQ below (QcS Z Rp) args s 0 0 (fun a => Z.2.2.1 < a))) Rp) := by
  unfold w_X12_linked_0
  refine s_aload_n (k := 0) C (by decide +kernel) ?_
  refine s_iconst (n := 0) C (by decide +kernel) (by decide) ?_
  refine s_putI C w_6_87 (by decide +kernel) rfl (Or.inl rfl) ?_
  refine s_iload_n (k := 1) C (by decide +kernel) ?_
  refine s_fnS C (j2 := jX12_isStore) (by decide +kernel) rfl w_6_208 w_6_209 w_1_13 w_6_210 (by decide +kernel) (fun _ _ _ _ _ h => f_X12_isStore h) ?_
  refine s_if_eq (off := 10) (tgt := 19) C (by decide +kernel) (by decide) (b_X12_linked_19 C) ?_
  refine s_iload_n (k := 2) C (by decide +kernel) ?_
  refine s_fnS C (j2 := jX12_isStore) (by decide +kernel) rfl w_6_208 w_6_209 w_1_13 w_6_210 (by decide +kernel) (fun _ _ _ _ _ h => f_X12_isStore h) ?_
  refine s_if_ne (off := 6) (tgt := 22) C (by decide +kernel) (by decide) (b_X12_linked_22 C) ?_
  exact (b_X12_linked_19 C)
theorem ms_X12_linked {Z : Zt} {d : Nat} {S : Sh} {μ : Mi} {ρ : Mr} {Rp : RT} (a0 : Nat) (x1 : Int32) (x2 : Int32) (h : ∀ G : Nat → PT, w_X12_linked_0 (MS Z (d + 2)) G Rp [.ref a0, .int x1, .int x2] [] S (0, 0) μ ρ) : MS Z (d + 3) jX12_linked [.ref a0, .int x1, .int x2] S μ ρ Rp :=
  MS_of [.ref a0, .int x1, .int x2] (by decide +kernel) rfl rfl (Nat.le_of_ble_eq_true rfl) rfl (fun p e R s m args below meth c C => b_X12_linked_0 C _ _ _ _ _ _ (h _ ))
def F_X12_linked : FT := fun As S μ ρ k => match As with
  | [.ref a, .int x, .int y] => a = 2737 ∧ RS S ρ ∧ ∀ μ', RQ μ μ' (μ 2738) (μ 2739) (μ 2737 6) → k (some (.int (vLinked (μ 2738) x y))) μ'
  | _ => False
theorem r_X12_linked {As S μ ρ k} (h : F_X12_linked As S μ ρ k) : ∃ a As', As = Value.ref a :: As' ∧ S.2 a = (12, 27) := by
  unfold F_X12_linked at h
  split at h
  · exact ⟨_, _, rfl, by rw [h.1]; exact h.2.1.1⟩
  · exact h.elim
set_option maxHeartbeats 1000000 in
theorem f_X12_linked {Z : Zt} {d : Nat} {As : List Value} {S : Sh} {μ : Mi} {ρ : Mr} {Rp : RT} (h : F_X12_linked As S μ ρ (fun r μ' => Rp r S μ' ρ)) : MS Z (d + 3) jX12_linked As S μ ρ Rp := by
  unfold F_X12_linked at h
  split at h
  · rename_i a x y
    obtain ⟨rfl, hS, h⟩ := h
    have hS0 := hS
    unfold RS at hS
    have hq := h _ RQ_0
    unfold vLinked at hq
    refine ms_X12_linked _ _ _ (fun G => ?_)
    have bad : ¬ (rgd x 0 4 ∧ rgd y 0 4) → Rp (some (.int (-2))) S (M6 μ) ρ := by
      intro c
      rw [if_pos c] at hq
      exact hq
    simp only [w_X12_linked_0, w_X12_linked_19, w_X12_linked_22, w_X12_linked_32, w_X12_linked_45, w_X12_linked_46, tAload, tIload, nth, tGetI, tGetR, tConst, tLconst, tBin, tUn, tI2l, tAld, tAldR, tAlen, tIast, tBast, tZast, tAast, tIret, tZret, tVret, tAret, tIf, tIf2, tGoto, tIstore, tAstore, sset, tIinc, tDup, tDup2, tPop, tPutI, tPutZ, tPutR, tCallV, tCallS, popN, tFn, tCopy, tMax, tMin, tSw, swc, tRem, tObjI, Option.toList, List.nil_append, List.cons_append, okR, true_and, and_true, true_or, or_true, Nat.zero_le, ne_eq, not_false_eq_true, Nat.reduceEqDiff, F_X12_isStore, F_X12_isLinked, hS0, hS, e6, M6_row, b2_z, Decidable.not_not]
    refine ⟨fun c => bad (fun z => c z.1), fun c => ⟨fun c2 => ⟨fun c3 => ⟨fun c4 => ?_, fun c4 => ?_⟩, fun c3 => ?_⟩, fun c2 => bad (fun z => c2 z.2)⟩⟩
    · rw [if_neg (not_not_intro ⟨c, c2⟩), if_neg c3, if_neg c4] at hq; exact hq
    · rw [if_neg (not_not_intro ⟨c, c2⟩), if_neg c3, if_pos c4] at hq; exact hq
    · rw [if_neg (not_not_intro ⟨c, c2⟩), if_pos c3] at hq; exact hq
  · exact h.elim
def alF (A : Rw) (a b : Nat) : Nat → Int32 := fun p => match p with
  | 0 => 0
  | p + 1 => if ¬ qTermAt A a (nI (p + 1)) = -1 ∧ qTermAt A a (nI (p + 1)) = qTermAt A b (nI (p + 1)) then nI (p + 1) else alF A a b p
theorem alF_s {A : Rw} {a b p : Nat} : alF A a b (p + 1) = if ¬ qTermAt A a (nI (p + 1)) = -1 ∧ qTermAt A a (nI (p + 1)) = qTermAt A b (nI (p + 1)) then nI (p + 1) else alF A a b p := rfl
def vAlike (A : Rw) (a b : Int32) : Int32 := if ¬ (rgd a 0 4 ∧ rgd b 0 4) then -2 else if a = b then -3 else alF A a.toNatClampNeg b.toNatClampNeg (min (A (514 * a.toNatClampNeg + 4)).toNatClampNeg (A (514 * b.toNatClampNeg + 4)).toNatClampNeg)
def w_X12_alike_83 (M : CT) (G : Nat → PT) (Rp : RT) : PT := tConst 0 <| tIret Rp
def w_X12_alike_77 (M : CT) (G : Nat → PT) (Rp : RT) : PT := tIinc 3 (-1) <| tGoto (G 46)
def w_X12_alike_46 (M : CT) (G : Nat → PT) (Rp : RT) : PT := tIload 3 <| tIf (fun x => x ≤ 0) (w_X12_alike_83 M G Rp) <| tAload 0 <| tIload 1 <| tIload 3 <| tFn 3 F_X12_termAt <| tConst (-1) <| tIf2 (fun x y => x = y) (w_X12_alike_77 M G Rp) <| tAload 0 <| tIload 1 <| tIload 3 <| tFn 3 F_X12_termAt <| tAload 0 <| tIload 2 <| tIload 3 <| tFn 3 F_X12_termAt <| tIf2 (fun x y => x ≠ y) (w_X12_alike_77 M G Rp) <| tIload 3 <| tIret Rp
def w_X12_alike_30 (M : CT) (G : Nat → PT) (Rp : RT) : PT := tAload 0 <| tIload 1 <| tConst 4 <| tFn 3 F_X12_of <| tAload 0 <| tIload 2 <| tConst 4 <| tFn 3 F_X12_of <| tFn 2 F_X12_lesser <| tIstore 3 <| G 46
def w_X12_alike_22 (M : CT) (G : Nat → PT) (Rp : RT) : PT := tIload 1 <| tIload 2 <| tIf2 (fun x y => x ≠ y) (w_X12_alike_30 M G Rp) <| tConst (-3) <| tIret Rp
def w_X12_alike_19 (M : CT) (G : Nat → PT) (Rp : RT) : PT := tConst (-2) <| tIret Rp
def w_X12_alike_0 (M : CT) (G : Nat → PT) (Rp : RT) : PT := tAload 0 <| tConst 0 <| tPutI 12 27 0 <| tIload 1 <| tFn 1 F_X12_isStore <| tIf (fun x => x = 0) (w_X12_alike_19 M G Rp) <| tIload 2 <| tFn 1 F_X12_isStore <| tIf (fun x => x ≠ 0) (w_X12_alike_22 M G Rp) <| w_X12_alike_19 M G Rp
set_option maxRecDepth 20000 in
theorem b_X12_alike_83 {Z : Zt} {d : Nat} {p : Program} {e : Env} {R : Room} {s : State} {m : MethodId} {args : Array Value} {below : List Frame} {meth : Method} {c : Code} {Rp : RT} (C : Cx Z (d + 3) jX12_alike RX12 p R s m args meth c) : Sd Z jX12_alike p e R s m args below meth c (MQ below (QcS Z Rp) args s 0 0 (fun a => Z.2.2.1 < a)) 83 (w_X12_alike_83 (MS Z (d + 3)) (Gw Z 4 p e R s m args below meth c (MQ below (QcS Z Rp) args s 0 0 (fun a => Z.2.2.1 < a))) Rp) := by
  unfold w_X12_alike_83
  refine s_iconst (n := 0) C (by decide +kernel) (by decide) ?_
  exact s_iret C rfl (by decide +kernel)
set_option maxRecDepth 20000 in
theorem b_X12_alike_77 {Z : Zt} {d : Nat} {p : Program} {e : Env} {R : Room} {s : State} {m : MethodId} {args : Array Value} {below : List Frame} {meth : Method} {c : Code} {Rp : RT} (C : Cx Z (d + 3) jX12_alike RX12 p R s m args meth c) : Sd Z jX12_alike p e R s m args below meth c (MQ below (QcS Z Rp) args s 0 0 (fun a => Z.2.2.1 < a)) 77 (w_X12_alike_77 (MS Z (d + 3)) (Gw Z 4 p e R s m args below meth c (MQ below (QcS Z Rp) args s 0 0 (fun a => Z.2.2.1 < a))) Rp) := by
  unfold w_X12_alike_77
  refine s_iinc (n := (-1)) C (by decide +kernel) (by decide) ?_
  exact s_goto (off := (-34)) (tgt := 46) C (by decide +kernel) (by decide) (fun _ _ _ _ _ _ h => h)
set_option maxRecDepth 20000 in
theorem b_X12_alike_46 {Z : Zt} {d : Nat} {p : Program} {e : Env} {R : Room} {s : State} {m : MethodId} {args : Array Value} {below : List Frame} {meth : Method} {c : Code} {Rp : RT} (C : Cx Z (d + 3) jX12_alike RX12 p R s m args meth c) : Sd Z jX12_alike p e R s m args below meth c (MQ below (QcS Z Rp) args s 0 0 (fun a => Z.2.2.1 < a)) 46 (w_X12_alike_46 (MS Z (d + 3)) (Gw Z 4 p e R s m args below meth c (MQ below (QcS Z Rp) args s 0 0 (fun a => Z.2.2.1 < a))) Rp) := by
  unfold w_X12_alike_46
  refine s_iload_n (k := 3) C (by decide +kernel) ?_
  refine s_if_le (off := 36) (tgt := 83) C (by decide +kernel) (by decide) (b_X12_alike_83 C) ?_
  refine s_aload_n (k := 0) C (by decide +kernel) ?_
  refine s_iload_n (k := 1) C (by decide +kernel) ?_
  refine s_iload_n (k := 3) C (by decide +kernel) ?_
  refine s_fnV C (j2 := jX12_termAt) (cl := 12) (nf := 27) rfl rfl (by decide +kernel) rfl w_7_23 w_7_25 w_p4_5 w_1_13 w_7_26 (by decide +kernel) (fun _ _ _ _ _ h => f_X12_termAt h) (fun _ _ _ _ _ h => r_X12_termAt h) ?_
  refine s_iconst (n := (-1)) C (by decide +kernel) (by decide) ?_
  refine s_icmp_eq (off := 20) (tgt := 77) C (by decide +kernel) (by decide) (b_X12_alike_77 C) ?_
  refine s_aload_n (k := 0) C (by decide +kernel) ?_
  refine s_iload_n (k := 1) C (by decide +kernel) ?_
  refine s_iload_n (k := 3) C (by decide +kernel) ?_
  refine s_fnV C (j2 := jX12_termAt) (cl := 12) (nf := 27) rfl rfl (by decide +kernel) rfl w_7_23 w_7_25 w_p4_5 w_1_13 w_7_26 (by decide +kernel) (fun _ _ _ _ _ h => f_X12_termAt h) (fun _ _ _ _ _ h => r_X12_termAt h) ?_
  refine s_aload_n (k := 0) C (by decide +kernel) ?_
  refine s_iload_n (k := 2) C (by decide +kernel) ?_
  refine s_iload_n (k := 3) C (by decide +kernel) ?_
  refine s_fnV C (j2 := jX12_termAt) (cl := 12) (nf := 27) rfl rfl (by decide +kernel) rfl w_7_23 w_7_25 w_p4_5 w_1_13 w_7_26 (by decide +kernel) (fun _ _ _ _ _ h => f_X12_termAt h) (fun _ _ _ _ _ h => r_X12_termAt h) ?_
  refine s_icmp_ne (off := 5) (tgt := 77) C (by decide +kernel) (by decide) (b_X12_alike_77 C) ?_
  refine s_iload_n (k := 3) C (by decide +kernel) ?_
  exact s_iret C rfl (by decide +kernel)
set_option maxRecDepth 20000 in
theorem b_X12_alike_30 {Z : Zt} {d : Nat} {p : Program} {e : Env} {R : Room} {s : State} {m : MethodId} {args : Array Value} {below : List Frame} {meth : Method} {c : Code} {Rp : RT} (C : Cx Z (d + 3) jX12_alike RX12 p R s m args meth c) : Sd Z jX12_alike p e R s m args below meth c (MQ below (QcS Z Rp) args s 0 0 (fun a => Z.2.2.1 < a)) 30 (w_X12_alike_30 (MS Z (d + 3)) (Gw Z 4 p e R s m args below meth c (MQ below (QcS Z Rp) args s 0 0 (fun a => Z.2.2.1 < a))) Rp) := by
  unfold w_X12_alike_30
  refine s_aload_n (k := 0) C (by decide +kernel) ?_
  refine s_iload_n (k := 1) C (by decide +kernel) ?_
  refine s_iconst (n := 4) C (by decide +kernel) (by decide) ?_
  refine s_fnV C (j2 := jX12_of) (cl := 12) (nf := 27) rfl rfl (by decide +kernel) rfl w_6_220 w_6_222 w_p3_11 w_1_13 w_6_223 (by decide +kernel) (fun _ _ _ _ _ h => f_X12_of h) (fun _ _ _ _ _ h => r_X12_of h) ?_
  refine s_aload_n (k := 0) C (by decide +kernel) ?_
  refine s_iload_n (k := 2) C (by decide +kernel) ?_
  refine s_iconst (n := 4) C (by decide +kernel) (by decide) ?_
  refine s_fnV C (j2 := jX12_of) (cl := 12) (nf := 27) rfl rfl (by decide +kernel) rfl w_6_220 w_6_222 w_p3_11 w_1_13 w_6_223 (by decide +kernel) (fun _ _ _ _ _ h => f_X12_of h) (fun _ _ _ _ _ h => r_X12_of h) ?_
  refine s_fnS C (j2 := jX12_lesser) (by decide +kernel) rfl w_7_55 w_7_56 w_1_13 w_7_57 (by decide +kernel) (fun _ _ _ _ _ h => f_X12_lesser h) ?_
  refine s_istore_n (k := 3) C (by decide +kernel) ?_
  exact (fun _ _ _ _ _ _ h => h)
set_option maxRecDepth 20000 in
theorem b_X12_alike_22 {Z : Zt} {d : Nat} {p : Program} {e : Env} {R : Room} {s : State} {m : MethodId} {args : Array Value} {below : List Frame} {meth : Method} {c : Code} {Rp : RT} (C : Cx Z (d + 3) jX12_alike RX12 p R s m args meth c) : Sd Z jX12_alike p e R s m args below meth c (MQ below (QcS Z Rp) args s 0 0 (fun a => Z.2.2.1 < a)) 22 (w_X12_alike_22 (MS Z (d + 3)) (Gw Z 4 p e R s m args below meth c (MQ below (QcS Z Rp) args s 0 0 (fun a => Z.2.2.1 < a))) Rp) := by
  unfold w_X12_alike_22
  refine s_iload_n (k := 1) C (by decide +kernel) ?_
  refine s_iload_n (k := 2) C (by decide +kernel) ?_
  refine s_icmp_ne (off := 6) (tgt := 30) C (by decide +kernel) (by decide) (b_X12_alike_30 C) ?_
  refine s_bipush (n := (-3)) C (by decide +kernel) (by decide) ?_
  exact s_iret C rfl (by decide +kernel)
set_option maxRecDepth 20000 in
theorem b_X12_alike_19 {Z : Zt} {d : Nat} {p : Program} {e : Env} {R : Room} {s : State} {m : MethodId} {args : Array Value} {below : List Frame} {meth : Method} {c : Code} {Rp : RT} (C : Cx Z (d + 3) jX12_alike RX12 p R s m args meth c) : Sd Z jX12_alike p e R s m args below meth c (MQ below (QcS Z Rp) args s 0 0 (fun a => Z.2.2.1 < a)) 19 (w_X12_alike_19 (MS Z (d + 3)) (Gw Z 4 p e R s m args below meth c (MQ below (QcS Z Rp) args s 0 0 (fun a => Z.2.2.1 < a))) Rp) := by
  unfold w_X12_alike_19
  refine s_bipush (n := (-2)) C (by decide +kernel) (by decide) ?_
  exact s_iret C rfl (by decide +kernel)
set_option maxRecDepth 20000 in
theorem b_X12_alike_0 {Z : Zt} {d : Nat} {p : Program} {e : Env} {R : Room} {s : State} {m : MethodId} {args : Array Value} {below : List Frame} {meth : Method} {c : Code} {Rp : RT} (C : Cx Z (d + 3) jX12_alike RX12 p R s m args meth c) : Sd Z jX12_alike p e R s m args below meth c (MQ below (QcS Z Rp) args s 0 0 (fun a => Z.2.2.1 < a)) 0 (w_X12_alike_0 (MS Z (d + 3)) (Gw Z 4 p e R s m args below meth c (MQ below (QcS Z Rp) args s 0 0 (fun a => Z.2.2.1 < a))) Rp) := by
  unfold w_X12_alike_0
  refine s_aload_n (k := 0) C (by decide +kernel) ?_
  refine s_iconst (n := 0) C (by decide +kernel) (by decide) ?_
  refine s_putI C w_6_87 (by decide +kernel) rfl (Or.inl rfl) ?_
  refine s_iload_n (k := 1) C (by decide +kernel) ?_
  refine s_fnS C (j2 := jX12_isStore) (by decide +kernel) rfl w_6_208 w_6_209 w_1_13 w_6_210 (by decide +kernel) (fun _ _ _ _ _ h => f_X12_isStore h) ?_
  refine s_if_eq (off := 10) (tgt := 19) C (by decide +kernel) (by decide) (b_X12_alike_19 C) ?_
  refine s_iload_n (k := 2) C (by decide +kernel) ?_
  refine s_fnS C (j2 := jX12_isStore) (by decide +kernel) rfl w_6_208 w_6_209 w_1_13 w_6_210 (by decide +kernel) (fun _ _ _ _ _ h => f_X12_isStore h) ?_
  refine s_if_ne (off := 6) (tgt := 22) C (by decide +kernel) (by decide) (b_X12_alike_22 C) ?_
  exact (b_X12_alike_19 C)
theorem ms_X12_alike {Z : Zt} {d : Nat} {S : Sh} {μ : Mi} {ρ : Mr} {Rp : RT} (a0 : Nat) (x1 : Int32) (x2 : Int32) (h : ∀ G : Nat → PT, (∀ (L st : List Value) (S : Sh) (q : Nat × Nat) (μ : Mi) (ρ : Mr), w_X12_alike_46 (MS Z (d + 3)) G Rp L st S q μ ρ → G 46 L st S q μ ρ) → w_X12_alike_0 (MS Z (d + 3)) G Rp [.ref a0, .int x1, .int x2, .null] [] S (0, 0) μ ρ) : MS Z (d + 4) jX12_alike [.ref a0, .int x1, .int x2] S μ ρ Rp :=
  MS_of [.ref a0, .int x1, .int x2, .null] (by decide +kernel) rfl rfl (Nat.le_of_ble_eq_true rfl) rfl (fun p e R s m args below meth c C => b_X12_alike_0 C _ _ _ _ _ _ (h _ (b_X12_alike_46 C)))
def F_X12_alike : FT := fun As S μ ρ k => match As with
  | [.ref a, .int x, .int y] => a = 2737 ∧ RS S ρ ∧ good (μ 2738) ∧ ∀ μ', RQ μ μ' (μ 2738) (μ 2739) (μ 2737 6) → k (some (.int (vAlike (μ 2738) x y))) μ'
  | _ => False
theorem r_X12_alike {As S μ ρ k} (h : F_X12_alike As S μ ρ k) : ∃ a As', As = Value.ref a :: As' ∧ S.2 a = (12, 27) := by
  unfold F_X12_alike at h
  split at h
  · exact ⟨_, _, rfl, by rw [h.1]; exact h.2.1.1⟩
  · exact h.elim
set_option maxHeartbeats 1000000 in
theorem f_X12_alike {Z : Zt} {d : Nat} {As : List Value} {S : Sh} {μ : Mi} {ρ : Mr} {Rp : RT} (h : F_X12_alike As S μ ρ (fun r μ' => Rp r S μ' ρ)) : MS Z (d + 4) jX12_alike As S μ ρ Rp := by
  unfold F_X12_alike at h
  split at h
  · rename_i a x y
    obtain ⟨rfl, hS, h⟩ := h
    have hS0 := hS
    unfold RS at hS
    obtain ⟨hg, h⟩ := h
    have hq := h _ RQ_0
    unfold vAlike at hq
    generalize hA : μ 2738 = A at *
    refine ms_X12_alike _ _ _ (fun G g46 => ?_)
    have bad : ¬ (rgd x 0 4 ∧ rgd y 0 4) → Rp (some (.int (-2))) S (M6 μ) ρ := by
      intro c
      rw [if_pos c] at hq
      exact hq
    simp only [w_X12_alike_0, w_X12_alike_19, w_X12_alike_22, tAload, tIload, nth, tGetI, tGetR, tConst, tLconst, tBin, tUn, tI2l, tAld, tAldR, tAlen, tIast, tBast, tZast, tAast, tIret, tZret, tVret, tAret, tIf, tIf2, tGoto, tIstore, tAstore, sset, tIinc, tDup, tDup2, tPop, tPutI, tPutZ, tPutR, tCallV, tCallS, popN, tFn, tCopy, tMax, tMin, tSw, swc, tRem, tObjI, Option.toList, List.nil_append, List.cons_append, okR, true_and, and_true, true_or, or_true, Nat.zero_le, ne_eq, not_false_eq_true, Nat.reduceEqDiff, F_X12_isStore, hS0, hS, e6, M6_row, b2_z, Decidable.not_not]
    refine ⟨fun c => bad (fun z => c z.1), fun c => ⟨fun c2 => ⟨fun c3 => ?_, fun c3 => ?_⟩, fun c2 => bad (fun z => c2 z.2)⟩⟩
    · rw [if_neg (not_not_intro ⟨c, c2⟩), if_neg c3] at hq
      obtain ⟨x, rfl, hx0, -, hx⟩ := rg_ex (lo := 0) (hi := 4) c
      obtain ⟨y, rfl, hy0, -, hy⟩ := rg_ex (lo := 0) (hi := 4) c2
      have hrx := rg_T (lo := 0) (hi := 4) (n := x) (by omega) (by omega) hx0
      have hry := rg_T (lo := 0) (hi := 4) (n := y) (by omega) (by omega) hy0
      have kx := good_bs hg (s := x) (by omega)
      have ky := good_bs hg (s := y) (by omega)
      have ix4 : (514 : Int32) * nI x + 4 = nI (514 * x + 4) := ixs 4 4 rfl
      have iy4 : (514 : Int32) * nI y + 4 = nI (514 * y + 4) := ixs 4 4 rfl
      have bx4 : inb (nI (514 * x + 4)) 13548 := inb_nI (by omega) (by decide)
      have by4 : inb (nI (514 * y + 4)) 13548 := inb_nI (by omega) (by decide)
      obtain ⟨lx, ex, ex0, -, ex1⟩ := rg_ex kx.2.1
      obtain ⟨ly, ey, ey0, -, ey1⟩ := rg_ex ky.2.1
      rw [nI_clamp hx0, nI_clamp hy0, ex, ey, nI_clamp ex0, nI_clamp ey0] at hq
      have loop : ∀ p, p ≤ 120 → Rp (some (.int (alF A x y p))) S (M6 μ) ρ → G 46 [.ref 2737, .int (nI x), .int (nI y), .int (nI p)] [] S (0, 0) (M6 μ) ρ := by
        intro p
        induction p with
        | zero =>
          intro _ hr
          refine g46 _ _ _ _ _ _ ?_
          simp only [w_X12_alike_46, w_X12_alike_83, tAload, tIload, nth, tGetI, tGetR, tConst, tLconst, tBin, tUn, tI2l, tAld, tAldR, tAlen, tIast, tBast, tZast, tAast, tIret, tZret, tVret, tAret, tIf, tIf2, tGoto, tIstore, tAstore, sset, tIinc, tDup, tDup2, tPop, tPutI, tPutZ, tPutR, tCallV, tCallS, popN, tFn, tCopy, tMax, tMin, tSw, swc, tRem, tObjI, Option.toList, List.nil_append, List.cons_append, okR, true_and, and_true, true_or, or_true, Nat.zero_le, ne_eq, not_false_eq_true, Nat.reduceEqDiff]
          exact ⟨fun _ => hr, fun z => absurd (by decide) z⟩
        | succ p ih =>
          intro hp hr
          rw [alF_s] at hr
          refine g46 _ _ _ _ _ _ ?_
          have lt : ¬ nI (p + 1) ≤ 0 := by rw [show (0 : Int32) = nI 0 from rfl, nI_leI (by omega) (by decide)]; omega
          simp only [w_X12_alike_46, w_X12_alike_77, tAload, tIload, nth, tGetI, tGetR, tConst, tLconst, tBin, tUn, tI2l, tAld, tAldR, tAlen, tIast, tBast, tZast, tAast, tIret, tZret, tVret, tAret, tIf, tIf2, tGoto, tIstore, tAstore, sset, tIinc, tDup, tDup2, tPop, tPutI, tPutZ, tPutR, tCallV, tCallS, popN, tFn, tCopy, tMax, tMin, tSw, swc, tRem, tObjI, Option.toList, List.nil_append, List.cons_append, okR, true_and, and_true, true_or, or_true, Nat.zero_le, ne_eq, not_false_eq_true, Nat.reduceEqDiff, F_X12_termAt, hS0, hrx, hry, M6_row, hA, pk_m1, Decidable.not_not]
          simp (disch := omega) only [nI_clamp]
          refine ⟨fun z => absurd z lt, fun _ => ⟨kx.2.1, kx.2.2, fun d1 => ih (by omega) ?_, fun d1 => ⟨kx.2.1, kx.2.2, ky.2.1, ky.2.2, fun d2 => ih (by omega) ?_, fun d2 => ?_⟩⟩⟩
          · rw [if_neg (fun z => z.1 d1)] at hr; exact hr
          · rw [if_neg (fun z => d2 z.2)] at hr; exact hr
          · rw [if_pos ⟨d1, d2⟩] at hr; exact hr
      simp only [w_X12_alike_30, tAload, tIload, nth, tGetI, tGetR, tConst, tLconst, tBin, tUn, tI2l, tAld, tAldR, tAlen, tIast, tBast, tZast, tAast, tIret, tZret, tVret, tAret, tIf, tIf2, tGoto, tIstore, tAstore, sset, tIinc, tDup, tDup2, tPop, tPutI, tPutZ, tPutR, tCallV, tCallS, popN, tFn, tCopy, tMax, tMin, tSw, swc, tRem, tObjI, Option.toList, List.nil_append, List.cons_append, okR, true_and, and_true, true_or, or_true, Nat.zero_le, ne_eq, not_false_eq_true, Nat.reduceEqDiff, F_X12_of, F_X12_lesser, hS0, M6_row, hA, ix4, iy4, bx4, by4]
      simp (disch := omega) only [nI_clamp, ex, ey]
      have em : (if nI lx < nI ly then nI lx else nI ly) = nI (min lx ly) := by
        by_cases z : lx < ly
        · rw [if_pos (by rw [nI_ltI ex0 ey0]; exact z), Nat.min_eq_left (by omega)]
        · rw [if_neg (by rw [nI_ltI ex0 ey0]; exact z), Nat.min_eq_right (by omega)]
      rw [em]
      exact loop _ (by omega) hq
    · rw [if_neg (not_not_intro ⟨c, c2⟩), if_pos c3] at hq; exact hq
  · exact h.elim
def gr1 (A : Rw) (l t : Int32) (o : Nat) (acc : Int32) : Int32 := acc ||| (if isFar A o l t then (1 : Int32) <<< (nI o &&& 31) else 0)
def qGrants (A : Rw) (s : Nat) : Int32 := gr1 A (A (514 * s + 4)) (qTermAt A s (A (514 * s + 4))) 4 (gr1 A (A (514 * s + 4)) (qTermAt A s (A (514 * s + 4))) 3 (gr1 A (A (514 * s + 4)) (qTermAt A s (A (514 * s + 4))) 2 (gr1 A (A (514 * s + 4)) (qTermAt A s (A (514 * s + 4))) 1 (gr1 A (A (514 * s + 4)) (qTermAt A s (A (514 * s + 4))) 0 0))))
def w_X12_grantsTo_50 (M : CT) (G : Nat → PT) (Rp : RT) : PT := tIload 2 <| tIret Rp
def w_X12_grantsTo_42 (M : CT) (G : Nat → PT) (Rp : RT) : PT := tBin (fun x y => x ||| y) <| tIstore 2 <| tIinc 3 1 <| tGoto (G 4)
def w_X12_grantsTo_41 (M : CT) (G : Nat → PT) (Rp : RT) : PT := tConst 0 <| w_X12_grantsTo_42 M G Rp
def w_X12_grantsTo_4 (M : CT) (G : Nat → PT) (Rp : RT) : PT := tIload 3 <| tConst 5 <| tIf2 (fun x y => y ≤ x) (w_X12_grantsTo_50 M G Rp) <| tIload 2 <| tAload 0 <| tIload 3 <| tAload 0 <| tIload 1 <| tConst 4 <| tFn 3 F_X12_of <| tAload 0 <| tIload 1 <| tAload 0 <| tIload 1 <| tConst 4 <| tFn 3 F_X12_of <| tFn 3 F_X12_termAt <| tFn 4 F_X12_isAsFar <| tIf (fun x => x = 0) (w_X12_grantsTo_41 M G Rp) <| tConst 1 <| tIload 3 <| tBin (fun x y => x <<< (y &&& 31)) <| tGoto (w_X12_grantsTo_42 M G Rp)
def w_X12_grantsTo_0 (M : CT) (G : Nat → PT) (Rp : RT) : PT := tConst 0 <| tIstore 2 <| tConst 0 <| tIstore 3 <| G 4
set_option maxRecDepth 20000 in
theorem b_X12_grantsTo_50 {Z : Zt} {d : Nat} {p : Program} {e : Env} {R : Room} {s : State} {m : MethodId} {args : Array Value} {below : List Frame} {meth : Method} {c : Code} {Rp : RT} (C : Cx Z (d + 4) jX12_grantsTo RX12 p R s m args meth c) : Sd Z jX12_grantsTo p e R s m args below meth c (MQ below (QcS Z Rp) args s 0 0 (fun a => Z.2.2.1 < a)) 50 (w_X12_grantsTo_50 (MS Z (d + 4)) (Gw Z 4 p e R s m args below meth c (MQ below (QcS Z Rp) args s 0 0 (fun a => Z.2.2.1 < a))) Rp) := by
  unfold w_X12_grantsTo_50
  refine s_iload_n (k := 2) C (by decide +kernel) ?_
  exact s_iret C rfl (by decide +kernel)
set_option maxRecDepth 20000 in
theorem b_X12_grantsTo_42 {Z : Zt} {d : Nat} {p : Program} {e : Env} {R : Room} {s : State} {m : MethodId} {args : Array Value} {below : List Frame} {meth : Method} {c : Code} {Rp : RT} (C : Cx Z (d + 4) jX12_grantsTo RX12 p R s m args meth c) : Sd Z jX12_grantsTo p e R s m args below meth c (MQ below (QcS Z Rp) args s 0 0 (fun a => Z.2.2.1 < a)) 42 (w_X12_grantsTo_42 (MS Z (d + 4)) (Gw Z 4 p e R s m args below meth c (MQ below (QcS Z Rp) args s 0 0 (fun a => Z.2.2.1 < a))) Rp) := by
  unfold w_X12_grantsTo_42
  refine s_ior C (by decide +kernel) ?_
  refine s_istore_n (k := 2) C (by decide +kernel) ?_
  refine s_iinc (n := 1) C (by decide +kernel) (by decide) ?_
  exact s_goto (off := (-43)) (tgt := 4) C (by decide +kernel) (by decide) (fun _ _ _ _ _ _ h => h)
set_option maxRecDepth 20000 in
theorem b_X12_grantsTo_41 {Z : Zt} {d : Nat} {p : Program} {e : Env} {R : Room} {s : State} {m : MethodId} {args : Array Value} {below : List Frame} {meth : Method} {c : Code} {Rp : RT} (C : Cx Z (d + 4) jX12_grantsTo RX12 p R s m args meth c) : Sd Z jX12_grantsTo p e R s m args below meth c (MQ below (QcS Z Rp) args s 0 0 (fun a => Z.2.2.1 < a)) 41 (w_X12_grantsTo_41 (MS Z (d + 4)) (Gw Z 4 p e R s m args below meth c (MQ below (QcS Z Rp) args s 0 0 (fun a => Z.2.2.1 < a))) Rp) := by
  unfold w_X12_grantsTo_41
  refine s_iconst (n := 0) C (by decide +kernel) (by decide) ?_
  exact (b_X12_grantsTo_42 C)
set_option maxRecDepth 20000 in
theorem b_X12_grantsTo_4 {Z : Zt} {d : Nat} {p : Program} {e : Env} {R : Room} {s : State} {m : MethodId} {args : Array Value} {below : List Frame} {meth : Method} {c : Code} {Rp : RT} (C : Cx Z (d + 4) jX12_grantsTo RX12 p R s m args meth c) : Sd Z jX12_grantsTo p e R s m args below meth c (MQ below (QcS Z Rp) args s 0 0 (fun a => Z.2.2.1 < a)) 4 (w_X12_grantsTo_4 (MS Z (d + 4)) (Gw Z 4 p e R s m args below meth c (MQ below (QcS Z Rp) args s 0 0 (fun a => Z.2.2.1 < a))) Rp) := by
  unfold w_X12_grantsTo_4
  refine s_iload_n (k := 3) C (by decide +kernel) ?_
  refine s_iconst (n := 5) C (by decide +kernel) (by decide) ?_
  refine s_icmp_ge (off := 44) (tgt := 50) C (by decide +kernel) (by decide) (b_X12_grantsTo_50 C) ?_
  refine s_iload_n (k := 2) C (by decide +kernel) ?_
  refine s_aload_n (k := 0) C (by decide +kernel) ?_
  refine s_iload_n (k := 3) C (by decide +kernel) ?_
  refine s_aload_n (k := 0) C (by decide +kernel) ?_
  refine s_iload_n (k := 1) C (by decide +kernel) ?_
  refine s_iconst (n := 4) C (by decide +kernel) (by decide) ?_
  refine s_fnV C (j2 := jX12_of) (cl := 12) (nf := 27) rfl rfl (by decide +kernel) rfl w_6_220 w_6_222 w_p3_11 w_1_13 w_6_223 (by decide +kernel) (fun _ _ _ _ _ h => f_X12_of h) (fun _ _ _ _ _ h => r_X12_of h) ?_
  refine s_aload_n (k := 0) C (by decide +kernel) ?_
  refine s_iload_n (k := 1) C (by decide +kernel) ?_
  refine s_aload_n (k := 0) C (by decide +kernel) ?_
  refine s_iload_n (k := 1) C (by decide +kernel) ?_
  refine s_iconst (n := 4) C (by decide +kernel) (by decide) ?_
  refine s_fnV C (j2 := jX12_of) (cl := 12) (nf := 27) rfl rfl (by decide +kernel) rfl w_6_220 w_6_222 w_p3_11 w_1_13 w_6_223 (by decide +kernel) (fun _ _ _ _ _ h => f_X12_of h) (fun _ _ _ _ _ h => r_X12_of h) ?_
  refine s_fnV C (j2 := jX12_termAt) (cl := 12) (nf := 27) rfl rfl (by decide +kernel) rfl w_7_23 w_7_25 w_p4_5 w_1_13 w_7_26 (by decide +kernel) (fun _ _ _ _ _ h => f_X12_termAt h) (fun _ _ _ _ _ h => r_X12_termAt h) ?_
  refine s_fnV C (j2 := jX12_isAsFar) (cl := 12) (nf := 27) rfl rfl (by decide +kernel) rfl w_7_188 w_7_190 w_p6_1 w_1_13 w_7_191 (by decide +kernel) (fun _ _ _ _ _ h => f_X12_isAsFar h) (fun _ _ _ _ _ h => r_X12_isAsFar h) ?_
  refine s_if_eq (off := 9) (tgt := 41) C (by decide +kernel) (by decide) (b_X12_grantsTo_41 C) ?_
  refine s_iconst (n := 1) C (by decide +kernel) (by decide) ?_
  refine s_iload_n (k := 3) C (by decide +kernel) ?_
  refine s_ishl C (by decide +kernel) ?_
  exact s_goto (off := 4) (tgt := 42) C (by decide +kernel) (by decide) (b_X12_grantsTo_42 C)
set_option maxRecDepth 20000 in
theorem b_X12_grantsTo_0 {Z : Zt} {d : Nat} {p : Program} {e : Env} {R : Room} {s : State} {m : MethodId} {args : Array Value} {below : List Frame} {meth : Method} {c : Code} {Rp : RT} (C : Cx Z (d + 4) jX12_grantsTo RX12 p R s m args meth c) : Sd Z jX12_grantsTo p e R s m args below meth c (MQ below (QcS Z Rp) args s 0 0 (fun a => Z.2.2.1 < a)) 0 (w_X12_grantsTo_0 (MS Z (d + 4)) (Gw Z 4 p e R s m args below meth c (MQ below (QcS Z Rp) args s 0 0 (fun a => Z.2.2.1 < a))) Rp) := by
  unfold w_X12_grantsTo_0
  refine s_iconst (n := 0) C (by decide +kernel) (by decide) ?_
  refine s_istore_n (k := 2) C (by decide +kernel) ?_
  refine s_iconst (n := 0) C (by decide +kernel) (by decide) ?_
  refine s_istore_n (k := 3) C (by decide +kernel) ?_
  exact (fun _ _ _ _ _ _ h => h)
theorem ms_X12_grantsTo {Z : Zt} {d : Nat} {S : Sh} {μ : Mi} {ρ : Mr} {Rp : RT} (a0 : Nat) (x1 : Int32) (h : ∀ G : Nat → PT, (∀ (L st : List Value) (S : Sh) (q : Nat × Nat) (μ : Mi) (ρ : Mr), w_X12_grantsTo_4 (MS Z (d + 4)) G Rp L st S q μ ρ → G 4 L st S q μ ρ) → w_X12_grantsTo_0 (MS Z (d + 4)) G Rp [.ref a0, .int x1, .null, .null] [] S (0, 0) μ ρ) : MS Z (d + 5) jX12_grantsTo [.ref a0, .int x1] S μ ρ Rp :=
  MS_of [.ref a0, .int x1, .null, .null] (by decide +kernel) rfl rfl (Nat.le_of_ble_eq_true rfl) rfl (fun p e R s m args below meth c C => b_X12_grantsTo_0 C _ _ _ _ _ _ (h _ (b_X12_grantsTo_4 C)))
def F_X12_grantsTo : FT := fun As S μ ρ k => match As with
  | [.ref a, .int s] => a = 2737 ∧ RS S ρ ∧ rg s 0 4 ∧ (∀ s, s < 5 → bsOK (μ 2738) s) ∧ k (some (.int (qGrants (μ 2738) s.toNatClampNeg))) μ
  | _ => False
theorem r_X12_grantsTo {As S μ ρ k} (h : F_X12_grantsTo As S μ ρ k) : ∃ a As', As = Value.ref a :: As' ∧ S.2 a = (12, 27) := by
  unfold F_X12_grantsTo at h
  split at h
  · exact ⟨_, _, rfl, by rw [h.1]; exact h.2.1.1⟩
  · exact h.elim
set_option maxHeartbeats 1000000 in
theorem f_X12_grantsTo {Z : Zt} {d : Nat} {As : List Value} {S : Sh} {μ : Mi} {ρ : Mr} {Rp : RT} (h : F_X12_grantsTo As S μ ρ (fun r μ' => Rp r S μ' ρ)) : MS Z (d + 5) jX12_grantsTo As S μ ρ Rp := by
  unfold F_X12_grantsTo at h
  split at h
  · rename_i a s
    obtain ⟨rfl, hS, h⟩ := h
    have hS0 := hS
    unfold RS at hS
    obtain ⟨h1, h2, h⟩ := h
    obtain ⟨s, rfl, hs0, -, hs⟩ := rg_ex h1
    have hrs := rg_T (lo := 0) (hi := 4) (n := s) (by omega) (by omega) hs0
    simp (disch := omega) only [nI_clamp] at h
    have ks := h2 s (by omega)
    have i4 : (514 : Int32) * nI s + 4 = nI (514 * s + 4) := ixs 4 4 rfl
    have b4 : inb (nI (514 * s + 4)) 13548 := inb_nI (by omega) (by decide)
    refine ms_X12_grantsTo _ _ (fun G g4 => ?_)
    have step : ∀ (o : Nat) (acc : Int32), o < 5 → G 4 [.ref 2737, .int (nI s), .int (gr1 (μ 2738) (μ 2738 (514 * s + 4)) (qTermAt (μ 2738) s (μ 2738 (514 * s + 4))) o acc), .int (nI (o + 1))] [] S (0, 0) μ ρ → G 4 [.ref 2737, .int (nI s), .int acc, .int (nI o)] [] S (0, 0) μ ρ := by
      intro o acc ho hG
      have hro := rg_T (lo := 0) (hi := 4) (n := o) (by omega) (by omega) (by omega)
      have ko := h2 o ho
      refine g4 _ _ _ _ _ _ ?_
      simp only [w_X12_grantsTo_4, w_X12_grantsTo_41, w_X12_grantsTo_42, tAload, tIload, nth, tGetI, tGetR, tConst, tLconst, tBin, tUn, tI2l, tAld, tAldR, tAlen, tIast, tBast, tZast, tAast, tIret, tZret, tVret, tAret, tIf, tIf2, tGoto, tIstore, tAstore, sset, tIinc, tDup, tDup2, tPop, tPutI, tPutZ, tPutR, tCallV, tCallS, popN, tFn, tCopy, tMax, tMin, tSw, swc, tRem, tObjI, Option.toList, List.nil_append, List.cons_append, okR, true_and, and_true, true_or, or_true, Nat.zero_le, ne_eq, not_false_eq_true, Nat.reduceEqDiff, F_X12_of, F_X12_termAt, F_X12_isAsFar, hS0, hrs, hro, i4, b4, b2_z, Decidable.not_not, nI_1]
      simp (disch := omega) only [nI_clamp]
      unfold gr1 at hG
      refine ⟨fun z => absurd z (lt5' o ho), fun _ => ⟨ks.2.1, ks.2.2, ko.2.1, ko.2.2, fun c => ?_, fun c => ?_⟩⟩
      · rw [if_neg c] at hG; exact hG
      · rw [if_pos c] at hG; exact hG
    simp only [w_X12_grantsTo_0, tAload, tIload, nth, tGetI, tGetR, tConst, tLconst, tBin, tUn, tI2l, tAld, tAldR, tAlen, tIast, tBast, tZast, tAast, tIret, tZret, tVret, tAret, tIf, tIf2, tGoto, tIstore, tAstore, sset, tIinc, tDup, tDup2, tPop, tPutI, tPutZ, tPutR, tCallV, tCallS, popN, tFn, tCopy, tMax, tMin, tSw, swc, tRem, tObjI, Option.toList, List.nil_append, List.cons_append, okR, true_and, and_true, true_or, or_true, Nat.zero_le, ne_eq, not_false_eq_true, Nat.reduceEqDiff]
    refine step 0 _ (by decide) (step 1 _ (by decide) (step 2 _ (by decide) (step 3 _ (by decide) (step 4 _ (by decide) ?_))))
    refine g4 _ _ _ _ _ _ ?_
    simp only [w_X12_grantsTo_4, w_X12_grantsTo_50, tAload, tIload, nth, tGetI, tGetR, tConst, tLconst, tBin, tUn, tI2l, tAld, tAldR, tAlen, tIast, tBast, tZast, tAast, tIret, tZret, tVret, tAret, tIf, tIf2, tGoto, tIstore, tAstore, sset, tIinc, tDup, tDup2, tPop, tPutI, tPutZ, tPutR, tCallV, tCallS, popN, tFn, tCopy, tMax, tMin, tSw, swc, tRem, tObjI, Option.toList, List.nil_append, List.cons_append, okR, true_and, and_true, true_or, or_true, Nat.zero_le, ne_eq, not_false_eq_true, Nat.reduceEqDiff]
    exact ⟨fun _ => h, fun z => absurd (by decide) z⟩
  · exact h.elim
theorem good_all {A : Rw} (h : good A) : ∀ s, s < 5 → bsOK A s := fun _ hs => good_bs h hs
def vGrants (A : Rw) (s : Int32) : Int32 := if ¬ rgd s 0 4 then -2 else qGrants A s.toNatClampNeg
def w_X12_grants_22 (M : CT) (G : Nat → PT) (Rp : RT) : PT := tIret Rp
def w_X12_grants_20 (M : CT) (G : Nat → PT) (Rp : RT) : PT := tConst (-2) <| w_X12_grants_22 M G Rp
def w_X12_grants_0 (M : CT) (G : Nat → PT) (Rp : RT) : PT := tAload 0 <| tConst 0 <| tPutI 12 27 0 <| tIload 1 <| tFn 1 F_X12_isStore <| tIf (fun x => x = 0) (w_X12_grants_20 M G Rp) <| tAload 0 <| tIload 1 <| tFn 2 F_X12_grantsTo <| tGoto (w_X12_grants_22 M G Rp)
set_option maxRecDepth 20000 in
theorem b_X12_grants_22 {Z : Zt} {d : Nat} {p : Program} {e : Env} {R : Room} {s : State} {m : MethodId} {args : Array Value} {below : List Frame} {meth : Method} {c : Code} {Rp : RT} (C : Cx Z (d + 5) jX12_grants RX12 p R s m args meth c) : Sd Z jX12_grants p e R s m args below meth c (MQ below (QcS Z Rp) args s 0 0 (fun a => Z.2.2.1 < a)) 22 (w_X12_grants_22 (MS Z (d + 5)) (Gw Z 2 p e R s m args below meth c (MQ below (QcS Z Rp) args s 0 0 (fun a => Z.2.2.1 < a))) Rp) := by
  unfold w_X12_grants_22
  exact s_iret C rfl (by decide +kernel)
set_option maxRecDepth 20000 in
theorem b_X12_grants_20 {Z : Zt} {d : Nat} {p : Program} {e : Env} {R : Room} {s : State} {m : MethodId} {args : Array Value} {below : List Frame} {meth : Method} {c : Code} {Rp : RT} (C : Cx Z (d + 5) jX12_grants RX12 p R s m args meth c) : Sd Z jX12_grants p e R s m args below meth c (MQ below (QcS Z Rp) args s 0 0 (fun a => Z.2.2.1 < a)) 20 (w_X12_grants_20 (MS Z (d + 5)) (Gw Z 2 p e R s m args below meth c (MQ below (QcS Z Rp) args s 0 0 (fun a => Z.2.2.1 < a))) Rp) := by
  unfold w_X12_grants_20
  refine s_bipush (n := (-2)) C (by decide +kernel) (by decide) ?_
  exact (b_X12_grants_22 C)
set_option maxRecDepth 20000 in
theorem b_X12_grants_0 {Z : Zt} {d : Nat} {p : Program} {e : Env} {R : Room} {s : State} {m : MethodId} {args : Array Value} {below : List Frame} {meth : Method} {c : Code} {Rp : RT} (C : Cx Z (d + 5) jX12_grants RX12 p R s m args meth c) : Sd Z jX12_grants p e R s m args below meth c (MQ below (QcS Z Rp) args s 0 0 (fun a => Z.2.2.1 < a)) 0 (w_X12_grants_0 (MS Z (d + 5)) (Gw Z 2 p e R s m args below meth c (MQ below (QcS Z Rp) args s 0 0 (fun a => Z.2.2.1 < a))) Rp) := by
  unfold w_X12_grants_0
  refine s_aload_n (k := 0) C (by decide +kernel) ?_
  refine s_iconst (n := 0) C (by decide +kernel) (by decide) ?_
  refine s_putI C w_6_87 (by decide +kernel) rfl (Or.inl rfl) ?_
  refine s_iload_n (k := 1) C (by decide +kernel) ?_
  refine s_fnS C (j2 := jX12_isStore) (by decide +kernel) rfl w_6_208 w_6_209 w_1_13 w_6_210 (by decide +kernel) (fun _ _ _ _ _ h => f_X12_isStore h) ?_
  refine s_if_eq (off := 11) (tgt := 20) C (by decide +kernel) (by decide) (b_X12_grants_20 C) ?_
  refine s_aload_n (k := 0) C (by decide +kernel) ?_
  refine s_iload_n (k := 1) C (by decide +kernel) ?_
  refine s_fnV C (j2 := jX12_grantsTo) (cl := 12) (nf := 27) rfl rfl (by decide +kernel) rfl w_8_144 w_8_146 w_p7_15 w_1_13 w_8_147 (by decide +kernel) (fun _ _ _ _ _ h => f_X12_grantsTo h) (fun _ _ _ _ _ h => r_X12_grantsTo h) ?_
  exact s_goto (off := 5) (tgt := 22) C (by decide +kernel) (by decide) (b_X12_grants_22 C)
theorem ms_X12_grants {Z : Zt} {d : Nat} {S : Sh} {μ : Mi} {ρ : Mr} {Rp : RT} (a0 : Nat) (x1 : Int32) (h : ∀ G : Nat → PT, w_X12_grants_0 (MS Z (d + 5)) G Rp [.ref a0, .int x1] [] S (0, 0) μ ρ) : MS Z (d + 6) jX12_grants [.ref a0, .int x1] S μ ρ Rp :=
  MS_of [.ref a0, .int x1] (by decide +kernel) rfl rfl (Nat.le_of_ble_eq_true rfl) rfl (fun p e R s m args below meth c C => b_X12_grants_0 C _ _ _ _ _ _ (h _ ))
def F_X12_grants : FT := fun As S μ ρ k => match As with
  | [.ref a, .int s] => a = 2737 ∧ RS S ρ ∧ good (μ 2738) ∧ ∀ μ', RQ μ μ' (μ 2738) (μ 2739) (μ 2737 6) → k (some (.int (vGrants (μ 2738) s))) μ'
  | _ => False
theorem r_X12_grants {As S μ ρ k} (h : F_X12_grants As S μ ρ k) : ∃ a As', As = Value.ref a :: As' ∧ S.2 a = (12, 27) := by
  unfold F_X12_grants at h
  split at h
  · exact ⟨_, _, rfl, by rw [h.1]; exact h.2.1.1⟩
  · exact h.elim
set_option maxHeartbeats 1000000 in
theorem f_X12_grants {Z : Zt} {d : Nat} {As : List Value} {S : Sh} {μ : Mi} {ρ : Mr} {Rp : RT} (h : F_X12_grants As S μ ρ (fun r μ' => Rp r S μ' ρ)) : MS Z (d + 6) jX12_grants As S μ ρ Rp := by
  unfold F_X12_grants at h
  split at h
  · rename_i a s
    obtain ⟨rfl, hS, h⟩ := h
    have hS0 := hS
    unfold RS at hS
    obtain ⟨hg, h⟩ := h
    have hq := h _ RQ_0
    unfold vGrants at hq
    refine ms_X12_grants _ _ (fun G => ?_)
    simp only [w_X12_grants_0, w_X12_grants_20, w_X12_grants_22, tAload, tIload, nth, tGetI, tGetR, tConst, tLconst, tBin, tUn, tI2l, tAld, tAldR, tAlen, tIast, tBast, tZast, tAast, tIret, tZret, tVret, tAret, tIf, tIf2, tGoto, tIstore, tAstore, sset, tIinc, tDup, tDup2, tPop, tPutI, tPutZ, tPutR, tCallV, tCallS, popN, tFn, tCopy, tMax, tMin, tSw, swc, tRem, tObjI, Option.toList, List.nil_append, List.cons_append, okR, true_and, and_true, true_or, or_true, Nat.zero_le, ne_eq, not_false_eq_true, Nat.reduceEqDiff, F_X12_isStore, F_X12_grantsTo, hS0, hS, e6, M6_row, b2_z, Decidable.not_not]
    refine ⟨fun c => ?_, fun c => ⟨c, good_all hg, ?_⟩⟩
    · rw [if_pos c] at hq; exact hq
    · rw [if_neg (not_not_intro c)] at hq; exact hq
  · exact h.elim
def up1 (A : Rw) (o : Nat) (acc : Int32) : Int32 := acc ||| (if A (514 * o) = 1 then (1 : Int32) <<< (nI o &&& 31) else 0)
def qUps (A : Rw) : Int32 := up1 A 4 (up1 A 3 (up1 A 2 (up1 A 1 (up1 A 0 0))))
def w_X12_upOnes_33 (M : CT) (G : Nat → PT) (Rp : RT) : PT := tIload 1 <| tIret Rp
def w_X12_upOnes_25 (M : CT) (G : Nat → PT) (Rp : RT) : PT := tBin (fun x y => x ||| y) <| tIstore 1 <| tIinc 2 1 <| tGoto (G 4)
def w_X12_upOnes_24 (M : CT) (G : Nat → PT) (Rp : RT) : PT := tConst 0 <| w_X12_upOnes_25 M G Rp
def w_X12_upOnes_4 (M : CT) (G : Nat → PT) (Rp : RT) : PT := tIload 2 <| tConst 5 <| tIf2 (fun x y => y ≤ x) (w_X12_upOnes_33 M G Rp) <| tIload 1 <| tAload 0 <| tIload 2 <| tFn 2 F_X12_isUp <| tIf (fun x => x = 0) (w_X12_upOnes_24 M G Rp) <| tConst 1 <| tIload 2 <| tBin (fun x y => x <<< (y &&& 31)) <| tGoto (w_X12_upOnes_25 M G Rp)
def w_X12_upOnes_0 (M : CT) (G : Nat → PT) (Rp : RT) : PT := tConst 0 <| tIstore 1 <| tConst 0 <| tIstore 2 <| G 4
set_option maxRecDepth 20000 in
theorem b_X12_upOnes_33 {Z : Zt} {d : Nat} {p : Program} {e : Env} {R : Room} {s : State} {m : MethodId} {args : Array Value} {below : List Frame} {meth : Method} {c : Code} {Rp : RT} (C : Cx Z (d + 2) jX12_upOnes RX12 p R s m args meth c) : Sd Z jX12_upOnes p e R s m args below meth c (MQ below (QcS Z Rp) args s 0 0 (fun a => Z.2.2.1 < a)) 33 (w_X12_upOnes_33 (MS Z (d + 2)) (Gw Z 3 p e R s m args below meth c (MQ below (QcS Z Rp) args s 0 0 (fun a => Z.2.2.1 < a))) Rp) := by
  unfold w_X12_upOnes_33
  refine s_iload_n (k := 1) C (by decide +kernel) ?_
  exact s_iret C rfl (by decide +kernel)
set_option maxRecDepth 20000 in
theorem b_X12_upOnes_25 {Z : Zt} {d : Nat} {p : Program} {e : Env} {R : Room} {s : State} {m : MethodId} {args : Array Value} {below : List Frame} {meth : Method} {c : Code} {Rp : RT} (C : Cx Z (d + 2) jX12_upOnes RX12 p R s m args meth c) : Sd Z jX12_upOnes p e R s m args below meth c (MQ below (QcS Z Rp) args s 0 0 (fun a => Z.2.2.1 < a)) 25 (w_X12_upOnes_25 (MS Z (d + 2)) (Gw Z 3 p e R s m args below meth c (MQ below (QcS Z Rp) args s 0 0 (fun a => Z.2.2.1 < a))) Rp) := by
  unfold w_X12_upOnes_25
  refine s_ior C (by decide +kernel) ?_
  refine s_istore_n (k := 1) C (by decide +kernel) ?_
  refine s_iinc (n := 1) C (by decide +kernel) (by decide) ?_
  exact s_goto (off := (-26)) (tgt := 4) C (by decide +kernel) (by decide) (fun _ _ _ _ _ _ h => h)
set_option maxRecDepth 20000 in
theorem b_X12_upOnes_24 {Z : Zt} {d : Nat} {p : Program} {e : Env} {R : Room} {s : State} {m : MethodId} {args : Array Value} {below : List Frame} {meth : Method} {c : Code} {Rp : RT} (C : Cx Z (d + 2) jX12_upOnes RX12 p R s m args meth c) : Sd Z jX12_upOnes p e R s m args below meth c (MQ below (QcS Z Rp) args s 0 0 (fun a => Z.2.2.1 < a)) 24 (w_X12_upOnes_24 (MS Z (d + 2)) (Gw Z 3 p e R s m args below meth c (MQ below (QcS Z Rp) args s 0 0 (fun a => Z.2.2.1 < a))) Rp) := by
  unfold w_X12_upOnes_24
  refine s_iconst (n := 0) C (by decide +kernel) (by decide) ?_
  exact (b_X12_upOnes_25 C)
set_option maxRecDepth 20000 in
theorem b_X12_upOnes_4 {Z : Zt} {d : Nat} {p : Program} {e : Env} {R : Room} {s : State} {m : MethodId} {args : Array Value} {below : List Frame} {meth : Method} {c : Code} {Rp : RT} (C : Cx Z (d + 2) jX12_upOnes RX12 p R s m args meth c) : Sd Z jX12_upOnes p e R s m args below meth c (MQ below (QcS Z Rp) args s 0 0 (fun a => Z.2.2.1 < a)) 4 (w_X12_upOnes_4 (MS Z (d + 2)) (Gw Z 3 p e R s m args below meth c (MQ below (QcS Z Rp) args s 0 0 (fun a => Z.2.2.1 < a))) Rp) := by
  unfold w_X12_upOnes_4
  refine s_iload_n (k := 2) C (by decide +kernel) ?_
  refine s_iconst (n := 5) C (by decide +kernel) (by decide) ?_
  refine s_icmp_ge (off := 27) (tgt := 33) C (by decide +kernel) (by decide) (b_X12_upOnes_33 C) ?_
  refine s_iload_n (k := 1) C (by decide +kernel) ?_
  refine s_aload_n (k := 0) C (by decide +kernel) ?_
  refine s_iload_n (k := 2) C (by decide +kernel) ?_
  refine s_fnV C (j2 := jX12_isUp) (cl := 12) (nf := 27) rfl rfl (by decide +kernel) rfl w_6_232 w_6_234 w_p3_14 w_1_13 w_6_235 (by decide +kernel) (fun _ _ _ _ _ h => f_X12_isUp h) (fun _ _ _ _ _ h => r_X12_isUp h) ?_
  refine s_if_eq (off := 9) (tgt := 24) C (by decide +kernel) (by decide) (b_X12_upOnes_24 C) ?_
  refine s_iconst (n := 1) C (by decide +kernel) (by decide) ?_
  refine s_iload_n (k := 2) C (by decide +kernel) ?_
  refine s_ishl C (by decide +kernel) ?_
  exact s_goto (off := 4) (tgt := 25) C (by decide +kernel) (by decide) (b_X12_upOnes_25 C)
set_option maxRecDepth 20000 in
theorem b_X12_upOnes_0 {Z : Zt} {d : Nat} {p : Program} {e : Env} {R : Room} {s : State} {m : MethodId} {args : Array Value} {below : List Frame} {meth : Method} {c : Code} {Rp : RT} (C : Cx Z (d + 2) jX12_upOnes RX12 p R s m args meth c) : Sd Z jX12_upOnes p e R s m args below meth c (MQ below (QcS Z Rp) args s 0 0 (fun a => Z.2.2.1 < a)) 0 (w_X12_upOnes_0 (MS Z (d + 2)) (Gw Z 3 p e R s m args below meth c (MQ below (QcS Z Rp) args s 0 0 (fun a => Z.2.2.1 < a))) Rp) := by
  unfold w_X12_upOnes_0
  refine s_iconst (n := 0) C (by decide +kernel) (by decide) ?_
  refine s_istore_n (k := 1) C (by decide +kernel) ?_
  refine s_iconst (n := 0) C (by decide +kernel) (by decide) ?_
  refine s_istore_n (k := 2) C (by decide +kernel) ?_
  exact (fun _ _ _ _ _ _ h => h)
theorem ms_X12_upOnes {Z : Zt} {d : Nat} {S : Sh} {μ : Mi} {ρ : Mr} {Rp : RT} (a0 : Nat) (h : ∀ G : Nat → PT, (∀ (L st : List Value) (S : Sh) (q : Nat × Nat) (μ : Mi) (ρ : Mr), w_X12_upOnes_4 (MS Z (d + 2)) G Rp L st S q μ ρ → G 4 L st S q μ ρ) → w_X12_upOnes_0 (MS Z (d + 2)) G Rp [.ref a0, .null, .null] [] S (0, 0) μ ρ) : MS Z (d + 3) jX12_upOnes [.ref a0] S μ ρ Rp :=
  MS_of [.ref a0, .null, .null] (by decide +kernel) rfl rfl (Nat.le_of_ble_eq_true rfl) rfl (fun p e R s m args below meth c C => b_X12_upOnes_0 C _ _ _ _ _ _ (h _ (b_X12_upOnes_4 C)))
def F_X12_upOnes : FT := fun As S μ ρ k => match As with
  | [.ref a] => a = 2737 ∧ RS S ρ ∧ k (some (.int (qUps (μ 2738)))) μ
  | _ => False
theorem r_X12_upOnes {As S μ ρ k} (h : F_X12_upOnes As S μ ρ k) : ∃ a As', As = Value.ref a :: As' ∧ S.2 a = (12, 27) := by
  unfold F_X12_upOnes at h
  split at h
  · exact ⟨_, _, rfl, by rw [h.1]; exact h.2.1.1⟩
  · exact h.elim
set_option maxHeartbeats 1000000 in
theorem f_X12_upOnes {Z : Zt} {d : Nat} {As : List Value} {S : Sh} {μ : Mi} {ρ : Mr} {Rp : RT} (h : F_X12_upOnes As S μ ρ (fun r μ' => Rp r S μ' ρ)) : MS Z (d + 3) jX12_upOnes As S μ ρ Rp := by
  unfold F_X12_upOnes at h
  split at h
  · rename_i a
    obtain ⟨rfl, hS, h⟩ := h
    have hS0 := hS
    unfold RS at hS
    refine ms_X12_upOnes _ (fun G g4 => ?_)
    have step : ∀ (o : Nat) (acc : Int32), o < 5 → G 4 [.ref 2737, .int (up1 (μ 2738) o acc), .int (nI (o + 1))] [] S (0, 0) μ ρ → G 4 [.ref 2737, .int acc, .int (nI o)] [] S (0, 0) μ ρ := by
      intro o acc ho hG
      have hro := rg_T (lo := 0) (hi := 4) (n := o) (by omega) (by omega) (by omega)
      refine g4 _ _ _ _ _ _ ?_
      simp only [w_X12_upOnes_4, w_X12_upOnes_24, w_X12_upOnes_25, tAload, tIload, nth, tGetI, tGetR, tConst, tLconst, tBin, tUn, tI2l, tAld, tAldR, tAlen, tIast, tBast, tZast, tAast, tIret, tZret, tVret, tAret, tIf, tIf2, tGoto, tIstore, tAstore, sset, tIinc, tDup, tDup2, tPop, tPutI, tPutZ, tPutR, tCallV, tCallS, popN, tFn, tCopy, tMax, tMin, tSw, swc, tRem, tObjI, Option.toList, List.nil_append, List.cons_append, okR, true_and, and_true, true_or, or_true, Nat.zero_le, ne_eq, not_false_eq_true, Nat.reduceEqDiff, F_X12_isUp, hS0, hro, b2_z, Decidable.not_not, nI_1]
      simp (disch := omega) only [nI_clamp]
      unfold up1 at hG
      refine ⟨fun z => absurd z (lt5' o ho), fun _ => ⟨fun c => ?_, fun c => ?_⟩⟩
      · rw [if_neg c] at hG; exact hG
      · rw [if_pos c] at hG; exact hG
    simp only [w_X12_upOnes_0, tAload, tIload, nth, tGetI, tGetR, tConst, tLconst, tBin, tUn, tI2l, tAld, tAldR, tAlen, tIast, tBast, tZast, tAast, tIret, tZret, tVret, tAret, tIf, tIf2, tGoto, tIstore, tAstore, sset, tIinc, tDup, tDup2, tPop, tPutI, tPutZ, tPutR, tCallV, tCallS, popN, tFn, tCopy, tMax, tMin, tSw, swc, tRem, tObjI, Option.toList, List.nil_append, List.cons_append, okR, true_and, and_true, true_or, or_true, Nat.zero_le, ne_eq, not_false_eq_true, Nat.reduceEqDiff]
    refine step 0 _ (by decide) (step 1 _ (by decide) (step 2 _ (by decide) (step 3 _ (by decide) (step 4 _ (by decide) ?_))))
    refine g4 _ _ _ _ _ _ ?_
    simp only [w_X12_upOnes_4, w_X12_upOnes_33, tAload, tIload, nth, tGetI, tGetR, tConst, tLconst, tBin, tUn, tI2l, tAld, tAldR, tAlen, tIast, tBast, tZast, tAast, tIret, tZret, tVret, tAret, tIf, tIf2, tGoto, tIstore, tAstore, sset, tIinc, tDup, tDup2, tPop, tPutI, tPutZ, tPutR, tCallV, tCallS, popN, tFn, tCopy, tMax, tMin, tSw, swc, tRem, tObjI, Option.toList, List.nil_append, List.cons_append, okR, true_and, and_true, true_or, or_true, Nat.zero_le, ne_eq, not_false_eq_true, Nat.reduceEqDiff]
    exact ⟨fun _ => h, fun z => absurd (by decide) z⟩
  · exact h.elim
def el1 (A : Rw) (s o : Nat) (acc : Int32) : Int32 := if ¬ o = s ∧ ¬ (A 4513 >>> ((5 * nI s + nI o) &&& 31)) &&& 1 = 1 then acc &&& ((1 : Int32) <<< (nI o &&& 31) ^^^ (-1)) else acc
def elS (A : Rw) (s : Nat) (ups : Int32) : Int32 := el1 A s 4 (el1 A s 3 (el1 A s 2 (el1 A s 1 (el1 A s 0 (qGrants A s &&& ups)))))
abbrev qElect (A : Rw) (s : Nat) (ups : Int32) : Prop := (ups >>> (nI s &&& 31)) &&& 1 = 1 ∧ (((qMem A s).1 ||| (qMem A s).2.1) >>> (nI s &&& 31)) &&& 1 = 1 ∧ (cnt5 (qMem A s).1 < 2 * cnt5 (elS A s ups &&& (qMem A s).1) ∧ ((qMem A s).2.1 = 0 ∨ cnt5 (qMem A s).2.1 < 2 * cnt5 (elS A s ups &&& (qMem A s).2.1)))
def w_X12_isElectable_92 (M : CT) (G : Nat → PT) (Rp : RT) : PT := tZret Rp
def w_X12_isElectable_91 (M : CT) (G : Nat → PT) (Rp : RT) : PT := tConst 0 <| w_X12_isElectable_92 M G Rp
def w_X12_isElectable_58 (M : CT) (G : Nat → PT) (Rp : RT) : PT := tAload 0 <| tIload 1 <| tFn 2 F_X12_laysMembers <| tAload 0 <| tGetI 12 27 8 <| tAload 0 <| tGetI 12 27 9 <| tBin (fun x y => x ||| y) <| tIload 1 <| tFn 2 F_X12_has <| tIf (fun x => x = 0) (w_X12_isElectable_91 M G Rp) <| tAload 0 <| tIload 3 <| tFn 2 F_X12_isMajority <| tIf (fun x => x = 0) (w_X12_isElectable_91 M G Rp) <| tConst 1 <| tGoto (w_X12_isElectable_92 M G Rp)
def w_X12_isElectable_52 (M : CT) (G : Nat → PT) (Rp : RT) : PT := tIinc 4 1 <| tGoto (G 21)
def w_X12_isElectable_21 (M : CT) (G : Nat → PT) (Rp : RT) : PT := tIload 4 <| tConst 5 <| tIf2 (fun x y => y ≤ x) (w_X12_isElectable_58 M G Rp) <| tIload 4 <| tIload 1 <| tIf2 (fun x y => x = y) (w_X12_isElectable_52 M G Rp) <| tAload 0 <| tIload 1 <| tIload 4 <| tFn 3 F_X12_isLinked <| tIf (fun x => x ≠ 0) (w_X12_isElectable_52 M G Rp) <| tIload 3 <| tConst 1 <| tIload 4 <| tBin (fun x y => x <<< (y &&& 31)) <| tConst (-1) <| tBin (fun x y => x ^^^ y) <| tBin (fun x y => x &&& y) <| tIstore 3 <| w_X12_isElectable_52 M G Rp
def w_X12_isElectable_10 (M : CT) (G : Nat → PT) (Rp : RT) : PT := tAload 0 <| tIload 1 <| tFn 2 F_X12_grantsTo <| tIload 2 <| tBin (fun x y => x &&& y) <| tIstore 3 <| tConst 0 <| tIstore 4 <| G 21
def w_X12_isElectable_0 (M : CT) (G : Nat → PT) (Rp : RT) : PT := tIload 2 <| tIload 1 <| tFn 2 F_X12_has <| tIf (fun x => x ≠ 0) (w_X12_isElectable_10 M G Rp) <| tConst 0 <| tZret Rp
set_option maxRecDepth 20000 in
theorem b_X12_isElectable_92 {Z : Zt} {d : Nat} {p : Program} {e : Env} {R : Room} {s : State} {m : MethodId} {args : Array Value} {below : List Frame} {meth : Method} {c : Code} {Rp : RT} (C : Cx Z (d + 5) jX12_isElectable RX12 p R s m args meth c) : Sd Z jX12_isElectable p e R s m args below meth c (MQ below (QcS Z Rp) args s 0 0 (fun a => Z.2.2.1 < a)) 92 (w_X12_isElectable_92 (MS Z (d + 5)) (Gw Z 5 p e R s m args below meth c (MQ below (QcS Z Rp) args s 0 0 (fun a => Z.2.2.1 < a))) Rp) := by
  unfold w_X12_isElectable_92
  exact s_zret C rfl (by decide +kernel)
set_option maxRecDepth 20000 in
theorem b_X12_isElectable_91 {Z : Zt} {d : Nat} {p : Program} {e : Env} {R : Room} {s : State} {m : MethodId} {args : Array Value} {below : List Frame} {meth : Method} {c : Code} {Rp : RT} (C : Cx Z (d + 5) jX12_isElectable RX12 p R s m args meth c) : Sd Z jX12_isElectable p e R s m args below meth c (MQ below (QcS Z Rp) args s 0 0 (fun a => Z.2.2.1 < a)) 91 (w_X12_isElectable_91 (MS Z (d + 5)) (Gw Z 5 p e R s m args below meth c (MQ below (QcS Z Rp) args s 0 0 (fun a => Z.2.2.1 < a))) Rp) := by
  unfold w_X12_isElectable_91
  refine s_iconst (n := 0) C (by decide +kernel) (by decide) ?_
  exact (b_X12_isElectable_92 C)
set_option maxRecDepth 20000 in
theorem b_X12_isElectable_58 {Z : Zt} {d : Nat} {p : Program} {e : Env} {R : Room} {s : State} {m : MethodId} {args : Array Value} {below : List Frame} {meth : Method} {c : Code} {Rp : RT} (C : Cx Z (d + 5) jX12_isElectable RX12 p R s m args meth c) : Sd Z jX12_isElectable p e R s m args below meth c (MQ below (QcS Z Rp) args s 0 0 (fun a => Z.2.2.1 < a)) 58 (w_X12_isElectable_58 (MS Z (d + 5)) (Gw Z 5 p e R s m args below meth c (MQ below (QcS Z Rp) args s 0 0 (fun a => Z.2.2.1 < a))) Rp) := by
  unfold w_X12_isElectable_58
  refine s_aload_n (k := 0) C (by decide +kernel) ?_
  refine s_iload_n (k := 1) C (by decide +kernel) ?_
  refine s_fnV C (j2 := jX12_laysMembers) (cl := 12) (nf := 27) rfl rfl (by decide +kernel) rfl w_6_216 w_6_218 w_p3_10 w_1_13 w_6_219 (by decide +kernel) (fun _ _ _ _ _ h => f_X12_laysMembers h) (fun _ _ _ _ _ h => r_X12_laysMembers h) ?_
  refine s_aload_n (k := 0) C (by decide +kernel) ?_
  refine s_getI C w_6_95 (by decide +kernel) rfl ?_
  refine s_aload_n (k := 0) C (by decide +kernel) ?_
  refine s_getI C w_6_96 (by decide +kernel) rfl ?_
  refine s_ior C (by decide +kernel) ?_
  refine s_iload_n (k := 1) C (by decide +kernel) ?_
  refine s_fnS C (j2 := jX12_has) (by decide +kernel) rfl w_7_0 w_7_1 w_1_13 w_7_2 (by decide +kernel) (fun _ _ _ _ _ h => f_X12_has h) ?_
  refine s_if_eq (off := 15) (tgt := 91) C (by decide +kernel) (by decide) (b_X12_isElectable_91 C) ?_
  refine s_aload_n (k := 0) C (by decide +kernel) ?_
  refine s_iload_n (k := 3) C (by decide +kernel) ?_
  refine s_fnV C (j2 := jX12_isMajority) (cl := 12) (nf := 27) rfl rfl (by decide +kernel) rfl w_7_35 w_7_37 w_p4_8 w_1_13 w_7_38 (by decide +kernel) (fun _ _ _ _ _ h => f_X12_isMajority h) (fun _ _ _ _ _ h => r_X12_isMajority h) ?_
  refine s_if_eq (off := 7) (tgt := 91) C (by decide +kernel) (by decide) (b_X12_isElectable_91 C) ?_
  refine s_iconst (n := 1) C (by decide +kernel) (by decide) ?_
  exact s_goto (off := 4) (tgt := 92) C (by decide +kernel) (by decide) (b_X12_isElectable_92 C)
set_option maxRecDepth 20000 in
theorem b_X12_isElectable_52 {Z : Zt} {d : Nat} {p : Program} {e : Env} {R : Room} {s : State} {m : MethodId} {args : Array Value} {below : List Frame} {meth : Method} {c : Code} {Rp : RT} (C : Cx Z (d + 5) jX12_isElectable RX12 p R s m args meth c) : Sd Z jX12_isElectable p e R s m args below meth c (MQ below (QcS Z Rp) args s 0 0 (fun a => Z.2.2.1 < a)) 52 (w_X12_isElectable_52 (MS Z (d + 5)) (Gw Z 5 p e R s m args below meth c (MQ below (QcS Z Rp) args s 0 0 (fun a => Z.2.2.1 < a))) Rp) := by
  unfold w_X12_isElectable_52
  refine s_iinc (n := 1) C (by decide +kernel) (by decide) ?_
  exact s_goto (off := (-34)) (tgt := 21) C (by decide +kernel) (by decide) (fun _ _ _ _ _ _ h => h)
set_option maxRecDepth 20000 in
theorem b_X12_isElectable_21 {Z : Zt} {d : Nat} {p : Program} {e : Env} {R : Room} {s : State} {m : MethodId} {args : Array Value} {below : List Frame} {meth : Method} {c : Code} {Rp : RT} (C : Cx Z (d + 5) jX12_isElectable RX12 p R s m args meth c) : Sd Z jX12_isElectable p e R s m args below meth c (MQ below (QcS Z Rp) args s 0 0 (fun a => Z.2.2.1 < a)) 21 (w_X12_isElectable_21 (MS Z (d + 5)) (Gw Z 5 p e R s m args below meth c (MQ below (QcS Z Rp) args s 0 0 (fun a => Z.2.2.1 < a))) Rp) := by
  unfold w_X12_isElectable_21
  refine s_iload (k := 4) C (by decide +kernel) ?_
  refine s_iconst (n := 5) C (by decide +kernel) (by decide) ?_
  refine s_icmp_ge (off := 34) (tgt := 58) C (by decide +kernel) (by decide) (b_X12_isElectable_58 C) ?_
  refine s_iload (k := 4) C (by decide +kernel) ?_
  refine s_iload_n (k := 1) C (by decide +kernel) ?_
  refine s_icmp_eq (off := 22) (tgt := 52) C (by decide +kernel) (by decide) (b_X12_isElectable_52 C) ?_
  refine s_aload_n (k := 0) C (by decide +kernel) ?_
  refine s_iload_n (k := 1) C (by decide +kernel) ?_
  refine s_iload (k := 4) C (by decide +kernel) ?_
  refine s_fnV C (j2 := jX12_isLinked) (cl := 12) (nf := 27) rfl rfl (by decide +kernel) rfl w_7_31 w_7_33 w_p4_7 w_1_13 w_7_34 (by decide +kernel) (fun _ _ _ _ _ h => f_X12_isLinked h) (fun _ _ _ _ _ h => r_X12_isLinked h) ?_
  refine s_if_ne (off := 12) (tgt := 52) C (by decide +kernel) (by decide) (b_X12_isElectable_52 C) ?_
  refine s_iload_n (k := 3) C (by decide +kernel) ?_
  refine s_iconst (n := 1) C (by decide +kernel) (by decide) ?_
  refine s_iload (k := 4) C (by decide +kernel) ?_
  refine s_ishl C (by decide +kernel) ?_
  refine s_iconst (n := (-1)) C (by decide +kernel) (by decide) ?_
  refine s_ixor C (by decide +kernel) ?_
  refine s_iand C (by decide +kernel) ?_
  refine s_istore_n (k := 3) C (by decide +kernel) ?_
  exact (b_X12_isElectable_52 C)
set_option maxRecDepth 20000 in
theorem b_X12_isElectable_10 {Z : Zt} {d : Nat} {p : Program} {e : Env} {R : Room} {s : State} {m : MethodId} {args : Array Value} {below : List Frame} {meth : Method} {c : Code} {Rp : RT} (C : Cx Z (d + 5) jX12_isElectable RX12 p R s m args meth c) : Sd Z jX12_isElectable p e R s m args below meth c (MQ below (QcS Z Rp) args s 0 0 (fun a => Z.2.2.1 < a)) 10 (w_X12_isElectable_10 (MS Z (d + 5)) (Gw Z 5 p e R s m args below meth c (MQ below (QcS Z Rp) args s 0 0 (fun a => Z.2.2.1 < a))) Rp) := by
  unfold w_X12_isElectable_10
  refine s_aload_n (k := 0) C (by decide +kernel) ?_
  refine s_iload_n (k := 1) C (by decide +kernel) ?_
  refine s_fnV C (j2 := jX12_grantsTo) (cl := 12) (nf := 27) rfl rfl (by decide +kernel) rfl w_8_144 w_8_146 w_p7_15 w_1_13 w_8_147 (by decide +kernel) (fun _ _ _ _ _ h => f_X12_grantsTo h) (fun _ _ _ _ _ h => r_X12_grantsTo h) ?_
  refine s_iload_n (k := 2) C (by decide +kernel) ?_
  refine s_iand C (by decide +kernel) ?_
  refine s_istore_n (k := 3) C (by decide +kernel) ?_
  refine s_iconst (n := 0) C (by decide +kernel) (by decide) ?_
  refine s_istore (k := 4) C (by decide +kernel) ?_
  exact (fun _ _ _ _ _ _ h => h)
set_option maxRecDepth 20000 in
theorem b_X12_isElectable_0 {Z : Zt} {d : Nat} {p : Program} {e : Env} {R : Room} {s : State} {m : MethodId} {args : Array Value} {below : List Frame} {meth : Method} {c : Code} {Rp : RT} (C : Cx Z (d + 5) jX12_isElectable RX12 p R s m args meth c) : Sd Z jX12_isElectable p e R s m args below meth c (MQ below (QcS Z Rp) args s 0 0 (fun a => Z.2.2.1 < a)) 0 (w_X12_isElectable_0 (MS Z (d + 5)) (Gw Z 5 p e R s m args below meth c (MQ below (QcS Z Rp) args s 0 0 (fun a => Z.2.2.1 < a))) Rp) := by
  unfold w_X12_isElectable_0
  refine s_iload_n (k := 2) C (by decide +kernel) ?_
  refine s_iload_n (k := 1) C (by decide +kernel) ?_
  refine s_fnS C (j2 := jX12_has) (by decide +kernel) rfl w_7_0 w_7_1 w_1_13 w_7_2 (by decide +kernel) (fun _ _ _ _ _ h => f_X12_has h) ?_
  refine s_if_ne (off := 5) (tgt := 10) C (by decide +kernel) (by decide) (b_X12_isElectable_10 C) ?_
  refine s_iconst (n := 0) C (by decide +kernel) (by decide) ?_
  exact s_zret C rfl (by decide +kernel)
theorem ms_X12_isElectable {Z : Zt} {d : Nat} {S : Sh} {μ : Mi} {ρ : Mr} {Rp : RT} (a0 : Nat) (x1 : Int32) (x2 : Int32) (h : ∀ G : Nat → PT, (∀ (L st : List Value) (S : Sh) (q : Nat × Nat) (μ : Mi) (ρ : Mr), w_X12_isElectable_21 (MS Z (d + 5)) G Rp L st S q μ ρ → G 21 L st S q μ ρ) → w_X12_isElectable_0 (MS Z (d + 5)) G Rp [.ref a0, .int x1, .int x2, .null, .null] [] S (0, 0) μ ρ) : MS Z (d + 6) jX12_isElectable [.ref a0, .int x1, .int x2] S μ ρ Rp :=
  MS_of [.ref a0, .int x1, .int x2, .null, .null] (by decide +kernel) rfl rfl (Nat.le_of_ble_eq_true rfl) rfl (fun p e R s m args below meth c C => b_X12_isElectable_0 C _ _ _ _ _ _ (h _ (b_X12_isElectable_21 C)))
def F_X12_isElectable : FT := fun As S μ ρ k => match As with
  | [.ref a, .int s, .int u] => a = 2737 ∧ RS S ρ ∧ rg s 0 4 ∧ (∀ s, s < 5 → bsOK (μ 2738) s) ∧ ∀ t : T4, k (some (.int (b2 (qElect (μ 2738) s.toNatClampNeg u)))) (M3 μ t (μ 2738))
  | _ => False
theorem r_X12_isElectable {As S μ ρ k} (h : F_X12_isElectable As S μ ρ k) : ∃ a As', As = Value.ref a :: As' ∧ S.2 a = (12, 27) := by
  unfold F_X12_isElectable at h
  split at h
  · exact ⟨_, _, rfl, by rw [h.1]; exact h.2.1.1⟩
  · exact h.elim
set_option maxHeartbeats 1000000 in
theorem f_X12_isElectable {Z : Zt} {d : Nat} {As : List Value} {S : Sh} {μ : Mi} {ρ : Mr} {Rp : RT} (h : F_X12_isElectable As S μ ρ (fun r μ' => Rp r S μ' ρ)) : MS Z (d + 6) jX12_isElectable As S μ ρ Rp := by
  unfold F_X12_isElectable at h
  split at h
  · rename_i a s u
    obtain ⟨rfl, hS, h⟩ := h
    have hS0 := hS
    unfold RS at hS
    obtain ⟨h1, h2, h⟩ := h
    obtain ⟨s, rfl, hs0, -, hs⟩ := rg_ex h1
    have hrs := rg_T (lo := 0) (hi := 4) (n := s) (by omega) (by omega) hs0
    simp (disch := omega) only [nI_clamp] at h
    have ks := h2 s (by omega)
    obtain ⟨t0, ht0⟩ := M3_self μ
    rw [ht0]
    generalize hA : μ 2738 = A at *
    refine ms_X12_isElectable _ _ _ (fun G g21 => ?_)
    have no : ¬ qElect A s u → ∀ t : T4, Rp (some (.int 0)) S (M3 μ t A) ρ := by
      intro c t
      have := h t
      unfold b2 at this
      rw [if_neg c] at this
      exact this
    simp only [w_X12_isElectable_0, w_X12_isElectable_10, tAload, tIload, nth, tGetI, tGetR, tConst, tLconst, tBin, tUn, tI2l, tAld, tAldR, tAlen, tIast, tBast, tZast, tAast, tIret, tZret, tVret, tAret, tIf, tIf2, tGoto, tIstore, tAstore, sset, tIinc, tDup, tDup2, tPop, tPutI, tPutZ, tPutR, tCallV, tCallS, popN, tFn, tCopy, tMax, tMin, tSw, swc, tRem, tObjI, Option.toList, List.nil_append, List.cons_append, okR, true_and, and_true, true_or, or_true, Nat.zero_le, ne_eq, not_false_eq_true, Nat.reduceEqDiff, F_X12_has, F_X12_grantsTo, hS0, hrs, M3_row, b2_z, Decidable.not_not]
    simp (disch := omega) only [nI_clamp]
    refine ⟨fun c1 => ⟨h2, ?_⟩, fun c1 => no (fun z => c1 z.1) t0⟩
    have step : ∀ (o : Nat) (acc : Int32), o < 5 → G 21 [.ref 2737, .int (nI s), .int u, .int (el1 A s o acc), .int (nI (o + 1))] [] S (0, 0) (M3 μ t0 A) ρ → G 21 [.ref 2737, .int (nI s), .int u, .int acc, .int (nI o)] [] S (0, 0) (M3 μ t0 A) ρ := by
      intro o acc ho hG
      refine g21 _ _ _ _ _ _ ?_
      simp only [w_X12_isElectable_21, w_X12_isElectable_52, tAload, tIload, nth, tGetI, tGetR, tConst, tLconst, tBin, tUn, tI2l, tAld, tAldR, tAlen, tIast, tBast, tZast, tAast, tIret, tZret, tVret, tAret, tIf, tIf2, tGoto, tIstore, tAstore, sset, tIinc, tDup, tDup2, tPop, tPutI, tPutZ, tPutR, tCallV, tCallS, popN, tFn, tCopy, tMax, tMin, tSw, swc, tRem, tObjI, Option.toList, List.nil_append, List.cons_append, okR, true_and, and_true, true_or, or_true, Nat.zero_le, ne_eq, not_false_eq_true, Nat.reduceEqDiff, F_X12_isLinked, hS0, M3_row, b2_z, Decidable.not_not, nI_1]
      unfold el1 at hG
      refine ⟨fun z => absurd z (lt5' o ho), fun _ => ⟨fun c => ?_, fun c => ⟨fun c2 => ?_, fun c2 => ?_⟩⟩⟩
      · rw [nI_eq (by omega) (by omega)] at c
        rw [if_neg (fun z => z.1 c)] at hG; exact hG
      · rw [if_neg (fun z => z.2 c2)] at hG; exact hG
      · rw [nI_eq (by omega) (by omega)] at c
        rw [if_pos ⟨c, c2⟩] at hG; exact hG
    refine step 0 _ (by decide) (step 1 _ (by decide) (step 2 _ (by decide) (step 3 _ (by decide) (step 4 _ (by decide) ?_))))
    refine g21 _ _ _ _ _ _ ?_
    rw [show el1 A s 4 (el1 A s 3 (el1 A s 2 (el1 A s 1 (el1 A s 0 (qGrants A s &&& u))))) = elS A s u from rfl]
    simp only [w_X12_isElectable_21, w_X12_isElectable_58, w_X12_isElectable_91, w_X12_isElectable_92, tAload, tIload, nth, tGetI, tGetR, tConst, tLconst, tBin, tUn, tI2l, tAld, tAldR, tAlen, tIast, tBast, tZast, tAast, tIret, tZret, tVret, tAret, tIf, tIf2, tGoto, tIstore, tAstore, sset, tIinc, tDup, tDup2, tPop, tPutI, tPutZ, tPutR, tCallV, tCallS, popN, tFn, tCopy, tMax, tMin, tSw, swc, tRem, tObjI, Option.toList, List.nil_append, List.cons_append, okR, true_and, and_true, true_or, or_true, Nat.zero_le, ne_eq, not_false_eq_true, Nat.reduceEqDiff, F_X12_laysMembers, F_X12_has, F_X12_isMajority, hS0, hS, hrs, M3_row, M3_setM, M3_8, M3_9, b2_z, Decidable.not_not]
    simp (disch := omega) only [nI_clamp]
    refine ⟨fun _ => ⟨ks.2.1, ks.2.2, fun c2 => no (fun z => c2 z.2.1) _, fun c2 => ⟨fun c3 => no (fun z => c3 z.2.2) _, fun c3 => ?_⟩⟩, fun z => absurd (by decide) z⟩
    have := h (qMem A s)
    unfold b2 at this
    rw [if_pos ⟨c1, c2, c3⟩] at this
    exact this
  · exact h.elim
