/-! ===== the reference: script, whole ===== -/
theorem PR_rf {ν : Mi} {n : Nat} (h : ν 2737 15 = nI n) {p : Nat} (hp : ν 2737 16 = nI p) : PR ν ν n ((p, ν 2737 17, ν 2737 18), (ν 2737 26, ν 2737 21, ν 2737 19, ν 2737 20, ν 2747, ν 2738)) :=
  ⟨fun _ _ _ _ _ => rfl, rfl, rfl, h, hp, rfl, rfl, rfl, rfl, rfl, rfl, rfl, rfl⟩
def w_X12_script_149 (M : CT) (G : Nat → PT) (Rp : RT) : PT := tIret Rp
def w_X12_script_141 (M : CT) (G : Nat → PT) (Rp : RT) : PT := tAload 0 <| tAload 0 <| tGetI 12 27 21 <| tFn 2 F_X12_ends <| w_X12_script_149 M G Rp
def w_X12_script_100 (M : CT) (G : Nat → PT) (Rp : RT) : PT := tAload 0 <| tConst 0 <| tPutI 12 27 16 <| tAload 0 <| tConst 0 <| tPutI 12 27 21 <| tAload 0 <| tConst 0 <| tPutI 12 27 19 <| tAload 0 <| tConst (-1) <| tPutI 12 27 20 <| tAload 0 <| tFn 1 F_X12_begins <| tAload 0 <| tConst 0 <| tConst 1 <| tCallV M jX12_acts 12 27 2 <| tAload 0 <| tGetI 12 27 21 <| tIf (fun x => x ≠ 0) (w_X12_script_141 M G Rp) <| tConst 0 <| tGoto (w_X12_script_149 M G Rp)
def w_X12_script_85 (M : CT) (G : Nat → PT) (Rp : RT) : PT := tAload 0 <| tGetI 12 27 17 <| tIf (fun x => x = 0) (w_X12_script_100 M G Rp) <| tConst (-30) <| tAload 0 <| tGetI 12 27 17 <| tBin (fun x y => x - y) <| tIret Rp
def w_X12_script_22 (M : CT) (G : Nat → PT) (Rp : RT) : PT := tAload 0 <| tConst 0 <| tPutI 12 27 14 <| tAload 0 <| tIload 1 <| tPutI 12 27 15 <| tAload 0 <| tConst 0 <| tPutI 12 27 16 <| tAload 0 <| tConst 0 <| tPutI 12 27 17 <| tAload 0 <| tConst (-1) <| tPutI 12 27 18 <| tAload 0 <| tConst 0 <| tPutZ 12 27 26 <| tAload 0 <| tConst 0 <| tConst 0 <| tCallV M jX12_acts 12 27 2 <| tAload 0 <| tGetI 12 27 17 <| tIf (fun x => x ≠ 0) (w_X12_script_85 M G Rp) <| tAload 0 <| tGetI 12 27 16 <| tAload 0 <| tGetI 12 27 15 <| tIf2 (fun x y => y ≤ x) (w_X12_script_85 M G Rp) <| tAload 0 <| tConst 1 <| tAload 0 <| tGetI 12 27 16 <| tFn 3 F_X12_fails <| w_X12_script_85 M G Rp
def w_X12_script_0 (M : CT) (G : Nat → PT) (Rp : RT) : PT := tAload 0 <| tConst 0 <| tPutI 12 27 0 <| tIload 1 <| tI2l <| tLconst 0 <| tAload 0 <| tGetI 12 27 14 <| tI2l <| tFn 3 F_X12_within <| tIf (fun x => x ≠ 0) (w_X12_script_22 M G Rp) <| tConst (-3) <| tIret Rp
set_option maxRecDepth 20000 in
theorem b_X12_script_149 {Z : Zt} {d : Nat} {p : Program} {e : Env} {R : Room} {s : State} {m : MethodId} {args : Array Value} {below : List Frame} {meth : Method} {c : Code} {Rp : RT} (C : Cx Z (d + 49) jX12_script RX12 p R s m args meth c) : Sd Z jX12_script p e R s m args below meth c (MQ below (QcS Z Rp) args s 0 0 (fun a => Z.2.2.1 < a)) 149 (w_X12_script_149 (MS Z (d + 49)) (Gw Z 2 p e R s m args below meth c (MQ below (QcS Z Rp) args s 0 0 (fun a => Z.2.2.1 < a))) Rp) := by
  unfold w_X12_script_149
  exact s_iret C rfl (by decide +kernel)
set_option maxRecDepth 20000 in
theorem b_X12_script_141 {Z : Zt} {d : Nat} {p : Program} {e : Env} {R : Room} {s : State} {m : MethodId} {args : Array Value} {below : List Frame} {meth : Method} {c : Code} {Rp : RT} (C : Cx Z (d + 49) jX12_script RX12 p R s m args meth c) : Sd Z jX12_script p e R s m args below meth c (MQ below (QcS Z Rp) args s 0 0 (fun a => Z.2.2.1 < a)) 141 (w_X12_script_141 (MS Z (d + 49)) (Gw Z 2 p e R s m args below meth c (MQ below (QcS Z Rp) args s 0 0 (fun a => Z.2.2.1 < a))) Rp) := by
  unfold w_X12_script_141
  refine s_aload_n (k := 0) C (by decide +kernel) ?_
  refine s_aload_n (k := 0) C (by decide +kernel) ?_
  refine s_getI C w_6_108 (by decide +kernel) rfl ?_
  refine s_fnV C (j2 := jX12_ends) (cl := 12) (nf := 27) rfl rfl (by decide +kernel) rfl w_6_188 w_6_190 w_p3_6 w_1_13 w_6_191 (by decide +kernel) (fun _ _ _ _ _ h => f_X12_ends h) (fun _ _ _ _ _ h => r_X12_ends h) ?_
  exact (b_X12_script_149 C)
set_option maxRecDepth 20000 in
theorem b_X12_script_100 {Z : Zt} {d : Nat} {p : Program} {e : Env} {R : Room} {s : State} {m : MethodId} {args : Array Value} {below : List Frame} {meth : Method} {c : Code} {Rp : RT} (C : Cx Z (d + 49) jX12_script RX12 p R s m args meth c) : Sd Z jX12_script p e R s m args below meth c (MQ below (QcS Z Rp) args s 0 0 (fun a => Z.2.2.1 < a)) 100 (w_X12_script_100 (MS Z (d + 49)) (Gw Z 2 p e R s m args below meth c (MQ below (QcS Z Rp) args s 0 0 (fun a => Z.2.2.1 < a))) Rp) := by
  unfold w_X12_script_100
  refine s_aload_n (k := 0) C (by decide +kernel) ?_
  refine s_iconst (n := 0) C (by decide +kernel) (by decide) ?_
  refine s_putI C w_6_103 (by decide +kernel) rfl (Or.inl rfl) ?_
  refine s_aload_n (k := 0) C (by decide +kernel) ?_
  refine s_iconst (n := 0) C (by decide +kernel) (by decide) ?_
  refine s_putI C w_6_108 (by decide +kernel) rfl (Or.inl rfl) ?_
  refine s_aload_n (k := 0) C (by decide +kernel) ?_
  refine s_iconst (n := 0) C (by decide +kernel) (by decide) ?_
  refine s_putI C w_6_106 (by decide +kernel) rfl (Or.inl rfl) ?_
  refine s_aload_n (k := 0) C (by decide +kernel) ?_
  refine s_iconst (n := (-1)) C (by decide +kernel) (by decide) ?_
  refine s_putI C w_6_107 (by decide +kernel) rfl (Or.inl rfl) ?_
  refine s_aload_n (k := 0) C (by decide +kernel) ?_
  refine s_fnV C (j2 := jX12_begins) (cl := 12) (nf := 27) rfl rfl (by decide +kernel) rfl w_6_178 w_6_180 w_p3_5 w_1_13 w_6_181 (by decide +kernel) (fun _ _ _ _ _ h => f_X12_begins h) (fun _ _ _ _ _ h => r_X12_begins h) ?_
  refine s_aload_n (k := 0) C (by decide +kernel) ?_
  refine s_iconst (n := 0) C (by decide +kernel) (by decide) ?_
  refine s_iconst (n := 1) C (by decide +kernel) (by decide) ?_
  refine s_callV C rfl rfl (by decide +kernel) rfl w_8_33 w_8_35 w_p7_1 w_1_13 w_8_36 (by decide +kernel) ?_
  refine s_aload_n (k := 0) C (by decide +kernel) ?_
  refine s_getI C w_6_108 (by decide +kernel) rfl ?_
  refine s_if_ne (off := 7) (tgt := 141) C (by decide +kernel) (by decide) (b_X12_script_141 C) ?_
  refine s_iconst (n := 0) C (by decide +kernel) (by decide) ?_
  exact s_goto (off := 11) (tgt := 149) C (by decide +kernel) (by decide) (b_X12_script_149 C)
set_option maxRecDepth 20000 in
theorem b_X12_script_85 {Z : Zt} {d : Nat} {p : Program} {e : Env} {R : Room} {s : State} {m : MethodId} {args : Array Value} {below : List Frame} {meth : Method} {c : Code} {Rp : RT} (C : Cx Z (d + 49) jX12_script RX12 p R s m args meth c) : Sd Z jX12_script p e R s m args below meth c (MQ below (QcS Z Rp) args s 0 0 (fun a => Z.2.2.1 < a)) 85 (w_X12_script_85 (MS Z (d + 49)) (Gw Z 2 p e R s m args below meth c (MQ below (QcS Z Rp) args s 0 0 (fun a => Z.2.2.1 < a))) Rp) := by
  unfold w_X12_script_85
  refine s_aload_n (k := 0) C (by decide +kernel) ?_
  refine s_getI C w_6_104 (by decide +kernel) rfl ?_
  refine s_if_eq (off := 11) (tgt := 100) C (by decide +kernel) (by decide) (b_X12_script_100 C) ?_
  refine s_bipush (n := (-30)) C (by decide +kernel) (by decide) ?_
  refine s_aload_n (k := 0) C (by decide +kernel) ?_
  refine s_getI C w_6_104 (by decide +kernel) rfl ?_
  refine s_isub C (by decide +kernel) ?_
  exact s_iret C rfl (by decide +kernel)
set_option maxRecDepth 20000 in
theorem b_X12_script_22 {Z : Zt} {d : Nat} {p : Program} {e : Env} {R : Room} {s : State} {m : MethodId} {args : Array Value} {below : List Frame} {meth : Method} {c : Code} {Rp : RT} (C : Cx Z (d + 49) jX12_script RX12 p R s m args meth c) : Sd Z jX12_script p e R s m args below meth c (MQ below (QcS Z Rp) args s 0 0 (fun a => Z.2.2.1 < a)) 22 (w_X12_script_22 (MS Z (d + 49)) (Gw Z 2 p e R s m args below meth c (MQ below (QcS Z Rp) args s 0 0 (fun a => Z.2.2.1 < a))) Rp) := by
  unfold w_X12_script_22
  refine s_aload_n (k := 0) C (by decide +kernel) ?_
  refine s_iconst (n := 0) C (by decide +kernel) (by decide) ?_
  refine s_putI C w_6_101 (by decide +kernel) rfl (Or.inl rfl) ?_
  refine s_aload_n (k := 0) C (by decide +kernel) ?_
  refine s_iload_n (k := 1) C (by decide +kernel) ?_
  refine s_putI C w_6_102 (by decide +kernel) rfl (Or.inl rfl) ?_
  refine s_aload_n (k := 0) C (by decide +kernel) ?_
  refine s_iconst (n := 0) C (by decide +kernel) (by decide) ?_
  refine s_putI C w_6_103 (by decide +kernel) rfl (Or.inl rfl) ?_
  refine s_aload_n (k := 0) C (by decide +kernel) ?_
  refine s_iconst (n := 0) C (by decide +kernel) (by decide) ?_
  refine s_putI C w_6_104 (by decide +kernel) rfl (Or.inl rfl) ?_
  refine s_aload_n (k := 0) C (by decide +kernel) ?_
  refine s_iconst (n := (-1)) C (by decide +kernel) (by decide) ?_
  refine s_putI C w_6_105 (by decide +kernel) rfl (Or.inl rfl) ?_
  refine s_aload_n (k := 0) C (by decide +kernel) ?_
  refine s_iconst (n := 0) C (by decide +kernel) (by decide) ?_
  refine s_putZ C w_6_113 (by decide +kernel) rfl (Or.inl rfl) ?_
  refine s_aload_n (k := 0) C (by decide +kernel) ?_
  refine s_iconst (n := 0) C (by decide +kernel) (by decide) ?_
  refine s_iconst (n := 0) C (by decide +kernel) (by decide) ?_
  refine s_callV C rfl rfl (by decide +kernel) rfl w_8_33 w_8_35 w_p7_1 w_1_13 w_8_36 (by decide +kernel) ?_
  refine s_aload_n (k := 0) C (by decide +kernel) ?_
  refine s_getI C w_6_104 (by decide +kernel) rfl ?_
  refine s_if_ne (off := 23) (tgt := 85) C (by decide +kernel) (by decide) (b_X12_script_85 C) ?_
  refine s_aload_n (k := 0) C (by decide +kernel) ?_
  refine s_getI C w_6_103 (by decide +kernel) rfl ?_
  refine s_aload_n (k := 0) C (by decide +kernel) ?_
  refine s_getI C w_6_102 (by decide +kernel) rfl ?_
  refine s_icmp_ge (off := 12) (tgt := 85) C (by decide +kernel) (by decide) (b_X12_script_85 C) ?_
  refine s_aload_n (k := 0) C (by decide +kernel) ?_
  refine s_iconst (n := 1) C (by decide +kernel) (by decide) ?_
  refine s_aload_n (k := 0) C (by decide +kernel) ?_
  refine s_getI C w_6_103 (by decide +kernel) rfl ?_
  refine s_fnV C (j2 := jX12_fails) (cl := 12) (nf := 27) rfl rfl (by decide +kernel) rfl w_8_55 w_8_57 w_p7_6 w_1_13 w_8_58 (by decide +kernel) (fun _ _ _ _ _ h => f_X12_fails h) (fun _ _ _ _ _ h => r_X12_fails h) ?_
  exact (b_X12_script_85 C)
set_option maxRecDepth 20000 in
theorem b_X12_script_0 {Z : Zt} {d : Nat} {p : Program} {e : Env} {R : Room} {s : State} {m : MethodId} {args : Array Value} {below : List Frame} {meth : Method} {c : Code} {Rp : RT} (C : Cx Z (d + 49) jX12_script RX12 p R s m args meth c) : Sd Z jX12_script p e R s m args below meth c (MQ below (QcS Z Rp) args s 0 0 (fun a => Z.2.2.1 < a)) 0 (w_X12_script_0 (MS Z (d + 49)) (Gw Z 2 p e R s m args below meth c (MQ below (QcS Z Rp) args s 0 0 (fun a => Z.2.2.1 < a))) Rp) := by
  unfold w_X12_script_0
  refine s_aload_n (k := 0) C (by decide +kernel) ?_
  refine s_iconst (n := 0) C (by decide +kernel) (by decide) ?_
  refine s_putI C w_6_87 (by decide +kernel) rfl (Or.inl rfl) ?_
  refine s_iload_n (k := 1) C (by decide +kernel) ?_
  refine s_i2l C (by decide +kernel) ?_
  refine s_lconst (n := 0) C (by decide +kernel) (by decide) ?_
  refine s_aload_n (k := 0) C (by decide +kernel) ?_
  refine s_getI C w_6_101 (by decide +kernel) rfl ?_
  refine s_i2l C (by decide +kernel) ?_
  refine s_fnS C (j2 := jX12_within) (by decide +kernel) rfl w_6_175 w_6_176 w_1_13 w_6_177 (by decide +kernel) (fun _ _ _ _ _ h => f_X12_within h) ?_
  refine s_if_ne (off := 6) (tgt := 22) C (by decide +kernel) (by decide) (b_X12_script_22 C) ?_
  refine s_bipush (n := (-3)) C (by decide +kernel) (by decide) ?_
  exact s_iret C rfl (by decide +kernel)
theorem ms_X12_script {Z : Zt} {d : Nat} {S : Sh} {μ : Mi} {ρ : Mr} {Rp : RT} (a0 : Nat) (x1 : Int32) (h : ∀ G : Nat → PT, w_X12_script_0 (MS Z (d + 49)) G Rp [.ref a0, .int x1] [] S (0, 0) μ ρ) : MS Z (d + 50) jX12_script [.ref a0, .int x1] S μ ρ Rp :=
  MS_of [.ref a0, .int x1] (by decide +kernel) rfl rfl (Nat.le_of_ble_eq_true rfl) rfl (fun p e R s m args below meth c C => b_X12_script_0 C _ _ _ _ _ _ (h _ ))
def F_X12_script : FT := fun As S μ ρ k => match As with
  | [.ref a, .int m] => a = 2737 ∧ RS S ρ ∧ good (μ 2738) ∧ rg (μ 2737 6) 0 8 ∧ rg (μ 2737 14) 0 300 ∧ wdOK (μ 2746) ∧ (¬ (0 ≤ m.toInt ∧ m.toInt ≤ (μ 2737 14).toInt) → k (some (.int (-3))) (M6 μ)) ∧ ((0 ≤ m.toInt ∧ m.toInt ≤ (μ 2737 14).toInt) → ∀ X, X = sRd (μ 2745) m.toNatClampNeg (0, μ 2737 21, μ 2737 19, μ 2737 20, μ 2747, μ 2738) → (¬ (sWr m.toNatClampNeg X).1 = 0 → ∀ μ', SQ μ μ' X.2.2.2.2.2.2 (μ 2739) (μ 2737 6) 0 (sWr m.toNatClampNeg X).1 (sWr m.toNatClampNeg X).2 X.2.2.2.1 X.2.2.2.2.1 → k (some (.int (-30 - (sWr m.toNatClampNeg X).1))) μ') ∧ ((sWr m.toNatClampNeg X).1 = 0 → ∀ Y, Y = sDo (μ 2745) m.toNatClampNeg X → (Y.2.2.1 = 0 → ∀ μ', SQ μ μ' Y.2.2.2.2.2.2 (μ 2739) (μ 2737 6) 0 Y.1.2.1 Y.1.2.2 Y.2.2.2.1 Y.2.2.2.2.1 → k (some (.int 0)) μ') ∧ (¬ Y.2.2.1 = 0 → ∀ μ', SQ μ μ' Y.2.2.2.2.2.2 (if Y.2.2.1 < 0 then μ 2739 else (pushD X.2.2.2.2.2.2 (μ 2739) (μ 2737 6)).1) (if Y.2.2.1 < 0 then μ 2737 6 else (pushD X.2.2.2.2.2.2 (μ 2739) (μ 2737 6)).2) 0 Y.1.2.1 Y.1.2.2 Y.2.2.2.1 Y.2.2.2.2.1 → k (some (.int Y.2.2.1)) μ')))
  | _ => False
theorem r_X12_script {As S μ ρ k} (h : F_X12_script As S μ ρ k) : ∃ a As', As = Value.ref a :: As' ∧ S.2 a = (12, 27) := by
  unfold F_X12_script at h
  split at h
  · exact ⟨_, _, rfl, by rw [h.1]; exact h.2.1.1⟩
  · exact h.elim
set_option maxHeartbeats 1000000 in
theorem f_X12_script {Z : Zt} {d : Nat} {As : List Value} {S : Sh} {μ : Mi} {ρ : Mr} {Rp : RT} (h : F_X12_script As S μ ρ (fun r μ' => Rp r S μ' ρ)) : MS Z (d + 50) jX12_script As S μ ρ Rp := by
  unfold F_X12_script at h
  split at h
  · rename_i a m
    obtain ⟨rfl, hS, h⟩ := h
    have hS0 := hS
    unfold RS at hS
    obtain ⟨hg, hdm, htp, hw, hno, hyes⟩ := h
    refine ms_X12_script _ _ (fun G => ?_)
    simp only [w_X12_script_0, tAload, tIload, nth, tGetI, tGetR, tConst, tLconst, tBin, tUn, tI2l, tAld, tAldR, tAlen, tIast, tBast, tZast, tAast, tIret, tZret, tVret, tAret, tIf, tIf2, tGoto, tIstore, tAstore, sset, tIinc, tDup, tDup2, tPop, tPutI, tPutZ, tPutR, tCallV, tCallS, popN, tFn, tCopy, tMax, tMin, tSw, swc, tRem, tObjI, Option.toList, List.nil_append, List.cons_append, okR, true_and, and_true, true_or, or_true, Nat.zero_le, ne_eq, not_false_eq_true, Nat.reduceEqDiff, F_X12_within, hS0, hS, e6, M6_f (show 14 ≠ 0 by decide), b2_z, Decidable.not_not, l_le, l_geC, il_0, Int32.toInt_toInt64]
    refine ⟨fun c => ?_, fun c => hno c⟩
    have hy := hyes c
    obtain ⟨n, rfl, hn0, -, hn1⟩ := rg_ex (x := m) (lo := 0) (hi := 300) ⟨c.1, Int.le_trans c.2 htp.2⟩
    rw [nI_clamp hn0] at hy
    have e26 : (0 : Int32) &&& 1 = 0 := by decide
    simp only [w_X12_script_22, tAload, tIload, nth, tGetI, tGetR, tConst, tLconst, tBin, tUn, tI2l, tAld, tAldR, tAlen, tIast, tBast, tZast, tAast, tIret, tZret, tVret, tAret, tIf, tIf2, tGoto, tIstore, tAstore, sset, tIinc, tDup, tDup2, tPop, tPutI, tPutZ, tPutR, tCallV, tCallS, popN, tFn, tCopy, tMax, tMin, tSw, swc, tRem, tObjI, Option.toList, List.nil_append, List.cons_append, okR, true_and, and_true, true_or, or_true, Nat.zero_le, ne_eq, not_false_eq_true, Nat.reduceEqDiff, hS, e26]
    generalize hν0 : upI (upI (upI (upI (upI (upI (M6 μ) 2737 14 0) 2737 15 (nI n)) 2737 16 0) 2737 17 0) 2737 18 (-1)) 2737 26 0 = ν0
    have eF : ν0 = upF μ 2737 (up (up (up (up (up (up (up (μ 2737) 0 0) 14 0) 15 (nI n)) 16 0) 17 0) 18 (-1)) 26 0) := by
      rw [← hν0]
      unfold M6
      rw [upI_upF (μ := μ)]
      simp only [upI_row]
    have o1 : ∀ a, a ≠ 2737 → ν0 a = μ a := fun a ha => by rw [eF, upF_ne ha]
    have f15 : ν0 2737 15 = nI n := by rw [eF, upF_same, up_ne (by decide), up_ne (by decide), up_ne (by decide), up_ne (by decide), up_at]
    have f16 : ν0 2737 16 = nI 0 := by rw [eF, upF_same, up_ne (by decide), up_ne (by decide), up_ne (by decide), up_at]; rfl
    have f17 : ν0 2737 17 = 0 := by rw [eF, upF_same, up_ne (by decide), up_ne (by decide), up_at]
    have f18 : ν0 2737 18 = -1 := by rw [eF, upF_same, up_ne (by decide), up_at]
    have f26 : ν0 2737 26 = 0 := by rw [eF, upF_same, up_at]
    have f14 : ν0 2737 14 = 0 := by rw [eF, upF_same, up_ne (by decide), up_ne (by decide), up_ne (by decide), up_ne (by decide), up_ne (by decide), up_at]
    have fo : ∀ f, f = 6 ∨ f = 19 ∨ f = 20 ∨ f = 21 → ν0 2737 f = μ 2737 f := fun f hf => by
      rw [eF, upF_same, up_ne (by omega), up_ne (by omega), up_ne (by omega), up_ne (by omega), up_ne (by omega), up_ne (by omega), up_ne (by omega)]
    have p0 := PR_rf f15 f16
    rw [f17, f18, f26, fo 21 (by decide), fo 19 (by decide), fo 20 (by decide), o1 2747 (by decide), o1 2738 (by decide)] at p0
    have hw0 : wdOK (ν0 2746) := by rw [o1 _ (by decide)]; exact hw
    have ac := acts_core (Z := Z) (n := n) (μ := ν0) hS0 (Or.inl rfl) hw0 3 (d + 2) (by decide)
    refine ac ν0 _ _ p0 ⟨by omega, by show 0 ≤ 400; omega, fun _ => by show 0 ≤ n; omega⟩ hg (fun ν1 p1 b1 g1 _ => ?_)
    rw [o1 2745 (by decide)] at p1 b1 g1
    obtain ⟨hbad, hgood⟩ := hy _ rfl
    rw [show sRd (μ 2745) n (0, μ 2737 21, μ 2737 19, μ 2737 20, μ 2747, μ 2738) = pActs (μ 2745) n 0 3 ((0, 0, -1), (0, μ 2737 21, μ 2737 19, μ 2737 20, μ 2747, μ 2738)) from rfl] at hbad hgood
    generalize pActs (μ 2745) n 0 3 ((0, 0, -1), (0, μ 2737 21, μ 2737 19, μ 2737 20, μ 2747, μ 2738)) = X at *
    have e17 : ν1 2737 17 = X.1.2.1 := p1.2.2.2.2.2.1
    have e16 : ν1 2737 16 = nI X.1.1 := p1.2.2.2.2.1
    have e15 : ν1 2737 15 = nI n := p1.2.2.2.1
    have sq : ∀ (ν2 : Mi) (P : Ps) (E : Es), PR ν0 ν2 n (P, E) → SQ μ ν2 E.2.2.2.2.2 (μ 2739) (μ 2737 6) 0 P.2.1 P.2.2 E.2.2.1 E.2.2.2.1 := by
      intro ν2 P E q
      obtain ⟨a, b, c, q4, e, f, g, i, j, k', l, m', o⟩ := q
      refine ⟨fun x hx => by rw [a x (by omega) (by omega) (by omega) (by omega)]; exact o1 x (by omega), b, ?_, ?_, ?_, ?_, ?_, ?_, f, g, k', l⟩
      · rw [a _ (by decide) (by decide) (by decide) (by decide)]; exact o1 _ (by decide)
      · rw [m']; exact fo 6 (by decide)
      · rw [a _ (by decide) (by decide) (by decide) (by decide)]; exact o1 _ (by decide)
      · rw [a _ (by decide) (by decide) (by decide) (by decide)]; exact o1 _ (by decide)
      · rw [a _ (by decide) (by decide) (by decide) (by decide)]; exact o1 _ (by decide)
      · rw [o]; exact f14
    have t85 : ∀ (ν2 : Mi), PR ν0 ν2 n ((X.1.1, sWr n X), X.2) → w_X12_script_85 (MS Z (d + 49)) G Rp [.ref 2737, .int (nI n)] [] S (0, 0) ν2 ρ := by
      intro ν2 p2
      have s2 := sq ν2 _ _ p2
      have g17 : ν2 2737 17 = (sWr n X).1 := p2.2.2.2.2.2.1
      simp only [w_X12_script_85, tAload, tIload, nth, tGetI, tGetR, tConst, tLconst, tBin, tUn, tI2l, tAld, tAldR, tAlen, tIast, tBast, tZast, tAast, tIret, tZret, tVret, tAret, tIf, tIf2, tGoto, tIstore, tAstore, sset, tIinc, tDup, tDup2, tPop, tPutI, tPutZ, tPutR, tCallV, tCallS, popN, tFn, tCopy, tMax, tMin, tSw, swc, tRem, tObjI, Option.toList, List.nil_append, List.cons_append, okR, true_and, and_true, true_or, or_true, Nat.zero_le, ne_eq, not_false_eq_true, Nat.reduceEqDiff, hS, g17]
      refine ⟨fun c2 => ?_, fun c2 => hbad c2 _ s2⟩
      have hY := hgood c2 _ rfl
      simp only [w_X12_script_100, tAload, tIload, nth, tGetI, tGetR, tConst, tLconst, tBin, tUn, tI2l, tAld, tAldR, tAlen, tIast, tBast, tZast, tAast, tIret, tZret, tVret, tAret, tIf, tIf2, tGoto, tIstore, tAstore, sset, tIinc, tDup, tDup2, tPop, tPutI, tPutZ, tPutR, tCallV, tCallS, popN, tFn, tCopy, tMax, tMin, tSw, swc, tRem, tObjI, Option.toList, List.nil_append, List.cons_append, okR, true_and, and_true, true_or, or_true, Nat.zero_le, ne_eq, not_false_eq_true, Nat.reduceEqDiff, F_X12_begins, hS0, hS]
      generalize hν3 : upI (upI (upI (upI ν2 2737 16 0) 2737 21 0) 2737 19 0) 2737 20 (-1) = ν3
      have eG : ν3 = upF ν2 2737 (up (up (up (up (ν2 2737) 16 0) 21 0) 19 0) 20 (-1)) := by
        rw [← hν3, upI_upF (μ := ν2)]
        simp only [upI_row]
      have o3 : ∀ a, a ≠ 2737 → ν3 a = ν2 a := fun a ha => by rw [eG, upF_ne ha]
      have k3 : ∀ f, f ≠ 16 → f ≠ 21 → f ≠ 19 → f ≠ 20 → ν3 2737 f = ν2 2737 f := fun f a1 a2 a3 a4 => by rw [eG, upF_same, up_ne a4, up_ne a3, up_ne a2, up_ne a1]
      generalize hν4 : upF ν3 2741 (cpF (ν3 2738) (ν3 2741) 0 0 4516) = ν4
      have o4 : ∀ a, a ≠ 2741 → ν4 a = ν3 a := fun a ha => by rw [← hν4, upF_ne ha]
      have q15 : ν4 2737 15 = nI n := by rw [o4 _ (by decide), k3 _ (by decide) (by decide) (by decide) (by decide)]; exact p2.2.2.2.1
      have q16 : ν4 2737 16 = nI 0 := by rw [o4 _ (by decide), eG, upF_same, up_ne (by decide), up_ne (by decide), up_ne (by decide), up_at]; rfl
      have q17 : ν4 2737 17 = (sWr n X).1 := by rw [o4 _ (by decide), k3 _ (by decide) (by decide) (by decide) (by decide)]; exact g17
      have q18 : ν4 2737 18 = (sWr n X).2 := by rw [o4 _ (by decide), k3 _ (by decide) (by decide) (by decide) (by decide)]; exact p2.2.2.2.2.2.2.1
      have q26 : ν4 2737 26 = X.2.1 := by rw [o4 _ (by decide), k3 _ (by decide) (by decide) (by decide) (by decide)]; exact p2.2.2.2.2.2.2.2.1
      have q21 : ν4 2737 21 = 0 := by rw [o4 _ (by decide), eG, upF_same, up_ne (by decide), up_ne (by decide), up_at]
      have q19 : ν4 2737 19 = 0 := by rw [o4 _ (by decide), eG, upF_same, up_ne (by decide), up_at]
      have q20 : ν4 2737 20 = -1 := by rw [o4 _ (by decide), eG, upF_same, up_at]
      have q47 : ν4 2747 = X.2.2.2.2.2.1 := by rw [o4 _ (by decide), o3 _ (by decide)]; exact p2.2.2.1
      have q38 : ν4 2738 = X.2.2.2.2.2.2 := by rw [o4 _ (by decide), o3 _ (by decide)]; exact p2.2.1
      have q45 : ν4 2745 = μ 2745 := by rw [o4 _ (by decide), o3 _ (by decide)]; exact s2.2.2.2.2.2.1
      have q46 : ν4 2746 = μ 2746 := by rw [o4 _ (by decide), o3 _ (by decide)]; exact s2.2.2.2.2.2.2.1
      have q41 : ν4 2741 = cpF X.2.2.2.2.2.2 (ν3 2741) 0 0 4516 := by rw [← hν4, upF_same, o3 2738 (by decide)]; rw [show ν2 2738 = X.2.2.2.2.2.2 from p2.2.1]
      have p4 := PR_rf q15 q16
      rw [q17, q18, q26, q21, q19, q20, q47, q38] at p4
      have ac2 := acts_core (Z := Z) (n := n) (μ := ν4) hS0 (Or.inr rfl) (by rw [q46]; exact hw) 3 (d + 2) (by decide)
      refine ac2 ν4 _ _ p4 ⟨by omega, by show 0 ≤ 400; omega, fun _ => by show 0 ≤ n; omega⟩ g1 (fun ν5 p5 b5 g5 _ => ?_)
      rw [q45, show pActs (μ 2745) n 1 3 ((0, (sWr n X).1, (sWr n X).2), (X.2.1, 0, 0, -1, X.2.2.2.2.2.1, X.2.2.2.2.2.2)) = sDo (μ 2745) n X from rfl] at p5
      generalize sDo (μ 2745) n X = Y at *
      obtain ⟨a, b, c, q4, e, f, g, i, j, k', l, m', o⟩ := p5
      have s5 : SQ μ ν5 Y.2.2.2.2.2.2 (μ 2739) (μ 2737 6) 0 Y.1.2.1 Y.1.2.2 Y.2.2.2.1 Y.2.2.2.2.1 := by
        have at4 : ∀ x, x ≠ 2737 → x ≠ 2738 → x ≠ 2744 → x ≠ 2747 → x ≠ 2741 → ν5 x = ν2 x := fun x h1 h2 h3 h4 h5 => by rw [a x h1 h2 h3 h4, o4 x h5, o3 x h1]
        refine ⟨fun x hx => by rw [at4 x (by omega) (by omega) (by omega) (by omega) (by omega)]; exact s2.1 x hx, b, ?_, ?_, ?_, ?_, ?_, ?_, f, g, k', l⟩
        · rw [at4 _ (by decide) (by decide) (by decide) (by decide) (by decide)]; exact s2.2.2.1
        · rw [m', o4 _ (by decide), k3 _ (by decide) (by decide) (by decide) (by decide)]; exact s2.2.2.2.1
        · rw [at4 _ (by decide) (by decide) (by decide) (by decide) (by decide)]; exact s2.2.2.2.2.1
        · rw [at4 _ (by decide) (by decide) (by decide) (by decide) (by decide)]; exact s2.2.2.2.2.2.1
        · rw [at4 _ (by decide) (by decide) (by decide) (by decide) (by decide)]; exact s2.2.2.2.2.2.2.1
        · rw [o, o4 _ (by decide), k3 _ (by decide) (by decide) (by decide) (by decide)]; exact s2.2.2.2.2.2.2.2.1
      have j' : ν5 2737 21 = Y.2.2.1 := j
      have z41 : ν5 2741 = cpF X.2.2.2.2.2.2 (ν3 2741) 0 0 4516 := by rw [a _ (by decide) (by decide) (by decide) (by decide)]; exact q41
      have z39 : ν5 2739 = μ 2739 := s5.2.2.1
      have z6 : ν5 2737 6 = μ 2737 6 := s5.2.2.2.1
      simp only [w_X12_script_141, w_X12_script_149, tAload, tIload, nth, tGetI, tGetR, tConst, tLconst, tBin, tUn, tI2l, tAld, tAldR, tAlen, tIast, tBast, tZast, tAast, tIret, tZret, tVret, tAret, tIf, tIf2, tGoto, tIstore, tAstore, sset, tIinc, tDup, tDup2, tPop, tPutI, tPutZ, tPutR, tCallV, tCallS, popN, tFn, tCopy, tMax, tMin, tSw, swc, tRem, tObjI, Option.toList, List.nil_append, List.cons_append, okR, true_and, and_true, true_or, or_true, Nat.zero_le, ne_eq, not_false_eq_true, Nat.reduceEqDiff, F_X12_ends, hS0, hS, j', z41, z39, z6, pushD_aside]
      refine ⟨fun c3 => ⟨hdm, ?_⟩, fun c3 => hY.1 (Decidable.not_not.mp c3) _ s5⟩
      refine hY.2 c3 _ ?_
      by_cases c4 : Y.2.2.1 < 0
      · simp only [if_pos c4]; exact s5
      · simp only [if_neg c4]
        obtain ⟨b1, b2', b3, b4, b5', b6, b7, b8, b9, b10, b11, b12⟩ := s5
        rw [upI_upF]
        refine ⟨fun x hx => by rw [upF_ne (by omega), upF_ne (by omega)]; exact b1 x hx, by rw [upF_ne (by decide), upF_ne (by decide)]; exact b2', by rw [upF_ne (by decide), upF_same], by rw [upF_same, up_at], by rw [upF_ne (by decide), upF_ne (by decide)]; exact b5', by rw [upF_ne (by decide), upF_ne (by decide)]; exact b6, by rw [upF_ne (by decide), upF_ne (by decide)]; exact b7, ?_, ?_, ?_, ?_, ?_⟩
        · rw [upF_same, up_ne (by decide), upF_ne (by decide)]; exact b8
        · rw [upF_same, up_ne (by decide), upF_ne (by decide)]; exact b9
        · rw [upF_same, up_ne (by decide), upF_ne (by decide)]; exact b10
        · rw [upF_same, up_ne (by decide), upF_ne (by decide)]; exact b11
        · rw [upF_same, up_ne (by decide), upF_ne (by decide)]; exact b12
    have b400 := b1.2.1
    simp only [tAload, tIload, nth, tGetI, tGetR, tConst, tLconst, tBin, tUn, tI2l, tAld, tAldR, tAlen, tIast, tBast, tZast, tAast, tIret, tZret, tVret, tAret, tIf, tIf2, tGoto, tIstore, tAstore, sset, tIinc, tDup, tDup2, tPop, tPutI, tPutZ, tPutR, tCallV, tCallS, popN, tFn, tCopy, tMax, tMin, tSw, swc, tRem, tObjI, Option.toList, List.nil_append, List.cons_append, okR, true_and, and_true, true_or, or_true, Nat.zero_le, ne_eq, not_false_eq_true, Nat.reduceEqDiff, F_X12_fails, hS0, hS, e17, e16, e15]
    rw [nI_leI (by omega) (by omega)]
    refine ⟨fun c2 => t85 _ ?_, fun c2 => ⟨fun c3 => t85 _ ?_, fun c3 => t85 _ ?_⟩⟩
    · have : sWr n X = X.1.2 := if_pos (Or.inl c2)
      rw [this]; exact p1
    · have : sWr n X = X.1.2 := if_pos (Or.inr c3)
      rw [this]; exact p1
    · have : sWr n X = fl X.1.2.1 X.1.2.2 1 (nI X.1.1) := if_neg (fun z => z.elim c2 c3)
      rw [this]; exact (PR_fails p1 b1 (by decide)).1
  · exact h.elim
