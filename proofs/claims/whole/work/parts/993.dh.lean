/-! ===== the class: messages come, are lost, double ===== -/
theorem MsR_copy {g : Rw} {f : Int32} {q q' : Nat} {μ μ' : Mi} (h : MsR g f q μ) (h9 : ∀ i, i < 9 → μ' q' i = μ q i) (h6 : ∀ i, i < 6 → μ' (q' + 1) i = μ (q + 1) i) : MsR g f q' μ' := by
  unfold MsR at *
  rw [h9 0 (by omega), h9 1 (by omega), h9 2 (by omega), h9 3 (by omega), h9 4 (by omega), h9 5 (by omega), h9 6 (by omega), h9 7 (by omega), h9 8 (by omega)]
  refine ⟨h.1, h.2.1, fun z k k1 k2 => ?_, fun z => ⟨fun k hk => ?_, ?_, ?_, (h.2.2.2 z).2.2.2⟩⟩
  · rw [h6 k (by omega)]; exact h.2.2.1 z k k1 k2
  · rw [h6 k (by omega)]; exact (h.2.2.2 z).1 k hk
  · rw [h6 4 (by omega)]; exact (h.2.2.2 z).2.1
  · rw [h6 5 (by omega)]; exact (h.2.2.2 z).2.2.1
def ap2 (a b : Nat) : Prop := a ≠ b ∧ a ≠ b + 1 ∧ a + 1 ≠ b
def w_X2_copyFrom_0 (M : CT) (G : Nat → PT) (Rp : RT) : PT := tAload 0 <| tAload 1 <| tGetI 2 10 0 <| tPutI 2 10 0 <| tAload 0 <| tAload 1 <| tGetI 2 10 1 <| tPutI 2 10 1 <| tAload 0 <| tAload 1 <| tGetI 2 10 2 <| tPutI 2 10 2 <| tAload 0 <| tAload 1 <| tGetI 2 10 3 <| tPutI 2 10 3 <| tAload 0 <| tAload 1 <| tGetI 2 10 4 <| tPutI 2 10 4 <| tAload 0 <| tAload 1 <| tGetI 2 10 5 <| tPutI 2 10 5 <| tAload 0 <| tAload 1 <| tGetI 2 10 6 <| tPutI 2 10 6 <| tAload 0 <| tAload 1 <| tGetI 2 10 7 <| tPutI 2 10 7 <| tAload 0 <| tAload 1 <| tGetI 2 10 8 <| tPutI 2 10 8 <| tAload 1 <| tGetR 2 10 9 <| tConst 0 <| tAload 0 <| tGetR 2 10 9 <| tConst 0 <| tConst 6 <| tCopy <| tVret Rp
set_option maxRecDepth 20000 in
theorem b_X2_copyFrom_0 {Z : Zt} {d : Nat} {p : Program} {e : Env} {R : Room} {s : State} {m : MethodId} {args : Array Value} {below : List Frame} {meth : Method} {c : Code} {Rp : RT} (C : Cx Z d jX2_copyFrom RX2 p R s m args meth c) : Sd Z jX2_copyFrom p e R s m args below meth c (MQ below (QcS Z Rp) args s 0 0 (fun a => Z.2.2.1 < a)) 0 (w_X2_copyFrom_0 (MS Z d) (Gw Z 2 p e R s m args below meth c (MQ below (QcS Z Rp) args s 0 0 (fun a => Z.2.2.1 < a))) Rp) := by
  unfold w_X2_copyFrom_0
  refine s_aload_n (k := 0) C (by decide +kernel) ?_
  refine s_aload_n (k := 1) C (by decide +kernel) ?_
  refine s_getI C w_1_51 (by decide +kernel) rfl ?_
  refine s_putI C w_1_51 (by decide +kernel) rfl (Or.inl rfl) ?_
  refine s_aload_n (k := 0) C (by decide +kernel) ?_
  refine s_aload_n (k := 1) C (by decide +kernel) ?_
  refine s_getI C w_1_56 (by decide +kernel) rfl ?_
  refine s_putI C w_1_56 (by decide +kernel) rfl (Or.inl rfl) ?_
  refine s_aload_n (k := 0) C (by decide +kernel) ?_
  refine s_aload_n (k := 1) C (by decide +kernel) ?_
  refine s_getI C w_1_61 (by decide +kernel) rfl ?_
  refine s_putI C w_1_61 (by decide +kernel) rfl (Or.inl rfl) ?_
  refine s_aload_n (k := 0) C (by decide +kernel) ?_
  refine s_aload_n (k := 1) C (by decide +kernel) ?_
  refine s_getI C w_1_66 (by decide +kernel) rfl ?_
  refine s_putI C w_1_66 (by decide +kernel) rfl (Or.inl rfl) ?_
  refine s_aload_n (k := 0) C (by decide +kernel) ?_
  refine s_aload_n (k := 1) C (by decide +kernel) ?_
  refine s_getI C w_1_70 (by decide +kernel) rfl ?_
  refine s_putI C w_1_70 (by decide +kernel) rfl (Or.inl rfl) ?_
  refine s_aload_n (k := 0) C (by decide +kernel) ?_
  refine s_aload_n (k := 1) C (by decide +kernel) ?_
  refine s_getI C w_1_75 (by decide +kernel) rfl ?_
  refine s_putI C w_1_75 (by decide +kernel) rfl (Or.inl rfl) ?_
  refine s_aload_n (k := 0) C (by decide +kernel) ?_
  refine s_aload_n (k := 1) C (by decide +kernel) ?_
  refine s_getI C w_1_80 (by decide +kernel) rfl ?_
  refine s_putI C w_1_80 (by decide +kernel) rfl (Or.inl rfl) ?_
  refine s_aload_n (k := 0) C (by decide +kernel) ?_
  refine s_aload_n (k := 1) C (by decide +kernel) ?_
  refine s_getI C w_1_85 (by decide +kernel) rfl ?_
  refine s_putI C w_1_85 (by decide +kernel) rfl (Or.inl rfl) ?_
  refine s_aload_n (k := 0) C (by decide +kernel) ?_
  refine s_aload_n (k := 1) C (by decide +kernel) ?_
  refine s_getI C w_1_89 (by decide +kernel) rfl ?_
  refine s_putI C w_1_89 (by decide +kernel) rfl (Or.inl rfl) ?_
  refine s_aload_n (k := 1) C (by decide +kernel) ?_
  refine s_getR C w_1_93 (by decide +kernel) rfl ?_
  refine s_iconst (n := 0) C (by decide +kernel) (by decide) ?_
  refine s_aload_n (k := 0) C (by decide +kernel) ?_
  refine s_getR C w_1_93 (by decide +kernel) rfl ?_
  refine s_iconst (n := 0) C (by decide +kernel) (by decide) ?_
  refine s_bipush (n := 6) C (by decide +kernel) (by decide) ?_
  refine s_copy C w_3_64 w_3_46 w_3_45 w_1_14 (by decide +kernel) ?_
  exact s_vret C rfl (by decide +kernel)
theorem ms_X2_copyFrom {Z : Zt} {d : Nat} {S : Sh} {μ : Mi} {ρ : Mr} {Rp : RT} (a0 : Nat) (a1 : Nat) (h : ∀ G : Nat → PT, w_X2_copyFrom_0 (MS Z d) G Rp [.ref a0, .ref a1] [] S (0, 0) μ ρ) : MS Z (d + 1) jX2_copyFrom [.ref a0, .ref a1] S μ ρ Rp :=
  MS_of [.ref a0, .ref a1] (by decide +kernel) rfl rfl (Nat.le_of_ble_eq_true rfl) rfl (fun p e R s m args below meth c C => b_X2_copyFrom_0 C _ _ _ _ _ _ (h _ ))
def F_X2_copyFrom : FT := fun As S μ ρ k => match As with
  | [.ref a, .ref b] => S.2 a = (2, 10) ∧ S.2 (a + 1) = (20, 6) ∧ ρ a 9 = a + 1 ∧ S.2 b = (2, 10) ∧ S.2 (b + 1) = (20, 6) ∧ ρ b 9 = b + 1 ∧ ap2 a b ∧ ∀ μ', (∀ i, i < 9 → μ' a i = μ b i) → (∀ i, i < 6 → μ' (a + 1) i = μ (b + 1) i) → kp2 a (a + 1) μ μ' → k none μ'
  | _ => False
theorem r_X2_copyFrom {As S μ ρ k} (h : F_X2_copyFrom As S μ ρ k) : ∃ a As', As = Value.ref a :: As' ∧ S.2 a = (2, 10) := by
  unfold F_X2_copyFrom at h
  split at h
  · exact ⟨_, _, rfl, h.1⟩
  · exact h.elim
set_option maxHeartbeats 1000000 in
theorem f_X2_copyFrom {Z : Zt} {d : Nat} {As : List Value} {S : Sh} {μ : Mi} {ρ : Mr} {Rp : RT} (h : F_X2_copyFrom As S μ ρ (fun r μ' => Rp r S μ' ρ)) : MS Z (d + 1) jX2_copyFrom As S μ ρ Rp := by
  unfold F_X2_copyFrom at h
  split at h
  · rename_i a b
    obtain ⟨a, hNa⟩ : ∃ n : Nat, n = a := ⟨a, rfl⟩
    subst hNa
    obtain ⟨b, hNb⟩ : ∃ n : Nat, n = b := ⟨b, rfl⟩
    subst hNb
    obtain ⟨h1, h2, h3, h4, h5, h6, hp, h⟩ := h
    unfold ap2 at hp
    refine ms_X2_copyFrom _ _ (fun G => ?_)
    simp only [w_X2_copyFrom_0, tAload, tIload, nth, tGetI, tGetR, tConst, tLconst, tBin, tUn, tI2l, tAld, tAldR, tAlen, tIast, tBast, tZast, tAast, tIret, tZret, tVret, tAret, tIf, tIf2, tGoto, tIstore, tAstore, sset, tIinc, tDup, tDup2, tPop, tPutI, tPutZ, tPutR, tCallV, tCallS, popN, tFn, tCopy, tMax, tMin, tSw, swc, tRem, tObjI, Option.toList, List.nil_append, List.cons_append, okR, true_and, and_true, true_or, or_true, Nat.zero_le, ne_eq, not_false_eq_true, Nat.reduceEqDiff, h1, h2, h3, h4, h5, h6]
    simp (disch := omega) only [upI_ne]
    refine ⟨by decide, by decide, by decide, by decide, by decide, h _ (fun i hi => ?_) (fun i hi => ?_) (fun y y1 y2 => ?_)⟩
    · rw [upF_ne (by omega)]
      rcases (by omega : i = 0 ∨ i = 1 ∨ i = 2 ∨ i = 3 ∨ i = 4 ∨ i = 5 ∨ i = 6 ∨ i = 7 ∨ i = 8) with z | z | z | z | z | z | z | z | z <;> subst z <;> simp (disch := omega) only [upI_k, upI_at]
    · rw [upF_same, show (0 : Int32).toNatClampNeg = 0 from rfl, show (6 : Int32).toNatClampNeg = 6 from rfl, cpy_at hi, Nat.zero_add]
    · rw [upF_ne y2, upI_ne y1, upI_ne y1, upI_ne y1, upI_ne y1, upI_ne y1, upI_ne y1, upI_ne y1, upI_ne y1, upI_ne y1]
  · exact h.elim
theorem RR_push {A row : Rw} {w q : Nat} {S : Sh} {μ μ' : Mi} {ρ : Mr} (h : RR A w S μ ρ) (hw : (A 4510).toNatClampNeg < 60) (hq : q = ρ (w + 3) (A 4510).toNatClampNeg) (h2 : μ' (w + 2) = up (μ (w + 2)) 2 (A 4510 + 1)) (hμ : ∀ y : Nat, y ≠ w + 2 → y ≠ q → y ≠ q + 1 → μ' y = μ y) (hm : MsR row (A 4514) q μ') : RR (qPush A row) w S μ' ρ := by
  obtain ⟨wn, w1, w2, -, w3⟩ := rg_ex h.1.2.2.1.2.1.1
  have hM := h.1.2.2.1
  have ec : (A 4510).toNatClampNeg = wn := by rw [w1, nI_clamp w2]
  rw [ec] at hw hq
  obtain ⟨j, j1, j2, -⟩ := WOK_box h.1.1 (i := wn) (by omega)
  have hf : ∀ y, (y < w + 2 ∨ w + 128 ≤ y) → μ' y = μ y := fun y hy => hμ y (by omega) (by omega) (by omega)
  refine ⟨R0_mail h.1 h.1.1 (fun i i1 i2 => qPush_out (by omega) (by omega)) hf ⟨?_, ?_, ?_⟩, Nx_mail h.2 (fun i hi => qPush_out (by omega) (by omega)) hf⟩
  · rw [h2, qPush_w (by omega), qPush_out (by omega) (by omega), qPush_out (by omega) (by omega), qPush_out (by omega) (by omega), up_at, up_ne (by omega), up_ne (by omega), up_ne (by omega)]
    exact ⟨rfl, hM.1.2⟩
  · rw [qPush_w (by omega), qPush_out (by omega) (by omega), w1, nI_s1]
    exact ⟨(rg_nI (by omega)).mpr ⟨by omega, by omega⟩, hM.2.1.2⟩
  · intro i hi
    rw [qPush_w (by omega), w1, nI_s1, nI_clamp (by omega)] at hi
    by_cases c : i = wn
    · subst c
      rw [← hq]
      refine MsR_congr hm (fun k hk => ?_) (qPush_out (by omega) (by omega)) rfl rfl
      show qPush A row (2570 + 21 * i + k) = _
      rw [← ec]
      exact qPush_at hk
    · obtain ⟨j', k1, k2, -⟩ := WOK_box h.1.1 (i := i) (by omega)
      have hne : ρ (w + 3) i ≠ q := by
        rw [hq]
        intro z
        exact c (h.1.1.2.2.2.2.2.2 i wn (by omega) (by omega) z)
      refine MsR_congr (hM.2.2 i (by omega)) (fun k hk => ?_) (qPush_out (by omega) (by omega)) ?_ ?_
      · show qPush A row (2570 + 21 * i + k) = A (2570 + 21 * i + k)
        exact qPush_out (by omega) (by omega)
      · exact hμ _ (by omega) hne (by omega)
      · exact hμ _ (by omega) (by omega) (by omega)
theorem qTwice_push {A : Rw} {i : Nat} (hw : (A 4510).toNatClampNeg < 60) : qTwice A i = qPush A (rowM A i) := by
  funext j
  unfold qTwice qPush rowM up cpF
  by_cases c : j = 4510
  · subst c
    rw [if_pos rfl, if_neg (by omega), if_pos rfl]
  · rw [if_neg c]
    by_cases c2 : 2570 + 21 * (A 4510).toNatClampNeg ≤ j ∧ j < 2570 + 21 * (A 4510).toNatClampNeg + 21
    · rw [if_pos c2, if_pos c2]
    · rw [if_neg c2, if_neg c2, if_neg c]
def w_X10_doubles_26 (M : CT) (G : Nat → PT) (Rp : RT) : PT := tAload 0 <| tGetR 10 6 1 <| tGetR 1 6 0 <| tAload 0 <| tGetR 10 6 1 <| tGetI 1 6 2 <| tAldR 32 <| tAload 0 <| tGetR 10 6 1 <| tGetR 1 6 0 <| tIload 1 <| tAldR 32 <| tFn 2 F_X2_copyFrom <| tAload 0 <| tGetR 10 6 1 <| tDup <| tGetI 1 6 2 <| tConst 1 <| tBin (fun x y => x + y) <| tPutI 1 6 2 <| tAload 0 <| tGetR 10 6 1 <| tGetI 1 6 2 <| tIret Rp
def w_X10_doubles_11 (M : CT) (G : Nat → PT) (Rp : RT) : PT := tAload 0 <| tGetR 10 6 1 <| tGetI 1 6 2 <| tConst 60 <| tIf2 (fun x y => x < y) (w_X10_doubles_26 M G Rp) <| tConst (-4) <| tIret Rp
def w_X10_doubles_0 (M : CT) (G : Nat → PT) (Rp : RT) : PT := tAload 0 <| tIload 1 <| tFn 2 F_X10_isNoMessage <| tIf (fun x => x = 0) (w_X10_doubles_11 M G Rp) <| tConst (-2) <| tIret Rp
set_option maxRecDepth 20000 in
theorem b_X10_doubles_26 {Z : Zt} {d : Nat} {p : Program} {e : Env} {R : Room} {s : State} {m : MethodId} {args : Array Value} {below : List Frame} {meth : Method} {c : Code} {Rp : RT} (C : Cx Z (d + 1) jX10_doubles RX10 p R s m args meth c) : Sd Z jX10_doubles p e R s m args below meth c (MQ below (QcS Z Rp) args s 0 0 (fun a => Z.2.2.1 < a)) 26 (w_X10_doubles_26 (MS Z (d + 1)) (Gw Z 2 p e R s m args below meth c (MQ below (QcS Z Rp) args s 0 0 (fun a => Z.2.2.1 < a))) Rp) := by
  unfold w_X10_doubles_26
  refine s_aload_n (k := 0) C (by decide +kernel) ?_
  refine s_getR C w_2_117 (by decide +kernel) rfl ?_
  refine s_getR C w_1_121 (by decide +kernel) rfl ?_
  refine s_aload_n (k := 0) C (by decide +kernel) ?_
  refine s_getR C w_2_117 (by decide +kernel) rfl ?_
  refine s_getI C w_1_126 (by decide +kernel) rfl ?_
  refine s_aald C rfl (by decide +kernel) ?_
  refine s_aload_n (k := 0) C (by decide +kernel) ?_
  refine s_getR C w_2_117 (by decide +kernel) rfl ?_
  refine s_getR C w_1_121 (by decide +kernel) rfl ?_
  refine s_iload_n (k := 1) C (by decide +kernel) ?_
  refine s_aald C rfl (by decide +kernel) ?_
  refine s_fnV C (j2 := jX2_copyFrom) (cl := 2) (nf := 10) rfl rfl (by decide +kernel) rfl w_4_154 w_3_61 w_3_62 w_1_4 w_3_63 (by decide +kernel) (fun _ _ _ _ _ h => f_X2_copyFrom h) (fun _ _ _ _ _ h => r_X2_copyFrom h) ?_
  refine s_aload_n (k := 0) C (by decide +kernel) ?_
  refine s_getR C w_2_117 (by decide +kernel) rfl ?_
  refine s_dup C (by decide +kernel) ?_
  refine s_getI C w_1_126 (by decide +kernel) rfl ?_
  refine s_iconst (n := 1) C (by decide +kernel) (by decide) ?_
  refine s_iadd C (by decide +kernel) ?_
  refine s_putI C w_1_126 (by decide +kernel) rfl (Or.inl rfl) ?_
  refine s_aload_n (k := 0) C (by decide +kernel) ?_
  refine s_getR C w_2_117 (by decide +kernel) rfl ?_
  refine s_getI C w_1_126 (by decide +kernel) rfl ?_
  exact s_iret C rfl (by decide +kernel)
set_option maxRecDepth 20000 in
theorem b_X10_doubles_11 {Z : Zt} {d : Nat} {p : Program} {e : Env} {R : Room} {s : State} {m : MethodId} {args : Array Value} {below : List Frame} {meth : Method} {c : Code} {Rp : RT} (C : Cx Z (d + 1) jX10_doubles RX10 p R s m args meth c) : Sd Z jX10_doubles p e R s m args below meth c (MQ below (QcS Z Rp) args s 0 0 (fun a => Z.2.2.1 < a)) 11 (w_X10_doubles_11 (MS Z (d + 1)) (Gw Z 2 p e R s m args below meth c (MQ below (QcS Z Rp) args s 0 0 (fun a => Z.2.2.1 < a))) Rp) := by
  unfold w_X10_doubles_11
  refine s_aload_n (k := 0) C (by decide +kernel) ?_
  refine s_getR C w_2_117 (by decide +kernel) rfl ?_
  refine s_getI C w_1_126 (by decide +kernel) rfl ?_
  refine s_bipush (n := 60) C (by decide +kernel) (by decide) ?_
  refine s_icmp_lt (off := 6) (tgt := 26) C (by decide +kernel) (by decide) (b_X10_doubles_26 C) ?_
  refine s_bipush (n := (-4)) C (by decide +kernel) (by decide) ?_
  exact s_iret C rfl (by decide +kernel)
set_option maxRecDepth 20000 in
theorem b_X10_doubles_0 {Z : Zt} {d : Nat} {p : Program} {e : Env} {R : Room} {s : State} {m : MethodId} {args : Array Value} {below : List Frame} {meth : Method} {c : Code} {Rp : RT} (C : Cx Z (d + 1) jX10_doubles RX10 p R s m args meth c) : Sd Z jX10_doubles p e R s m args below meth c (MQ below (QcS Z Rp) args s 0 0 (fun a => Z.2.2.1 < a)) 0 (w_X10_doubles_0 (MS Z (d + 1)) (Gw Z 2 p e R s m args below meth c (MQ below (QcS Z Rp) args s 0 0 (fun a => Z.2.2.1 < a))) Rp) := by
  unfold w_X10_doubles_0
  refine s_aload_n (k := 0) C (by decide +kernel) ?_
  refine s_iload_n (k := 1) C (by decide +kernel) ?_
  refine s_fnV C (j2 := jX10_isNoMessage) (cl := 10) (nf := 6) rfl rfl (by decide +kernel) rfl w_4_63 w_4_65 w_p1_13 w_1_2 w_4_66 (by decide +kernel) (fun _ _ _ _ _ h => f_X10_isNoMessage h) (fun _ _ _ _ _ h => r_X10_isNoMessage h) ?_
  refine s_if_eq (off := 6) (tgt := 11) C (by decide +kernel) (by decide) (b_X10_doubles_11 C) ?_
  refine s_bipush (n := (-2)) C (by decide +kernel) (by decide) ?_
  exact s_iret C rfl (by decide +kernel)
theorem ms_X10_doubles {Z : Zt} {d : Nat} {S : Sh} {μ : Mi} {ρ : Mr} {Rp : RT} (a0 : Nat) (x1 : Int32) (h : ∀ G : Nat → PT, w_X10_doubles_0 (MS Z (d + 1)) G Rp [.ref a0, .int x1] [] S (0, 0) μ ρ) : MS Z (d + 2) jX10_doubles [.ref a0, .int x1] S μ ρ Rp :=
  MS_of [.ref a0, .int x1] (by decide +kernel) rfl rfl (Nat.le_of_ble_eq_true rfl) rfl (fun p e R s m args below meth c C => b_X10_doubles_0 C _ _ _ _ _ _ (h _ ))
def F_X10_doubles : FT := fun As S μ ρ k => match As with
  | [.ref a, .int n] => S.2 a = (10, 6) ∧ ∃ (A : Rw), RR A a S μ ρ ∧ Gd A ∧ ∀ μ', RR (aTwice A n).2 a S μ' ρ → Ot a μ μ' → k (some (.int (aTwice A n).1)) μ'
  | _ => False
theorem r_X10_doubles {As S μ ρ k} (h : F_X10_doubles As S μ ρ k) : ∃ a As', As = Value.ref a :: As' ∧ S.2 a = (10, 6) := by
  unfold F_X10_doubles at h
  split at h
  · exact ⟨_, _, rfl, h.1⟩
  · exact h.elim
set_option maxHeartbeats 1000000 in
theorem f_X10_doubles {Z : Zt} {d : Nat} {As : List Value} {S : Sh} {μ : Mi} {ρ : Mr} {Rp : RT} (h : F_X10_doubles As S μ ρ (fun r μ' => Rp r S μ' ρ)) : MS Z (d + 2) jX10_doubles As S μ ρ Rp := by
  unfold F_X10_doubles at h
  split at h
  · rename_i a n
    obtain ⟨a, hNa⟩ : ∃ n : Nat, n = a := ⟨a, rfl⟩
    subst hNa
    obtain ⟨h1, A, hR, hG, h⟩ := h
    refine ms_X10_doubles _ _ (fun G => ?_)
    have hW := RR_W hR
    have hcm := good_cm (Gd_good hG)
    have hext := Gd_ext hG
    unfold aTwice at h
    have hM := hR.1.2.2.1
    obtain ⟨wn, w1, w2, -, w3⟩ := rg_ex hM.2.1.1
    have e2 : μ (a + 2) 2 = nI wn := hM.1.1.trans w1
    simp only [w_X10_doubles_0, w_X10_doubles_11, tAload, tIload, nth, tGetI, tGetR, tConst, tLconst, tBin, tUn, tI2l, tAld, tAldR, tAlen, tIast, tBast, tZast, tAast, tIret, tZret, tVret, tAret, tIf, tIf2, tGoto, tIstore, tAstore, sset, tIinc, tDup, tDup2, tPop, tPutI, tPutZ, tPutR, tCallV, tCallS, popN, tFn, tCopy, tMax, tMin, tSw, swc, tRem, tObjI, Option.toList, List.nil_append, List.cons_append, okR, true_and, and_true, true_or, or_true, Nat.zero_le, ne_eq, not_false_eq_true, Nat.reduceEqDiff, F_X10_isNoMessage, b2_z, h1, hW.2.2.2.2.1, hW.2.1, e2, Decidable.not_not]
    refine ⟨A, hR, fun c => ⟨fun c2 => ?_, fun c2 => ?_⟩, fun c => ?_⟩
    rotate_left
    · rw [if_neg (not_not_intro c), if_pos] at h
      · exact h μ hR (fun _ _ => rfl)
      · rw [show (60 : Int32) = nI 60 from rfl, nI_ltI w2 (by decide)] at c2
        rw [w1, show (60 : Int32) = nI 60 from rfl, nI_eq w2 (by decide)]
        omega
    · rw [if_pos c] at h
      exact h μ hR (fun _ _ => rfl)
    rw [show (60 : Int32) = nI 60 from rfl, nI_ltI w2 (by decide)] at c2
    rw [if_neg (not_not_intro c), if_neg (by rw [w1, show (60 : Int32) = nI 60 from rfl, nI_eq w2 (by decide)]; omega)] at h
    have ci := c
    unfold isMsg at ci
    rw [w1, nI_toInt w2] at ci
    obtain ⟨i, rfl, hi2, -, ci2⟩ := rg_ex (x := n) (lo := 0) (hi := wn - 1) ⟨ci.1, by omega⟩
    rw [nI_clamp hi2] at h
    have ec : (A 4510).toNatClampNeg = wn := by rw [w1, nI_clamp w2]
    rw [qTwice_push (by omega), qPush_w (by omega), w1, nI_s1] at h
    obtain ⟨j, j1, j2, j3, j4, j5⟩ := WOK_box hW (i := wn) (by omega)
    obtain ⟨l, l1, l2, l3, l4, l5⟩ := WOK_box hW (i := i) (by omega)
    have hne : ρ (a + 3) wn ≠ ρ (a + 3) i := fun z => absurd (hW.2.2.2.2.2.2 wn i (by omega) (by omega) z) (by omega)
    simp only [w_X10_doubles_26, tAload, tIload, nth, tGetI, tGetR, tConst, tLconst, tBin, tUn, tI2l, tAld, tAldR, tAlen, tIast, tBast, tZast, tAast, tIret, tZret, tVret, tAret, tIf, tIf2, tGoto, tIstore, tAstore, sset, tIinc, tDup, tDup2, tPop, tPutI, tPutZ, tPutR, tCallV, tCallS, popN, tFn, tCopy, tMax, tMin, tSw, swc, tRem, tObjI, Option.toList, List.nil_append, List.cons_append, okR, true_and, and_true, true_or, or_true, Nat.zero_le, ne_eq, not_false_eq_true, Nat.reduceEqDiff, F_X2_copyFrom, h1, hW.2.2.2.2.1, hW.2.1, e2, nI_clamp w2, nI_clamp hi2, j3, j4, j5, l3, l4, l5]
    refine ⟨inb_nI (by omega) (by decide), by omega, inb_nI (by omega) (by decide), by omega, by unfold ap2; omega, fun μ1 q1 q2 q3 => ?_⟩
    have e2' : μ1 (a + 2) 2 = nI wn := by rw [q3 _ (by omega) (by omega)]; exact e2
    rw [e2', nI_s1, upI_at]
    refine h _ (RR_push hR (by omega) (by rw [ec]) ?_ (fun y y1 y2 y3 => ?_) (MsR_copy (hM.2.2 i (by omega)) (fun i hi => ?_) (fun i hi => ?_))) (fun y hy => ?_)
    · rw [upI_upF, upF_same, q3 _ (by omega) (by omega), w1, nI_s1]
    · rw [upI_ne y1]; exact q3 y y2 y3
    · rw [upI_ne (by omega)]; exact q1 i hi
    · rw [upI_ne (by omega)]; exact q2 i hi
    · rw [upI_ne (by omega)]; exact q3 y (by omega) (by omega)
  · exact h.elim
def w_X10_loses_11 (M : CT) (G : Nat → PT) (Rp : RT) : PT := tAload 0 <| tGetR 10 6 1 <| tIload 1 <| tFn2 2 F_X1_takeOut <| tPop <| tAload 0 <| tGetR 10 6 1 <| tDup <| tGetI 1 6 3 <| tConst 1 <| tBin (fun x y => x + y) <| tPutI 1 6 3 <| tAload 0 <| tGetR 10 6 1 <| tGetI 1 6 2 <| tIret Rp
def w_X10_loses_0 (M : CT) (G : Nat → PT) (Rp : RT) : PT := tAload 0 <| tIload 1 <| tFn 2 F_X10_isNoMessage <| tIf (fun x => x = 0) (w_X10_loses_11 M G Rp) <| tConst (-2) <| tIret Rp
set_option maxRecDepth 20000 in
theorem b_X10_loses_11 {Z : Zt} {d : Nat} {p : Program} {e : Env} {R : Room} {s : State} {m : MethodId} {args : Array Value} {below : List Frame} {meth : Method} {c : Code} {Rp : RT} (C : Cx Z (d + 1) jX10_loses RX10 p R s m args meth c) : Sd Z jX10_loses p e R s m args below meth c (MQ below (QcS Z Rp) args s 0 0 (fun a => Z.2.2.1 < a)) 11 (w_X10_loses_11 (MS Z (d + 1)) (Gw Z 2 p e R s m args below meth c (MQ below (QcS Z Rp) args s 0 0 (fun a => Z.2.2.1 < a))) Rp) := by
  unfold w_X10_loses_11
  refine s_aload_n (k := 0) C (by decide +kernel) ?_
  refine s_getR C w_2_117 (by decide +kernel) rfl ?_
  refine s_iload_n (k := 1) C (by decide +kernel) ?_
  refine s_fnV2 C (j2 := jX1_takeOut) (cl := 1) (nf := 6) rfl rfl (by decide +kernel) rfl w_4_71 w_4_72 w_4_73 w_1_3 w_4_74 (by decide +kernel) (fun _ _ _ _ _ h => f_X1_takeOut h) (fun _ _ _ _ _ h => r_X1_takeOut h) ?_
  refine s_pop C (by decide +kernel) ?_
  refine s_aload_n (k := 0) C (by decide +kernel) ?_
  refine s_getR C w_2_117 (by decide +kernel) rfl ?_
  refine s_dup C (by decide +kernel) ?_
  refine s_getI C w_1_131 (by decide +kernel) rfl ?_
  refine s_iconst (n := 1) C (by decide +kernel) (by decide) ?_
  refine s_iadd C (by decide +kernel) ?_
  refine s_putI C w_1_131 (by decide +kernel) rfl (Or.inl rfl) ?_
  refine s_aload_n (k := 0) C (by decide +kernel) ?_
  refine s_getR C w_2_117 (by decide +kernel) rfl ?_
  refine s_getI C w_1_126 (by decide +kernel) rfl ?_
  exact s_iret C rfl (by decide +kernel)
set_option maxRecDepth 20000 in
theorem b_X10_loses_0 {Z : Zt} {d : Nat} {p : Program} {e : Env} {R : Room} {s : State} {m : MethodId} {args : Array Value} {below : List Frame} {meth : Method} {c : Code} {Rp : RT} (C : Cx Z (d + 1) jX10_loses RX10 p R s m args meth c) : Sd Z jX10_loses p e R s m args below meth c (MQ below (QcS Z Rp) args s 0 0 (fun a => Z.2.2.1 < a)) 0 (w_X10_loses_0 (MS Z (d + 1)) (Gw Z 2 p e R s m args below meth c (MQ below (QcS Z Rp) args s 0 0 (fun a => Z.2.2.1 < a))) Rp) := by
  unfold w_X10_loses_0
  refine s_aload_n (k := 0) C (by decide +kernel) ?_
  refine s_iload_n (k := 1) C (by decide +kernel) ?_
  refine s_fnV C (j2 := jX10_isNoMessage) (cl := 10) (nf := 6) rfl rfl (by decide +kernel) rfl w_4_63 w_4_65 w_p1_13 w_1_2 w_4_66 (by decide +kernel) (fun _ _ _ _ _ h => f_X10_isNoMessage h) (fun _ _ _ _ _ h => r_X10_isNoMessage h) ?_
  refine s_if_eq (off := 6) (tgt := 11) C (by decide +kernel) (by decide) (b_X10_loses_11 C) ?_
  refine s_bipush (n := (-2)) C (by decide +kernel) (by decide) ?_
  exact s_iret C rfl (by decide +kernel)
theorem ms_X10_loses {Z : Zt} {d : Nat} {S : Sh} {μ : Mi} {ρ : Mr} {Rp : RT} (a0 : Nat) (x1 : Int32) (h : ∀ G : Nat → PT, w_X10_loses_0 (MS Z (d + 1)) G Rp [.ref a0, .int x1] [] S (0, 0) μ ρ) : MS Z (d + 2) jX10_loses [.ref a0, .int x1] S μ ρ Rp :=
  MS_of [.ref a0, .int x1] (by decide +kernel) rfl rfl (Nat.le_of_ble_eq_true rfl) rfl (fun p e R s m args below meth c C => b_X10_loses_0 C _ _ _ _ _ _ (h _ ))
def F_X10_loses : FT2 := fun As S μ ρ k => match As with
  | [.ref a, .int n] => S.2 a = (10, 6) ∧ ∃ (A : Rw), RR A a S μ ρ ∧ Gd A ∧ ∀ (μ' : Mi) (ρ' : Mr), RR (aLose A n).2 a S μ' ρ' → Ot a μ μ' → Orf a ρ ρ' → k (some (.int (aLose A n).1)) μ' ρ'
  | _ => False
theorem r_X10_loses {As S μ ρ k} (h : F_X10_loses As S μ ρ k) : ∃ a As', As = Value.ref a :: As' ∧ S.2 a = (10, 6) := by
  unfold F_X10_loses at h
  split at h
  · exact ⟨_, _, rfl, h.1⟩
  · exact h.elim
set_option maxHeartbeats 1000000 in
theorem f_X10_loses {Z : Zt} {d : Nat} {As : List Value} {S : Sh} {μ : Mi} {ρ : Mr} {Rp : RT} (h : F_X10_loses As S μ ρ (fun r μ' ρ' => Rp r S μ' ρ')) : MS Z (d + 2) jX10_loses As S μ ρ Rp := by
  unfold F_X10_loses at h
  split at h
  · rename_i a n
    obtain ⟨a, hNa⟩ : ∃ n : Nat, n = a := ⟨a, rfl⟩
    subst hNa
    obtain ⟨h1, A, hR, hG, h⟩ := h
    refine ms_X10_loses _ _ (fun G => ?_)
    have hW := RR_W hR
    have hcm := good_cm (Gd_good hG)
    have hext := Gd_ext hG
    unfold aLose at h
    have hM := hR.1.2.2.1
    obtain ⟨wn, w1, w2, -, w3⟩ := rg_ex hM.2.1.1
    have ec : (A 4510).toNatClampNeg = wn := by rw [w1, nI_clamp w2]
    simp only [w_X10_loses_0, tAload, tIload, nth, tGetI, tGetR, tConst, tLconst, tBin, tUn, tI2l, tAld, tAldR, tAlen, tIast, tBast, tZast, tAast, tIret, tZret, tVret, tAret, tIf, tIf2, tGoto, tIstore, tAstore, sset, tIinc, tDup, tDup2, tPop, tPutI, tPutZ, tPutR, tCallV, tCallS, popN, tFn, tCopy, tMax, tMin, tSw, swc, tRem, tObjI, Option.toList, List.nil_append, List.cons_append, okR, true_and, and_true, true_or, or_true, Nat.zero_le, ne_eq, not_false_eq_true, Nat.reduceEqDiff, tFn2, F_X10_isNoMessage, b2_z, h1, Decidable.not_not]
    refine ⟨A, hR, fun c => ?_, fun c => ?_⟩
    rotate_left
    · rw [if_pos c] at h
      exact h μ ρ hR (fun _ _ => rfl) (fun _ _ => rfl)
    rw [if_neg (not_not_intro c)] at h
    have ci := c
    unfold isMsg at ci
    rw [w1, nI_toInt w2] at ci
    obtain ⟨i, rfl, hi2, -, ci2⟩ := rg_ex (x := n) (lo := 0) (hi := wn - 1) ⟨ci.1, by omega⟩
    rw [nI_clamp hi2] at h
    simp only [w_X10_loses_11, tAload, tIload, nth, tGetI, tGetR, tConst, tLconst, tBin, tUn, tI2l, tAld, tAldR, tAlen, tIast, tBast, tZast, tAast, tIret, tZret, tVret, tAret, tIf, tIf2, tGoto, tIstore, tAstore, sset, tIinc, tDup, tDup2, tPop, tPutI, tPutZ, tPutR, tCallV, tCallS, popN, tFn, tCopy, tMax, tMin, tSw, swc, tRem, tObjI, Option.toList, List.nil_append, List.cons_append, okR, true_and, and_true, true_or, or_true, Nat.zero_le, ne_eq, not_false_eq_true, Nat.reduceEqDiff, tFn2, F_X1_takeOut, h1, hW.2.2.2.2.1, hW.2.1]
    refine ⟨a, i, wn - 1, A, rfl, hR, rfl, by omega, by omega, fun μ1 ρ1 r1 b1 m1 k1 k2 => ?_⟩
    have hW1 := RR_W r1
    have e3 : μ1 (a + 2) 3 = qOut A i 4511 := r1.1.2.2.1.1.2.1
    simp only [hW1.2.2.2.2.1, e3]
    have r2 := RR_m3 (v := qOut A i 4511 + 1) r1
    rw [r2.1.2.2.1.1.1]
    have hm1 := hW.2.1.2.2.1
    refine ⟨by omega, hm1, hm1, by omega, hm1, ?_⟩
    exact h _ _ r2 (fun y hy => by rw [upI_ne (by omega)]; exact k1 y (by omega)) k2
  · exact h.elim
def w_X10_comes_18 (M : CT) (G : Nat → PT) (Rp : RT) : PT := tIret Rp
def w_X10_comes_13 (M : CT) (G : Nat → PT) (Rp : RT) : PT := tAload 0 <| tIload 1 <| tFn2 2 F_X10_takeIn <| w_X10_comes_18 M G Rp
def w_X10_comes_0 (M : CT) (G : Nat → PT) (Rp : RT) : PT := tAload 0 <| tIload 1 <| tFn 2 F_X10_isNoMessage <| tIf (fun x => x = 0) (w_X10_comes_13 M G Rp) <| tConst (-2) <| tGoto (w_X10_comes_18 M G Rp)
set_option maxRecDepth 20000 in
theorem b_X10_comes_18 {Z : Zt} {d : Nat} {p : Program} {e : Env} {R : Room} {s : State} {m : MethodId} {args : Array Value} {below : List Frame} {meth : Method} {c : Code} {Rp : RT} (C : Cx Z (d + 5) jX10_comes RX10 p R s m args meth c) : Sd Z jX10_comes p e R s m args below meth c (MQ below (QcS Z Rp) args s 0 0 (fun a => Z.2.2.1 < a)) 18 (w_X10_comes_18 (MS Z (d + 5)) (Gw Z 2 p e R s m args below meth c (MQ below (QcS Z Rp) args s 0 0 (fun a => Z.2.2.1 < a))) Rp) := by
  unfold w_X10_comes_18
  exact s_iret C rfl (by decide +kernel)
set_option maxRecDepth 20000 in
theorem b_X10_comes_13 {Z : Zt} {d : Nat} {p : Program} {e : Env} {R : Room} {s : State} {m : MethodId} {args : Array Value} {below : List Frame} {meth : Method} {c : Code} {Rp : RT} (C : Cx Z (d + 5) jX10_comes RX10 p R s m args meth c) : Sd Z jX10_comes p e R s m args below meth c (MQ below (QcS Z Rp) args s 0 0 (fun a => Z.2.2.1 < a)) 13 (w_X10_comes_13 (MS Z (d + 5)) (Gw Z 2 p e R s m args below meth c (MQ below (QcS Z Rp) args s 0 0 (fun a => Z.2.2.1 < a))) Rp) := by
  unfold w_X10_comes_13
  refine s_aload_n (k := 0) C (by decide +kernel) ?_
  refine s_iload_n (k := 1) C (by decide +kernel) ?_
  refine s_fnV2 C (j2 := jX10_takeIn) (cl := 10) (nf := 6) rfl rfl (by decide +kernel) rfl w_4_67 w_4_68 w_4_69 w_1_2 w_4_70 (by decide +kernel) (fun _ _ _ _ _ h => f_X10_takeIn h) (fun _ _ _ _ _ h => r_X10_takeIn h) ?_
  exact (b_X10_comes_18 C)
set_option maxRecDepth 20000 in
theorem b_X10_comes_0 {Z : Zt} {d : Nat} {p : Program} {e : Env} {R : Room} {s : State} {m : MethodId} {args : Array Value} {below : List Frame} {meth : Method} {c : Code} {Rp : RT} (C : Cx Z (d + 5) jX10_comes RX10 p R s m args meth c) : Sd Z jX10_comes p e R s m args below meth c (MQ below (QcS Z Rp) args s 0 0 (fun a => Z.2.2.1 < a)) 0 (w_X10_comes_0 (MS Z (d + 5)) (Gw Z 2 p e R s m args below meth c (MQ below (QcS Z Rp) args s 0 0 (fun a => Z.2.2.1 < a))) Rp) := by
  unfold w_X10_comes_0
  refine s_aload_n (k := 0) C (by decide +kernel) ?_
  refine s_iload_n (k := 1) C (by decide +kernel) ?_
  refine s_fnV C (j2 := jX10_isNoMessage) (cl := 10) (nf := 6) rfl rfl (by decide +kernel) rfl w_4_63 w_4_65 w_p1_13 w_1_2 w_4_66 (by decide +kernel) (fun _ _ _ _ _ h => f_X10_isNoMessage h) (fun _ _ _ _ _ h => r_X10_isNoMessage h) ?_
  refine s_if_eq (off := 8) (tgt := 13) C (by decide +kernel) (by decide) (b_X10_comes_13 C) ?_
  refine s_bipush (n := (-2)) C (by decide +kernel) (by decide) ?_
  exact s_goto (off := 8) (tgt := 18) C (by decide +kernel) (by decide) (b_X10_comes_18 C)
theorem ms_X10_comes {Z : Zt} {d : Nat} {S : Sh} {μ : Mi} {ρ : Mr} {Rp : RT} (a0 : Nat) (x1 : Int32) (h : ∀ G : Nat → PT, w_X10_comes_0 (MS Z (d + 5)) G Rp [.ref a0, .int x1] [] S (0, 0) μ ρ) : MS Z (d + 6) jX10_comes [.ref a0, .int x1] S μ ρ Rp :=
  MS_of [.ref a0, .int x1] (by decide +kernel) rfl rfl (Nat.le_of_ble_eq_true rfl) rfl (fun p e R s m args below meth c C => b_X10_comes_0 C _ _ _ _ _ _ (h _ ))
def F_X10_comes : FT2 := fun As S μ ρ k => match As with
  | [.ref a, .int n] => S.2 a = (10, 6) ∧ ∃ (A : Rw), RR A a S μ ρ ∧ Gd A ∧ ∀ (μ' : Mi) (ρ' : Mr), RR (aCome A n).2 a S μ' ρ' → Ot a μ μ' → Orf a ρ ρ' → k (some (.int (aCome A n).1)) μ' ρ'
  | _ => False
theorem r_X10_comes {As S μ ρ k} (h : F_X10_comes As S μ ρ k) : ∃ a As', As = Value.ref a :: As' ∧ S.2 a = (10, 6) := by
  unfold F_X10_comes at h
  split at h
  · exact ⟨_, _, rfl, h.1⟩
  · exact h.elim
set_option maxHeartbeats 1000000 in
theorem f_X10_comes {Z : Zt} {d : Nat} {As : List Value} {S : Sh} {μ : Mi} {ρ : Mr} {Rp : RT} (h : F_X10_comes As S μ ρ (fun r μ' ρ' => Rp r S μ' ρ')) : MS Z (d + 6) jX10_comes As S μ ρ Rp := by
  unfold F_X10_comes at h
  split at h
  · rename_i a n
    obtain ⟨a, hNa⟩ : ∃ n : Nat, n = a := ⟨a, rfl⟩
    subst hNa
    obtain ⟨h1, A, hR, hG, h⟩ := h
    refine ms_X10_comes _ _ (fun G => ?_)
    have hW := RR_W hR
    have hcm := good_cm (Gd_good hG)
    have hext := Gd_ext hG
    unfold aCome at h
    have hM := hR.1.2.2.1
    obtain ⟨wn, w1, w2, -, w3⟩ := rg_ex hM.2.1.1
    have ec : (A 4510).toNatClampNeg = wn := by rw [w1, nI_clamp w2]
    simp only [w_X10_comes_0, w_X10_comes_13, w_X10_comes_18, tAload, tIload, nth, tGetI, tGetR, tConst, tLconst, tBin, tUn, tI2l, tAld, tAldR, tAlen, tIast, tBast, tZast, tAast, tIret, tZret, tVret, tAret, tIf, tIf2, tGoto, tIstore, tAstore, sset, tIinc, tDup, tDup2, tPop, tPutI, tPutZ, tPutR, tCallV, tCallS, popN, tFn, tCopy, tMax, tMin, tSw, swc, tRem, tObjI, Option.toList, List.nil_append, List.cons_append, okR, true_and, and_true, true_or, or_true, Nat.zero_le, ne_eq, not_false_eq_true, Nat.reduceEqDiff, tFn2, F_X10_isNoMessage, F_X10_takeIn, b2_z, h1, Decidable.not_not]
    refine ⟨A, hR, fun c => ?_, fun c => ?_⟩
    rotate_left
    · rw [if_pos c] at h
      exact h μ ρ hR (fun _ _ => rfl) (fun _ _ => rfl)
    rw [if_neg (not_not_intro c)] at h
    have ci := c
    unfold isMsg at ci
    rw [w1, nI_toInt w2] at ci
    obtain ⟨i, rfl, hi2, -, ci2⟩ := rg_ex (x := n) (lo := 0) (hi := wn - 1) ⟨ci.1, by omega⟩
    rw [nI_clamp hi2] at h
    exact ⟨i, A, hR, rfl, by omega, hG, fun μ' ρ' r o p => h μ' ρ' r o p⟩
  · exact h.elim
theorem orf_trans {w : Nat} {ρ ρ' ρ'' : Mr} (h : Orf w ρ ρ') (h2 : Orf w ρ' ρ'') : Orf w ρ ρ'' := fun y hy => (h2 y hy).trans (h y hy)
theorem setF_st {n : Nat} {A : Rw} : setF (n + 1) A = if 0 < A 4510 then setF n (qComes A 0) else A := rfl
theorem setN_st {n : Nat} {A : Rw} : setN (n + 1) A = if 0 < A 4510 then setN n (qComes A 0) + 1 else 0 := rfl
theorem wait_pos {A : Rw} (h : rg (A 4510) 0 60) : (0 < A 4510 ↔ 0 < (A 4510).toNatClampNeg) ∧ (A 4510 ≤ 0 ↔ ¬ 0 < A 4510) := by
  obtain ⟨w, w1, w2, -, w3⟩ := rg_ex h
  rw [w1, nI_clamp w2, show (0 : Int32) = nI 0 from rfl, nI_ltI (by decide) w2, nI_leI w2 (by decide)]
  omega
def w_X10_settles_57 (M : CT) (G : Nat → PT) (Rp : RT) : PT := tIload 2 <| tIret Rp
def w_X10_settles_30 (M : CT) (G : Nat → PT) (Rp : RT) : PT := tIload 2 <| tIload 1 <| tIf2 (fun x y => y ≤ x) (w_X10_settles_57 M G Rp) <| tAload 0 <| tGetR 10 6 1 <| tGetI 1 6 2 <| tIf (fun x => x ≤ 0) (w_X10_settles_57 M G Rp) <| tAload 0 <| tConst 0 <| tFn2 2 F_X10_takeIn <| tPop <| tIinc 2 1 <| tGoto (G 30)
def w_X10_settles_28 (M : CT) (G : Nat → PT) (Rp : RT) : PT := tConst 0 <| tIstore 2 <| G 30
def w_X10_settles_15 (M : CT) (G : Nat → PT) (Rp : RT) : PT := tAload 0 <| tGetR 10 6 1 <| tGetI 1 6 2 <| tIf (fun x => x ≠ 0) (w_X10_settles_28 M G Rp) <| tConst (-5) <| tIret Rp
def w_X10_settles_12 (M : CT) (G : Nat → PT) (Rp : RT) : PT := tConst (-3) <| tIret Rp
def w_X10_settles_0 (M : CT) (G : Nat → PT) (Rp : RT) : PT := tIload 1 <| tConst 1 <| tIf2 (fun x y => x < y) (w_X10_settles_12 M G Rp) <| tIload 1 <| tConst 200 <| tIf2 (fun x y => x ≤ y) (w_X10_settles_15 M G Rp) <| w_X10_settles_12 M G Rp
set_option maxRecDepth 20000 in
theorem b_X10_settles_57 {Z : Zt} {d : Nat} {p : Program} {e : Env} {R : Room} {s : State} {m : MethodId} {args : Array Value} {below : List Frame} {meth : Method} {c : Code} {Rp : RT} (C : Cx Z (d + 5) jX10_settles RX10 p R s m args meth c) : Sd Z jX10_settles p e R s m args below meth c (MQ below (QcS Z Rp) args s 0 0 (fun a => Z.2.2.1 < a)) 57 (w_X10_settles_57 (MS Z (d + 5)) (Gw Z 3 p e R s m args below meth c (MQ below (QcS Z Rp) args s 0 0 (fun a => Z.2.2.1 < a))) Rp) := by
  unfold w_X10_settles_57
  refine s_iload_n (k := 2) C (by decide +kernel) ?_
  exact s_iret C rfl (by decide +kernel)
set_option maxRecDepth 20000 in
theorem b_X10_settles_30 {Z : Zt} {d : Nat} {p : Program} {e : Env} {R : Room} {s : State} {m : MethodId} {args : Array Value} {below : List Frame} {meth : Method} {c : Code} {Rp : RT} (C : Cx Z (d + 5) jX10_settles RX10 p R s m args meth c) : Sd Z jX10_settles p e R s m args below meth c (MQ below (QcS Z Rp) args s 0 0 (fun a => Z.2.2.1 < a)) 30 (w_X10_settles_30 (MS Z (d + 5)) (Gw Z 3 p e R s m args below meth c (MQ below (QcS Z Rp) args s 0 0 (fun a => Z.2.2.1 < a))) Rp) := by
  unfold w_X10_settles_30
  refine s_iload_n (k := 2) C (by decide +kernel) ?_
  refine s_iload_n (k := 1) C (by decide +kernel) ?_
  refine s_icmp_ge (off := 25) (tgt := 57) C (by decide +kernel) (by decide) (b_X10_settles_57 C) ?_
  refine s_aload_n (k := 0) C (by decide +kernel) ?_
  refine s_getR C w_2_117 (by decide +kernel) rfl ?_
  refine s_getI C w_1_126 (by decide +kernel) rfl ?_
  refine s_if_le (off := 15) (tgt := 57) C (by decide +kernel) (by decide) (b_X10_settles_57 C) ?_
  refine s_aload_n (k := 0) C (by decide +kernel) ?_
  refine s_iconst (n := 0) C (by decide +kernel) (by decide) ?_
  refine s_fnV2 C (j2 := jX10_takeIn) (cl := 10) (nf := 6) rfl rfl (by decide +kernel) rfl w_4_67 w_4_68 w_4_69 w_1_2 w_4_70 (by decide +kernel) (fun _ _ _ _ _ h => f_X10_takeIn h) (fun _ _ _ _ _ h => r_X10_takeIn h) ?_
  refine s_pop C (by decide +kernel) ?_
  refine s_iinc (n := 1) C (by decide +kernel) (by decide) ?_
  exact s_goto (off := (-24)) (tgt := 30) C (by decide +kernel) (by decide) (fun _ _ _ _ _ _ h => h)
set_option maxRecDepth 20000 in
theorem b_X10_settles_28 {Z : Zt} {d : Nat} {p : Program} {e : Env} {R : Room} {s : State} {m : MethodId} {args : Array Value} {below : List Frame} {meth : Method} {c : Code} {Rp : RT} (C : Cx Z (d + 5) jX10_settles RX10 p R s m args meth c) : Sd Z jX10_settles p e R s m args below meth c (MQ below (QcS Z Rp) args s 0 0 (fun a => Z.2.2.1 < a)) 28 (w_X10_settles_28 (MS Z (d + 5)) (Gw Z 3 p e R s m args below meth c (MQ below (QcS Z Rp) args s 0 0 (fun a => Z.2.2.1 < a))) Rp) := by
  unfold w_X10_settles_28
  refine s_iconst (n := 0) C (by decide +kernel) (by decide) ?_
  refine s_istore_n (k := 2) C (by decide +kernel) ?_
  exact (fun _ _ _ _ _ _ h => h)
set_option maxRecDepth 20000 in
theorem b_X10_settles_15 {Z : Zt} {d : Nat} {p : Program} {e : Env} {R : Room} {s : State} {m : MethodId} {args : Array Value} {below : List Frame} {meth : Method} {c : Code} {Rp : RT} (C : Cx Z (d + 5) jX10_settles RX10 p R s m args meth c) : Sd Z jX10_settles p e R s m args below meth c (MQ below (QcS Z Rp) args s 0 0 (fun a => Z.2.2.1 < a)) 15 (w_X10_settles_15 (MS Z (d + 5)) (Gw Z 3 p e R s m args below meth c (MQ below (QcS Z Rp) args s 0 0 (fun a => Z.2.2.1 < a))) Rp) := by
  unfold w_X10_settles_15
  refine s_aload_n (k := 0) C (by decide +kernel) ?_
  refine s_getR C w_2_117 (by decide +kernel) rfl ?_
  refine s_getI C w_1_126 (by decide +kernel) rfl ?_
  refine s_if_ne (off := 6) (tgt := 28) C (by decide +kernel) (by decide) (b_X10_settles_28 C) ?_
  refine s_bipush (n := (-5)) C (by decide +kernel) (by decide) ?_
  exact s_iret C rfl (by decide +kernel)
set_option maxRecDepth 20000 in
theorem b_X10_settles_12 {Z : Zt} {d : Nat} {p : Program} {e : Env} {R : Room} {s : State} {m : MethodId} {args : Array Value} {below : List Frame} {meth : Method} {c : Code} {Rp : RT} (C : Cx Z (d + 5) jX10_settles RX10 p R s m args meth c) : Sd Z jX10_settles p e R s m args below meth c (MQ below (QcS Z Rp) args s 0 0 (fun a => Z.2.2.1 < a)) 12 (w_X10_settles_12 (MS Z (d + 5)) (Gw Z 3 p e R s m args below meth c (MQ below (QcS Z Rp) args s 0 0 (fun a => Z.2.2.1 < a))) Rp) := by
  unfold w_X10_settles_12
  refine s_bipush (n := (-3)) C (by decide +kernel) (by decide) ?_
  exact s_iret C rfl (by decide +kernel)
set_option maxRecDepth 20000 in
theorem b_X10_settles_0 {Z : Zt} {d : Nat} {p : Program} {e : Env} {R : Room} {s : State} {m : MethodId} {args : Array Value} {below : List Frame} {meth : Method} {c : Code} {Rp : RT} (C : Cx Z (d + 5) jX10_settles RX10 p R s m args meth c) : Sd Z jX10_settles p e R s m args below meth c (MQ below (QcS Z Rp) args s 0 0 (fun a => Z.2.2.1 < a)) 0 (w_X10_settles_0 (MS Z (d + 5)) (Gw Z 3 p e R s m args below meth c (MQ below (QcS Z Rp) args s 0 0 (fun a => Z.2.2.1 < a))) Rp) := by
  unfold w_X10_settles_0
  refine s_iload_n (k := 1) C (by decide +kernel) ?_
  refine s_iconst (n := 1) C (by decide +kernel) (by decide) ?_
  refine s_icmp_lt (off := 10) (tgt := 12) C (by decide +kernel) (by decide) (b_X10_settles_12 C) ?_
  refine s_iload_n (k := 1) C (by decide +kernel) ?_
  refine s_sipush (n := 200) C (by decide +kernel) (by decide) ?_
  refine s_icmp_le (off := 6) (tgt := 15) C (by decide +kernel) (by decide) (b_X10_settles_15 C) ?_
  exact (b_X10_settles_12 C)
theorem ms_X10_settles {Z : Zt} {d : Nat} {S : Sh} {μ : Mi} {ρ : Mr} {Rp : RT} (a0 : Nat) (x1 : Int32) (h : ∀ G : Nat → PT, (∀ (L st : List Value) (S : Sh) (q : Nat × Nat) (μ : Mi) (ρ : Mr), w_X10_settles_30 (MS Z (d + 5)) G Rp L st S q μ ρ → G 30 L st S q μ ρ) → w_X10_settles_0 (MS Z (d + 5)) G Rp [.ref a0, .int x1, .null] [] S (0, 0) μ ρ) : MS Z (d + 6) jX10_settles [.ref a0, .int x1] S μ ρ Rp :=
  MS_of [.ref a0, .int x1, .null] (by decide +kernel) rfl rfl (Nat.le_of_ble_eq_true rfl) rfl (fun p e R s m args below meth c C => b_X10_settles_0 C _ _ _ _ _ _ (h _ (b_X10_settles_30 C)))
def F_X10_settles : FT2 := fun As S μ ρ k => match As with
  | [.ref a, .int n] => S.2 a = (10, 6) ∧ ∃ (A : Rw), RR A a S μ ρ ∧ Gd A ∧ ∀ (μ' : Mi) (ρ' : Mr), RR (aSettle A n).2 a S μ' ρ' → Ot a μ μ' → Orf a ρ ρ' → k (some (.int (aSettle A n).1)) μ' ρ'
  | _ => False
theorem r_X10_settles {As S μ ρ k} (h : F_X10_settles As S μ ρ k) : ∃ a As', As = Value.ref a :: As' ∧ S.2 a = (10, 6) := by
  unfold F_X10_settles at h
  split at h
  · exact ⟨_, _, rfl, h.1⟩
  · exact h.elim
set_option maxHeartbeats 1000000 in
theorem f_X10_settles {Z : Zt} {d : Nat} {As : List Value} {S : Sh} {μ : Mi} {ρ : Mr} {Rp : RT} (h : F_X10_settles As S μ ρ (fun r μ' ρ' => Rp r S μ' ρ')) : MS Z (d + 6) jX10_settles As S μ ρ Rp := by
  unfold F_X10_settles at h
  split at h
  · rename_i a n
    obtain ⟨a, hNa⟩ : ∃ n : Nat, n = a := ⟨a, rfl⟩
    subst hNa
    obtain ⟨h1, A, hR, hG, h⟩ := h
    refine ms_X10_settles _ _ (fun G g30 => ?_)
    have hW := RR_W hR
    have hcm := good_cm (Gd_good hG)
    have hext := Gd_ext hG
    unfold aSettle at h
    have e := rg_05 (x := n) (lo := 1) (hi := 200) (l := 1) (h := 200) (by decide) (by decide)
    have e2 : μ (a + 2) 2 = A 4510 := hR.1.2.2.1.1.1
    have bad : ¬ rgd n 1 200 → Rp (some (.int (-3))) S μ ρ := by
      intro c
      rw [if_pos c] at h
      exact h μ ρ hR (fun _ _ => rfl) (fun _ _ => rfl)
    simp only [w_X10_settles_0, w_X10_settles_12, w_X10_settles_15, w_X10_settles_28, tAload, tIload, nth, tGetI, tGetR, tConst, tLconst, tBin, tUn, tI2l, tAld, tAldR, tAlen, tIast, tBast, tZast, tAast, tIret, tZret, tVret, tAret, tIf, tIf2, tGoto, tIstore, tAstore, sset, tIinc, tDup, tDup2, tPop, tPutI, tPutZ, tPutR, tCallV, tCallS, popN, tFn, tCopy, tMax, tMin, tSw, swc, tRem, tObjI, Option.toList, List.nil_append, List.cons_append, okR, true_and, and_true, true_or, or_true, Nat.zero_le, ne_eq, not_false_eq_true, Nat.reduceEqDiff, tFn2, h1, hW.2.2.2.2.1, hW.2.1, e2]
    refine ⟨fun c => bad (fun z => (e.mpr z).1 c), fun c => ⟨fun c2 => ⟨fun c3 => ?_, fun c3 => ?_⟩, fun c2 => bad (fun z => c2 (e.mpr z).2)⟩⟩
    rotate_left
    · rw [if_neg (not_not_intro (e.mp ⟨c, c2⟩)), if_pos (Classical.not_not.mp c3)] at h
      exact h μ ρ hR (fun _ _ => rfl) (fun _ _ => rfl)
    rw [if_neg (not_not_intro (e.mp ⟨c, c2⟩)), if_neg c3] at h
    obtain ⟨N, rfl, n2, n3, n4⟩ := rg_ex (lo := 1) (hi := 200) (e.mp ⟨c, c2⟩)
    rw [nI_clamp n2] at h
    have loop : ∀ (m k : Nat) (B : Rw) (ν : Mi) (ρ' : Mr), k + m = N → RR B a S ν ρ' → Gd B → Ot a μ ν → Orf a ρ ρ' → (∀ ν' ρ'', RR (setF m B) a S ν' ρ'' → Ot a μ ν' → Orf a ρ ρ'' → Rp (some (.int (nI (k + setN m B)))) S ν' ρ'') → G 30 [.ref a, .int (nI N), .int (nI k)] [] S (0, 0) ν ρ' := by
      intro m
      induction m with
      | zero =>
        intro k B ν ρ' hk r hg o p hh
        apply g30
        simp only [w_X10_settles_30, w_X10_settles_57, tAload, tIload, nth, tGetI, tGetR, tConst, tLconst, tBin, tUn, tI2l, tAld, tAldR, tAlen, tIast, tBast, tZast, tAast, tIret, tZret, tVret, tAret, tIf, tIf2, tGoto, tIstore, tAstore, sset, tIinc, tDup, tDup2, tPop, tPutI, tPutZ, tPutR, tCallV, tCallS, popN, tFn, tCopy, tMax, tMin, tSw, swc, tRem, tObjI, Option.toList, List.nil_append, List.cons_append, okR, true_and, and_true, true_or, or_true, Nat.zero_le, ne_eq, not_false_eq_true, Nat.reduceEqDiff, tFn2]
        exact ⟨fun _ => hh ν ρ' r o p, fun z => absurd (by rw [nI_leI (by omega) (by omega)]; omega) z⟩
      | succ m ih =>
        intro k B ν ρ' hk r hg o p hh
        rw [setF_st, setN_st] at hh
        have hwp := wait_pos r.1.2.2.1.2.1.1
        have hW' := RR_W r
        have e2' : ν (a + 2) 2 = B 4510 := r.1.2.2.1.1.1
        apply g30
        simp only [w_X10_settles_30, w_X10_settles_57, tAload, tIload, nth, tGetI, tGetR, tConst, tLconst, tBin, tUn, tI2l, tAld, tAldR, tAlen, tIast, tBast, tZast, tAast, tIret, tZret, tVret, tAret, tIf, tIf2, tGoto, tIstore, tAstore, sset, tIinc, tDup, tDup2, tPop, tPutI, tPutZ, tPutR, tCallV, tCallS, popN, tFn, tCopy, tMax, tMin, tSw, swc, tRem, tObjI, Option.toList, List.nil_append, List.cons_append, okR, true_and, and_true, true_or, or_true, Nat.zero_le, ne_eq, not_false_eq_true, Nat.reduceEqDiff, tFn2, F_X10_takeIn, h1, hW'.2.2.2.2.1, hW'.2.1, e2', nI_s1]
        refine ⟨fun z => absurd z (by rw [nI_leI (by omega) (by omega)]; omega), fun _ => ⟨fun c4 => ?_, fun c4 => ?_⟩⟩
        · rw [if_neg (hwp.2.mp c4), if_neg (hwp.2.mp c4)] at hh
          exact hh ν ρ' r o p
        · have c5 : 0 < B 4510 := Classical.not_not.mp (fun z => c4 (hwp.2.mpr z))
          rw [if_pos c5, if_pos c5] at hh
          refine ⟨0, B, r, rfl, hwp.1.mp c5, hg, fun μ' ρ'' r' o' p' => ih (k + 1) _ μ' ρ'' (by omega) r' (Gd_step hg (Sp.comes (hwp.1.mp c5))) (ot_trans o o') (orf_trans p p') ?_⟩
          rw [show k + (setN m (qComes B 0) + 1) = k + 1 + setN m (qComes B 0) by omega] at hh
          exact hh
    have := loop N 0 A μ ρ (by omega) hR hG (fun _ _ => rfl) (fun _ _ => rfl) (by rw [Nat.zero_add]; exact h)
    exact this
  · exact h.elim
