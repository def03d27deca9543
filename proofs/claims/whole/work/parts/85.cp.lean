/-! ===== the class: what a leader sends ===== -/
theorem cpy_at {f g : Rw} {sp n i : Nat} (h : i < n) : va_cpy f g sp 0 n i = f (sp + i) := by
  unfold va_cpy
  simp [h]
theorem cpy_out {f g : Rw} {sp n i : Nat} (h : n ≤ i) : va_cpy f g sp 0 n i = g i := by
  unfold va_cpy
  simp [Nat.not_lt.mpr h]
/-- how many entries go with a TAKE -/
theorem cMany {l n : Nat} (hl : l ≤ 120) (hn : 1 ≤ n) (hn2 : n ≤ 121) : (if (0 : Int32) < (if nI l - nI (n - 1) < 3 then nI l - nI (n - 1) else 3) then (if nI l - nI (n - 1) < 3 then nI l - nI (n - 1) else 3) else 0) = nI (min 3 (l + 1 - n)) := by
  have d1 : (nI l - nI (n - 1)).toInt = (l : Int) - (n - 1 : Nat) := by rw [Jvm.Kit.i32_sub (by rw [nI_toInt (by omega), nI_toInt (by omega)]; omega) (by rw [nI_toInt (by omega), nI_toInt (by omega)]; omega), nI_toInt (by omega), nI_toInt (by omega)]
  generalize nI l - nI (n - 1) = D at d1
  have c3 : Int32.toInt 3 = 3 := by decide
  have c0 : Int32.toInt 0 = 0 := by decide
  apply Int32.toInt_inj.mp
  rw [nI_toInt (by omega)]
  by_cases z : D < 3
  · rw [if_pos z]
    rw [Int32.lt_iff_toInt_lt, c3] at z
    by_cases z2 : 0 < D
    · rw [if_pos z2]; rw [Int32.lt_iff_toInt_lt, c0] at z2; omega
    · rw [if_neg z2, c0]; rw [Int32.lt_iff_toInt_lt, c0] at z2; omega
  · rw [if_neg z, if_pos (by decide), c3]
    rw [Int32.lt_iff_toInt_lt, c3] at z
    omega
def w_X10_send_133 (M : CT) (G : Nat → PT) (Rp : RT) : PT := tAload 4 <| tAload 1 <| tGetR 7 18 14 <| tIload 2 <| tAld 20 <| tConst 1 <| tBin (fun x y => x - y) <| tPutI 2 10 4 <| tAload 4 <| tAload 1 <| tAload 4 <| tGetI 2 10 4 <| tFn 2 F_X7_termAt <| tPutI 2 10 5 <| tAload 4 <| tAload 1 <| tGetI 7 18 8 <| tPutI 2 10 7 <| tAload 4 <| tConst 0 <| tConst 3 <| tAload 1 <| tGetI 7 18 7 <| tAload 4 <| tGetI 2 10 4 <| tBin (fun x y => x - y) <| tMin <| tMax <| tPutI 2 10 6 <| tAload 1 <| tGetR 7 18 12 <| tAload 4 <| tGetI 2 10 4 <| tConst 1 <| tBin (fun x y => x + y) <| tAload 4 <| tGetR 2 10 9 <| tConst 0 <| tAload 4 <| tGetI 2 10 6 <| tCopy <| tVret Rp
def w_X10_send_40 (M : CT) (G : Nat → PT) (Rp : RT) : PT := tAload 1 <| tGetI 7 18 2 <| tFn 5 F_X1_post <| tAstore 4 <| tAload 4 <| tAload 1 <| tGetI 7 18 6 <| tPutI 2 10 8 <| tIload 3 <| tIf (fun x => x = 0) (w_X10_send_133 M G Rp) <| tAload 4 <| tAload 1 <| tGetR 7 18 16 <| tGetI 6 5 0 <| tPutI 2 10 4 <| tAload 4 <| tAload 1 <| tGetR 7 18 16 <| tGetI 6 5 1 <| tPutI 2 10 5 <| tAload 1 <| tGetR 7 18 16 <| tGetR 6 5 4 <| tConst 0 <| tAload 4 <| tGetR 2 10 9 <| tConst 0 <| tConst 4 <| tCopy <| tAload 4 <| tGetR 2 10 9 <| tConst 4 <| tAload 1 <| tGetR 7 18 16 <| tGetI 6 5 2 <| tIast <| tAload 4 <| tGetR 2 10 9 <| tConst 5 <| tAload 1 <| tGetR 7 18 16 <| tGetI 6 5 3 <| tIast <| tVret Rp
def w_X10_send_39 (M : CT) (G : Nat → PT) (Rp : RT) : PT := tConst 2 <| w_X10_send_40 M G Rp
def w_X10_send_21 (M : CT) (G : Nat → PT) (Rp : RT) : PT := tIstore 3 <| tAload 0 <| tGetR 10 6 1 <| tAload 1 <| tGetI 7 18 0 <| tIload 2 <| tIload 3 <| tIf (fun x => x = 0) (w_X10_send_39 M G Rp) <| tConst 4 <| tGoto (w_X10_send_40 M G Rp)
def w_X10_send_20 (M : CT) (G : Nat → PT) (Rp : RT) : PT := tConst 0 <| w_X10_send_21 M G Rp
def w_X10_send_0 (M : CT) (G : Nat → PT) (Rp : RT) : PT := tAload 1 <| tGetR 7 18 14 <| tIload 2 <| tAld 20 <| tAload 1 <| tGetR 7 18 16 <| tGetI 6 5 0 <| tIf2 (fun x y => y < x) (w_X10_send_20 M G Rp) <| tConst 1 <| tGoto (w_X10_send_21 M G Rp)
set_option maxRecDepth 20000 in
theorem b_X10_send_133 {Z : Zt} {d : Nat} {p : Program} {e : Env} {R : Room} {s : State} {m : MethodId} {args : Array Value} {below : List Frame} {meth : Method} {c : Code} {Rp : RT} (C : Cx Z (d + 1) jX10_send RX10 p R s m args meth c) : Sd Z jX10_send p e R s m args below meth c (MQ below (QcS Z Rp) args s 0 0 (fun a => Z.2.2.1 < a)) 133 (w_X10_send_133 (MS Z (d + 1)) (Gw Z 5 p e R s m args below meth c (MQ below (QcS Z Rp) args s 0 0 (fun a => Z.2.2.1 < a))) Rp) := by
  unfold w_X10_send_133
  refine s_aload (k := 4) C (by decide +kernel) ?_
  refine s_aload_n (k := 1) C (by decide +kernel) ?_
  refine s_getR C w_2_28 (by decide +kernel) rfl ?_
  refine s_iload_n (k := 2) C (by decide +kernel) ?_
  refine s_iald C (by decide +kernel) ?_
  refine s_iconst (n := 1) C (by decide +kernel) (by decide) ?_
  refine s_isub C (by decide +kernel) ?_
  refine s_putI C w_1_74 (by decide +kernel) rfl (Or.inl rfl) ?_
  refine s_aload (k := 4) C (by decide +kernel) ?_
  refine s_aload_n (k := 1) C (by decide +kernel) ?_
  refine s_aload (k := 4) C (by decide +kernel) ?_
  refine s_getI C w_1_74 (by decide +kernel) rfl ?_
  refine s_fnV C (j2 := jX7_termAt) (cl := 7) (nf := 18) rfl rfl (by decide +kernel) rfl w_3_129 w_3_130 w_3_131 w_1_5 w_3_132 (by decide +kernel) (fun _ _ _ _ _ h => f_X7_termAt h) (fun _ _ _ _ _ h => r_X7_termAt h) ?_
  refine s_putI C w_1_79 (by decide +kernel) rfl (Or.inl rfl) ?_
  refine s_aload (k := 4) C (by decide +kernel) ?_
  refine s_aload_n (k := 1) C (by decide +kernel) ?_
  refine s_getI C w_2_9 (by decide +kernel) rfl ?_
  refine s_putI C w_1_88 (by decide +kernel) rfl (Or.inl rfl) ?_
  refine s_aload (k := 4) C (by decide +kernel) ?_
  refine s_iconst (n := 0) C (by decide +kernel) (by decide) ?_
  refine s_iconst (n := 3) C (by decide +kernel) (by decide) ?_
  refine s_aload_n (k := 1) C (by decide +kernel) ?_
  refine s_getI C w_2_5 (by decide +kernel) rfl ?_
  refine s_aload (k := 4) C (by decide +kernel) ?_
  refine s_getI C w_1_74 (by decide +kernel) rfl ?_
  refine s_isub C (by decide +kernel) ?_
  refine s_min C w_3_166 w_3_84 w_1_16 w_min (by decide +kernel) ?_
  refine s_max C w_3_167 w_3_168 w_1_16 w_max (by decide +kernel) ?_
  refine s_putI C w_1_84 (by decide +kernel) rfl (Or.inl rfl) ?_
  refine s_aload_n (k := 1) C (by decide +kernel) ?_
  refine s_getR C w_2_22 (by decide +kernel) rfl ?_
  refine s_aload (k := 4) C (by decide +kernel) ?_
  refine s_getI C w_1_74 (by decide +kernel) rfl ?_
  refine s_iconst (n := 1) C (by decide +kernel) (by decide) ?_
  refine s_iadd C (by decide +kernel) ?_
  refine s_aload (k := 4) C (by decide +kernel) ?_
  refine s_getR C w_1_95 (by decide +kernel) rfl ?_
  refine s_iconst (n := 0) C (by decide +kernel) (by decide) ?_
  refine s_aload (k := 4) C (by decide +kernel) ?_
  refine s_getI C w_1_84 (by decide +kernel) rfl ?_
  refine s_copy C w_3_65 w_3_46 w_3_45 w_1_14 (by decide +kernel) ?_
  exact s_vret C rfl (by decide +kernel)
set_option maxRecDepth 20000 in
theorem b_X10_send_40 {Z : Zt} {d : Nat} {p : Program} {e : Env} {R : Room} {s : State} {m : MethodId} {args : Array Value} {below : List Frame} {meth : Method} {c : Code} {Rp : RT} (C : Cx Z (d + 1) jX10_send RX10 p R s m args meth c) : Sd Z jX10_send p e R s m args below meth c (MQ below (QcS Z Rp) args s 0 0 (fun a => Z.2.2.1 < a)) 40 (w_X10_send_40 (MS Z (d + 1)) (Gw Z 5 p e R s m args below meth c (MQ below (QcS Z Rp) args s 0 0 (fun a => Z.2.2.1 < a))) Rp) := by
  unfold w_X10_send_40
  refine s_aload_n (k := 1) C (by decide +kernel) ?_
  refine s_getI C w_1_227 (by decide +kernel) rfl ?_
  refine s_fnV C (j2 := jX1_post) (cl := 1) (nf := 6) rfl rfl (by decide +kernel) rfl w_3_125 w_3_126 w_3_127 w_1_3 w_3_128 (by decide +kernel) (fun _ _ _ _ _ h => f_X1_post h) (fun _ _ _ _ _ h => r_X1_post h) ?_
  refine s_astore (k := 4) C (by decide +kernel) ?_
  refine s_aload (k := 4) C (by decide +kernel) ?_
  refine s_aload_n (k := 1) C (by decide +kernel) ?_
  refine s_getI C w_2_1 (by decide +kernel) rfl ?_
  refine s_putI C w_1_92 (by decide +kernel) rfl (Or.inl rfl) ?_
  refine s_iload_n (k := 3) C (by decide +kernel) ?_
  refine s_if_eq (off := 74) (tgt := 133) C (by decide +kernel) (by decide) (b_X10_send_133 C) ?_
  refine s_aload (k := 4) C (by decide +kernel) ?_
  refine s_aload_n (k := 1) C (by decide +kernel) ?_
  refine s_getR C w_2_34 (by decide +kernel) rfl ?_
  refine s_getI C w_1_163 (by decide +kernel) rfl ?_
  refine s_putI C w_1_74 (by decide +kernel) rfl (Or.inl rfl) ?_
  refine s_aload (k := 4) C (by decide +kernel) ?_
  refine s_aload_n (k := 1) C (by decide +kernel) ?_
  refine s_getR C w_2_34 (by decide +kernel) rfl ?_
  refine s_getI C w_1_167 (by decide +kernel) rfl ?_
  refine s_putI C w_1_79 (by decide +kernel) rfl (Or.inl rfl) ?_
  refine s_aload_n (k := 1) C (by decide +kernel) ?_
  refine s_getR C w_2_34 (by decide +kernel) rfl ?_
  refine s_getR C w_1_176 (by decide +kernel) rfl ?_
  refine s_iconst (n := 0) C (by decide +kernel) (by decide) ?_
  refine s_aload (k := 4) C (by decide +kernel) ?_
  refine s_getR C w_1_95 (by decide +kernel) rfl ?_
  refine s_iconst (n := 0) C (by decide +kernel) (by decide) ?_
  refine s_iconst (n := 4) C (by decide +kernel) (by decide) ?_
  refine s_copy C w_3_65 w_3_46 w_3_45 w_1_14 (by decide +kernel) ?_
  refine s_aload (k := 4) C (by decide +kernel) ?_
  refine s_getR C w_1_95 (by decide +kernel) rfl ?_
  refine s_iconst (n := 4) C (by decide +kernel) (by decide) ?_
  refine s_aload_n (k := 1) C (by decide +kernel) ?_
  refine s_getR C w_2_34 (by decide +kernel) rfl ?_
  refine s_getI C w_1_170 (by decide +kernel) rfl ?_
  refine s_iast C (by decide +kernel) ?_
  refine s_aload (k := 4) C (by decide +kernel) ?_
  refine s_getR C w_1_95 (by decide +kernel) rfl ?_
  refine s_iconst (n := 5) C (by decide +kernel) (by decide) ?_
  refine s_aload_n (k := 1) C (by decide +kernel) ?_
  refine s_getR C w_2_34 (by decide +kernel) rfl ?_
  refine s_getI C w_1_173 (by decide +kernel) rfl ?_
  refine s_iast C (by decide +kernel) ?_
  exact s_vret C rfl (by decide +kernel)
set_option maxRecDepth 20000 in
theorem b_X10_send_39 {Z : Zt} {d : Nat} {p : Program} {e : Env} {R : Room} {s : State} {m : MethodId} {args : Array Value} {below : List Frame} {meth : Method} {c : Code} {Rp : RT} (C : Cx Z (d + 1) jX10_send RX10 p R s m args meth c) : Sd Z jX10_send p e R s m args below meth c (MQ below (QcS Z Rp) args s 0 0 (fun a => Z.2.2.1 < a)) 39 (w_X10_send_39 (MS Z (d + 1)) (Gw Z 5 p e R s m args below meth c (MQ below (QcS Z Rp) args s 0 0 (fun a => Z.2.2.1 < a))) Rp) := by
  unfold w_X10_send_39
  refine s_iconst (n := 2) C (by decide +kernel) (by decide) ?_
  exact (b_X10_send_40 C)
set_option maxRecDepth 20000 in
theorem b_X10_send_21 {Z : Zt} {d : Nat} {p : Program} {e : Env} {R : Room} {s : State} {m : MethodId} {args : Array Value} {below : List Frame} {meth : Method} {c : Code} {Rp : RT} (C : Cx Z (d + 1) jX10_send RX10 p R s m args meth c) : Sd Z jX10_send p e R s m args below meth c (MQ below (QcS Z Rp) args s 0 0 (fun a => Z.2.2.1 < a)) 21 (w_X10_send_21 (MS Z (d + 1)) (Gw Z 5 p e R s m args below meth c (MQ below (QcS Z Rp) args s 0 0 (fun a => Z.2.2.1 < a))) Rp) := by
  unfold w_X10_send_21
  refine s_istore_n (k := 3) C (by decide +kernel) ?_
  refine s_aload_n (k := 0) C (by decide +kernel) ?_
  refine s_getR C w_2_117 (by decide +kernel) rfl ?_
  refine s_aload_n (k := 1) C (by decide +kernel) ?_
  refine s_getI C w_1_221 (by decide +kernel) rfl ?_
  refine s_iload_n (k := 2) C (by decide +kernel) ?_
  refine s_iload_n (k := 3) C (by decide +kernel) ?_
  refine s_if_eq (off := 7) (tgt := 39) C (by decide +kernel) (by decide) (b_X10_send_39 C) ?_
  refine s_iconst (n := 4) C (by decide +kernel) (by decide) ?_
  exact s_goto (off := 4) (tgt := 40) C (by decide +kernel) (by decide) (b_X10_send_40 C)
set_option maxRecDepth 20000 in
theorem b_X10_send_20 {Z : Zt} {d : Nat} {p : Program} {e : Env} {R : Room} {s : State} {m : MethodId} {args : Array Value} {below : List Frame} {meth : Method} {c : Code} {Rp : RT} (C : Cx Z (d + 1) jX10_send RX10 p R s m args meth c) : Sd Z jX10_send p e R s m args below meth c (MQ below (QcS Z Rp) args s 0 0 (fun a => Z.2.2.1 < a)) 20 (w_X10_send_20 (MS Z (d + 1)) (Gw Z 5 p e R s m args below meth c (MQ below (QcS Z Rp) args s 0 0 (fun a => Z.2.2.1 < a))) Rp) := by
  unfold w_X10_send_20
  refine s_iconst (n := 0) C (by decide +kernel) (by decide) ?_
  exact (b_X10_send_21 C)
set_option maxRecDepth 20000 in
theorem b_X10_send_0 {Z : Zt} {d : Nat} {p : Program} {e : Env} {R : Room} {s : State} {m : MethodId} {args : Array Value} {below : List Frame} {meth : Method} {c : Code} {Rp : RT} (C : Cx Z (d + 1) jX10_send RX10 p R s m args meth c) : Sd Z jX10_send p e R s m args below meth c (MQ below (QcS Z Rp) args s 0 0 (fun a => Z.2.2.1 < a)) 0 (w_X10_send_0 (MS Z (d + 1)) (Gw Z 5 p e R s m args below meth c (MQ below (QcS Z Rp) args s 0 0 (fun a => Z.2.2.1 < a))) Rp) := by
  unfold w_X10_send_0
  refine s_aload_n (k := 1) C (by decide +kernel) ?_
  refine s_getR C w_2_28 (by decide +kernel) rfl ?_
  refine s_iload_n (k := 2) C (by decide +kernel) ?_
  refine s_iald C (by decide +kernel) ?_
  refine s_aload_n (k := 1) C (by decide +kernel) ?_
  refine s_getR C w_2_34 (by decide +kernel) rfl ?_
  refine s_getI C w_1_163 (by decide +kernel) rfl ?_
  refine s_icmp_gt (off := 7) (tgt := 20) C (by decide +kernel) (by decide) (b_X10_send_20 C) ?_
  refine s_iconst (n := 1) C (by decide +kernel) (by decide) ?_
  exact s_goto (off := 4) (tgt := 21) C (by decide +kernel) (by decide) (b_X10_send_21 C)
theorem ms_X10_send {Z : Zt} {d : Nat} {S : Sh} {μ : Mi} {ρ : Mr} {Rp : RT} (a0 : Nat) (a1 : Nat) (x2 : Int32) (h : ∀ G : Nat → PT, w_X10_send_0 (MS Z (d + 1)) G Rp [.ref a0, .ref a1, .int x2, .null, .null] [] S (0, 0) μ ρ) : MS Z (d + 2) jX10_send [.ref a0, .ref a1, .int x2] S μ ρ Rp :=
  MS_of [.ref a0, .ref a1, .int x2, .null, .null] (by decide +kernel) rfl rfl (Nat.le_of_ble_eq_true rfl) rfl (fun p e R s m args below meth c C => b_X10_send_0 C _ _ _ _ _ _ (h _ ))
def F_X10_send : FT := fun As S μ ρ k => match As with
  | [.ref a, .ref x, .int t] => S.2 a = (10, 6) ∧ ∃ (s t' : Nat) (A : Rw), s < 5 ∧ x = a + 130 + 8 * s ∧ t = nI t' ∧ t' < 5 ∧ ¬ s = t' ∧ RR A a S μ ρ ∧ A (514 * s + 3) = 2 ∧ rg (A (514 * s + 24 + t')) 0 121 ∧ ∀ μ', RR (qFeed A s t') a S μ' ρ → Fm a μ μ' → k none μ'
  | _ => False
theorem r_X10_send {As S μ ρ k} (h : F_X10_send As S μ ρ k) : ∃ a As', As = Value.ref a :: As' ∧ S.2 a = (10, 6) := by
  unfold F_X10_send at h
  split at h
  · exact ⟨_, _, rfl, h.1⟩
  · exact h.elim
set_option maxHeartbeats 1000000 in
theorem f_X10_send {Z : Zt} {d : Nat} {As : List Value} {S : Sh} {μ : Mi} {ρ : Mr} {Rp : RT} (h : F_X10_send As S μ ρ (fun r μ' => Rp r S μ' ρ)) : MS Z (d + 2) jX10_send As S μ ρ Rp := by
  unfold F_X10_send at h
  split at h
  · rename_i a x t
    obtain ⟨a, hNa⟩ : ∃ n : Nat, n = a := ⟨a, rfl⟩
    subst hNa
    obtain ⟨h1, s, t', A, hs, rfl, rfl, ht, hst, hR, hro, hnx, h⟩ := h
    refine ms_X10_send _ _ _ (fun G => ?_)
    have hW := RR_W hR
    obtain ⟨x1, x2, -⟩ := W_st hW hs
    have x2' := x2
    unfold StS at x2
    have hSt := RR_st hR hs
    have hA := hSt.1
    unfold StA at hA
    have hB := hSt.2.1
    have hN := hR.2 s hs hro t' ht
    obtain ⟨n, n1, n2, -, n3⟩ := rg_ex hnx
    obtain ⟨l, l1, l2, -, l3⟩ := rg_ex hB.2.1
    obtain ⟨sn, s1, s2, -, s3⟩ := rg_ex hB.2.2.1
    have en : μ (a + 130 + 8 * s + 3) t' = nI n := hN.1.trans n1
    have hrs : rg (nI s) 0 4 := (rg_nI (by omega)).mpr ⟨by omega, by omega⟩
    have hrt : rg (nI t') 0 4 := (rg_nI (by omega)).mpr ⟨by omega, by omega⟩
    have hrn : ¬ nI s = nI t' := by rw [nI_eq (by omega) (by omega)]; exact hst
    have it : inb (nI t') 5 := inb_nI ht (by decide)
    have fin : ∀ (q : Nat) (μ1 μ' : Mi) (row : Rw), PostD A a μ ρ s t' q μ1 → msgAt a q S ρ → qFeed A s t' = qPost A s t' row → (∀ y : Nat, y ≠ q → y ≠ q + 1 → μ' y = μ1 y) → MsR row (A 4514) q μ' → Rp none S μ' ρ := by
      intro q μ1 μ' row p1 p2 p3 p4 p5
      have r := RR_sent hR hs ht hst p1 p2 p4 p5
      exact h μ' (by rw [p3]; exact r.1) r.2
    simp only [w_X10_send_0, tAload, tIload, nth, tGetI, tGetR, tConst, tLconst, tBin, tUn, tI2l, tAld, tAldR, tAlen, tIast, tBast, tZast, tAast, tIret, tZret, tVret, tAret, tIf, tIf2, tGoto, tIstore, tAstore, sset, tIinc, tDup, tDup2, tPop, tPutI, tPutZ, tPutR, tCallV, tCallS, popN, tFn, tCopy, tMax, tMin, tSw, swc, tRem, tObjI, Option.toList, List.nil_append, List.cons_append, okR, true_and, and_true, true_or, or_true, Nat.zero_le, ne_eq, not_false_eq_true, Nat.reduceEqDiff, x1, x2, hA, s1, it]
    rw [nI_clamp (by omega), en, nI_ltI s2 n2]
    refine ⟨fun c => ?_, fun c => ?_⟩
    · -- TAKE
      simp only [w_X10_send_20, w_X10_send_21, w_X10_send_39, w_X10_send_40, tAload, tIload, nth, tGetI, tGetR, tConst, tLconst, tBin, tUn, tI2l, tAld, tAldR, tAlen, tIast, tBast, tZast, tAast, tIret, tZret, tVret, tAret, tIf, tIf2, tGoto, tIstore, tAstore, sset, tIinc, tDup, tDup2, tPop, tPutI, tPutZ, tPutR, tCallV, tCallS, popN, tFn, tCopy, tMax, tMin, tSw, swc, tRem, tObjI, Option.toList, List.nil_append, List.cons_append, okR, true_and, and_true, true_or, or_true, Nat.zero_le, ne_eq, not_false_eq_true, Nat.reduceEqDiff, F_X1_post, h1, x1, hW.2.2.2.2.1, hW.2.1, hA]
      refine ⟨fun _ => ⟨a, s, t', A, rfl, hR.1, rfl, rfl, hs, ht, hst, fun q μ1 p1 p2 p3 => ?_⟩, fun z => absurd trivial z⟩
      obtain ⟨j, j1, j2, j3, j4, j5⟩ := p2
      have ey : ∀ y : Nat, (y < a + 2 ∨ a + 128 ≤ y) → μ1 y = μ y := fun y hy => p1.1 y (by omega) (by omega)
      have ex := fun i => congrFun (ey (a + 130 + 8 * s) (by omega)) i
      have ex1 := fun i => congrFun (ey (a + 130 + 8 * s + 1) (by omega)) i
      have ex3 := fun i => congrFun (ey (a + 130 + 8 * s + 3) (by omega)) i
      have ex5 := fun i => congrFun (ey (a + 130 + 8 * s + 5) (by omega)) i
      have em1 : nI n - 1 = nI (n - 1) := by rw [show (1 : Int32) = nI 1 from rfl, pk_sub (by omega)]
      simp only [w_X10_send_133, tAload, tIload, nth, tGetI, tGetR, tConst, tLconst, tBin, tUn, tI2l, tAld, tAldR, tAlen, tIast, tBast, tZast, tAast, tIret, tZret, tVret, tAret, tIf, tIf2, tGoto, tIstore, tAstore, sset, tIinc, tDup, tDup2, tPop, tPutI, tPutZ, tPutR, tCallV, tCallS, popN, tFn, tCopy, tMax, tMin, tSw, swc, tRem, tObjI, Option.toList, List.nil_append, List.cons_append, okR, true_and, and_true, true_or, or_true, Nat.zero_le, ne_eq, not_false_eq_true, Nat.reduceEqDiff, F_X7_termAt, x1, x2, x2', j3, j4, j5, it]
      simp (disch := omega) only [upI_ne, upI_k, upI_at, ex, ex1, ex3, ex5, nI_clamp, en, em1]
      simp only [hA, l1, s1]
      refine ⟨fun _ => ?_, fun z => absurd trivial z⟩
      have e2 : (if nI l - nI (n - 1) < 3 then nI l - nI (n - 1) else 3) = (if nI l - nI (n - 1) < 3 then nI l - nI (n - 1) else 3) := rfl
      rw [cMany (l := l) (n := n) (by omega) (by omega) (by omega), nI_s1, show n - 1 + 1 = n by omega, nI_clamp (by omega), nI_clamp (by omega)]
      refine ⟨by rw [nI_toInt s2]; omega, by rw [nI_toInt l2]; omega, nI_pos (by omega), by decide, nI_pos (by omega), by omega, ?_, ?_⟩
      · show 0 + min 3 (l + 1 - n) ≤ 6
        omega
      · have et : ∀ u v, cTermAt (upI (upI μ1 q 8 u) q 4 v) (a + 130 + 8 * s) (nI (n - 1)) = qTermAt A s (nI (n - 1)) := by
          intro u v
          rw [← St_termAt hSt]
          unfold cTermAt cHolds
          rw [upI_ne (by omega), upI_ne (by omega), upI_ne (by omega), upI_ne (by omega), upI_ne (by omega), upI_ne (by omega), ey _ (by omega), ey _ (by omega), ey _ (by omega)]
        rw [et]
        have hmN : mN A s t' = min 3 (l + 1 - n) := by unfold mN; rw [l1, n1, nI_clamp l2, nI_clamp n2]
        have hq : qFeed A s t' = qPost A s t' (rowT A s t') := by
          unfold qFeed
          rw [n1, s1, if_neg (by rw [nI_leI n2 s2]; omega)]
        have hlo : ∀ k, k < 9 → rowT A s t' k = up (up (rowS (nI s) (nI t') (A (514 * s + 1)) 2 (nI (n - 1)) (qTermAt A s (nI (n - 1))) (A (514 * s + 14))) 6 (nI (min 3 (l + 1 - n)))) 7 (A (514 * s + 7)) k := by
          intro k hk
          unfold rowT
          rw [if_neg (by omega), hmN, n1, em1]
        refine fin q μ1 _ (rowT A s t') p1 ⟨j, j1, j2, j3, j4, j5⟩ hq (fun y y1 y2 => ?_) ⟨?_, ?_, ?_, ?_⟩
        · rw [upF_ne y2, upI_ne y1, upI_ne y1, upI_ne y1, upI_ne y1, upI_ne y1]
        · rw [hlo 0 (by omega), hlo 1 (by omega), hlo 2 (by omega), hlo 3 (by omega), hlo 4 (by omega), hlo 5 (by omega), hlo 6 (by omega), hlo 7 (by omega), hlo 8 (by omega)]
          simp (disch := omega) only [upF_ne, upI_k, upI_at, up_at, up_ne, p3]
          exact ⟨rfl, rfl, rfl, rfl, rfl, rfl, trivial, trivial, rfl⟩
        · rw [hlo 0 (by omega), hlo 1 (by omega)]
          exact ⟨hrs, hrt, hrn⟩
        · intro _ k k1 k2
          rw [hlo 6 (by omega), up_ne (by omega), up_at, nI_clamp (by omega)] at k1
          rw [upF_same, show (0 : Int32).toNatClampNeg = 0 from rfl, cpy_at (by omega), ey _ (by omega)]
          have hr : ∀ j, j < 4 → rowT A s t' (9 + 4 * k + j) = A (514 * s + 30 + 4 * (n + k) + j) := by
            intro j hj
            unfold rowT
            rw [hmN, if_pos (by omega), n1, nI_clamp n2]
            congr 1
            omega
          exact enR_congr (hSt.2.2.2.1 (n + k) (by rw [s1, nI_clamp s2]; omega) (by rw [l1, nI_clamp l2]; omega)) (hr 0 (by omega)) (hr 1 (by omega)) (hr 2 (by omega)) (hr 3 (by omega))
        · rw [hlo 3 (by omega)]
          exact fun z => absurd (show (2 : Int32) = 4 from z) (by decide)
    · -- INSTALL
      simp only [w_X10_send_20, w_X10_send_21, w_X10_send_39, w_X10_send_40, tAload, tIload, nth, tGetI, tGetR, tConst, tLconst, tBin, tUn, tI2l, tAld, tAldR, tAlen, tIast, tBast, tZast, tAast, tIret, tZret, tVret, tAret, tIf, tIf2, tGoto, tIstore, tAstore, sset, tIinc, tDup, tDup2, tPop, tPutI, tPutZ, tPutR, tCallV, tCallS, popN, tFn, tCopy, tMax, tMin, tSw, swc, tRem, tObjI, Option.toList, List.nil_append, List.cons_append, okR, true_and, and_true, true_or, or_true, Nat.zero_le, ne_eq, not_false_eq_true, Nat.reduceEqDiff, F_X1_post, h1, x1, hW.2.2.2.2.1, hW.2.1, hA]
      refine ⟨fun z => absurd z (by decide), fun _ => ⟨a, s, t', A, rfl, hR.1, rfl, rfl, hs, ht, hst, fun q μ1 p1 p2 p3 => ?_⟩⟩
      obtain ⟨j, j1, j2, j3, j4, j5⟩ := p2
      have ey : ∀ y : Nat, (y < a + 2 ∨ a + 128 ≤ y) → μ1 y = μ y := fun y hy => p1.1 y (by omega) (by omega)
      have ex := fun i => congrFun (ey (a + 130 + 8 * s) (by omega)) i
      have ex5 := fun i => congrFun (ey (a + 130 + 8 * s + 5) (by omega)) i
      simp only [w_X10_send_133, tAload, tIload, nth, tGetI, tGetR, tConst, tLconst, tBin, tUn, tI2l, tAld, tAldR, tAlen, tIast, tBast, tZast, tAast, tIret, tZret, tVret, tAret, tIf, tIf2, tGoto, tIstore, tAstore, sset, tIinc, tDup, tDup2, tPop, tPutI, tPutZ, tPutR, tCallV, tCallS, popN, tFn, tCopy, tMax, tMin, tSw, swc, tRem, tObjI, Option.toList, List.nil_append, List.cons_append, okR, true_and, and_true, true_or, or_true, Nat.zero_le, ne_eq, not_false_eq_true, Nat.reduceEqDiff, x1, x2, j3, j4, j5]
      simp (disch := omega) only [upF_ne, upF_same, upI_ne, upI_k, upI_at, ex, ex5]
      simp only [hA, s1, hSt.2.2.1.2.2]
      refine ⟨fun z => absurd z (by decide), fun _ => ⟨by decide, by decide, by decide, by decide, by decide, inb_nI (k := 4) (by decide) (by decide), inb_nI (k := 5) (by decide) (by decide), ?_⟩⟩
      have hq : qFeed A s t' = qPost A s t' (rowI A s t') := by
        unfold qFeed
        rw [n1, s1, if_pos (by rw [nI_leI n2 s2]; omega)]
      have hlo : ∀ k, k < 9 → rowI A s t' k = rowS (nI s) (nI t') (A (514 * s + 1)) 4 (nI sn) (A (514 * s + 6)) (A (514 * s + 14)) k := by
        intro k hk
        unfold rowI
        rw [up_ne (by omega), up_ne (by omega), if_neg (by omega), s1]
      have h13 : rowI A s t' 13 = A (514 * s + 9) := by unfold rowI; rw [up_ne (by omega), up_at]
      have h14 : rowI A s t' 14 = A (514 * s + 10) := by unfold rowI; rw [up_at]
      refine fin q μ1 _ (rowI A s t') p1 ⟨j, j1, j2, j3, j4, j5⟩ hq (fun y y1 y2 => ?_) ⟨?_, ?_, ?_, ?_⟩
      · rw [upI_ne y2, upI_ne y2, upF_ne y2, upI_ne y1, upI_ne y1, upI_ne y1]
      · rw [hlo 0 (by omega), hlo 1 (by omega), hlo 2 (by omega), hlo 3 (by omega), hlo 4 (by omega), hlo 5 (by omega), hlo 6 (by omega), hlo 7 (by omega), hlo 8 (by omega)]
        simp (disch := omega) only [upF_ne, upI_ne, upI_k, upI_at, p3]
        exact ⟨rfl, rfl, rfl, rfl, rfl, rfl, rfl, rfl, rfl⟩
      · rw [hlo 0 (by omega), hlo 1 (by omega)]
        exact ⟨hrs, hrt, hrn⟩
      · rw [hlo 3 (by omega)]
        exact fun z => absurd (show (4 : Int32) = 2 from z) (by decide)
      · intro _
        rw [h13, h14]
        refine ⟨fun k hk => ?_, ?_, ?_, hB.2.2.2.2.1, hB.2.2.2.2.2.1, hB.2.2.2.2.2.2.1⟩
        · rw [upI_k (show k ≠ (5 : Int32).toNatClampNeg from by have : (5 : Int32).toNatClampNeg = 5 := rfl; omega), upI_k (show k ≠ (4 : Int32).toNatClampNeg from by have : (4 : Int32).toNatClampNeg = 4 := rfl; omega), upF_same]
          rw [show (0 : Int32).toNatClampNeg = 0 from rfl, show (4 : Int32).toNatClampNeg = 4 from rfl, cpy_in hk, ey _ (by omega), hSt.2.2.1.2.1 k hk]
          unfold rowI
          rw [up_ne (by omega), up_ne (by omega), if_pos (by omega), show 514 * s + 20 + (9 + k - 9) = 514 * s + 20 + k by omega]
        · rw [upI_k (show (4 : Nat) ≠ (5 : Int32).toNatClampNeg from by decide)]
          exact upI_at
        · exact upI_at
  · exact h.elim
