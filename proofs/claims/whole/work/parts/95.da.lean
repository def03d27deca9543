/-! ===== the class: TAKE and INSTALL are heard ===== -/
theorem tk1_out {A g : Rw} {s k b i : Nat} (hs : s < 5) (hb : g 4 = nI b) (hb1 : b + k + 1 ≤ 120) (h : tkI A s (b + k)) (h1 : i ≠ 514 * s + 4) (h2 : i < 514 * s + 34 ∨ 514 * s + 514 ≤ i) : qTk1 A g s k i = A i := by
  obtain ⟨ha, hl1, hl2⟩ := h
  obtain ⟨l, el, el0, -, el1⟩ := rg_ex ha.1.2.1
  unfold qTk1
  rw [hb, nI_clamp (by omega)]
  simp only []
  split
  · rfl
  · have fin : ∀ (B : Rw) (m : Nat), B i = A i → B (514 * s + 4) = nI m → m ≤ 120 → (if B (514 * s + 4) < nI (b + 1 + k) then qPut B s (g (9 + 4 * k)) (g (9 + 4 * k + 1)) (g (9 + 4 * k + 2)) (g (9 + 4 * k + 3)) else B) i = A i := by
      intro B m e1 e2 e3
      split
      · rename_i c
        rw [e2, nI_ltI (by omega) (by omega)] at c
        rw [qPut_out e2 (by omega) h1 (by omega), e1]
      · exact e1
    by_cases c : nI (b + 1 + k) ≤ A (514 * s + 4) ∧ ¬ A (514 * s + 30 + 4 * (b + 1 + k)) = g (9 + 4 * k)
    · simp only [if_pos c]
      exact fin _ (b + 1 + k - 1) (up_ne h1) up_at (by omega)
    · simp only [if_neg c]
      exact fin _ l rfl el (by omega)
theorem tks_out {g : Rw} {s b i : Nat} (hs : s < 5) (hb : g 4 = nI b) (hb0 : b < 2 ^ 31) (hg : tkOK g) (h1 : i ≠ 514 * s + 4) (h2 : i < 514 * s + 34 ∨ 514 * s + 514 ≤ i) : ∀ (n k : Nat) (A : Rw), n + k ≤ (g 6).toNatClampNeg → tkI A s (b + k) → tksF g s n k A i = A i := by
  have hg0 := hg
  obtain ⟨g4, g6, g46, g7, gb⟩ := hg
  obtain ⟨m, em, em0, -, em1⟩ := rg_ex g6
  rw [em, nI_toInt em0, hb, nI_toInt hb0] at g46
  intro n
  induction n with
  | zero => intro k A _ h; rfl
  | succ n ih =>
    intro k A hk h
    rw [em, nI_clamp em0] at hk ih gb
    rw [tksF_s, ih (k + 1) _ (by omega) (tk1_ok hs hb (by omega) (gb k (by omega)) h)]
    exact tk1_out hs hb (by omega) h h1 h2
def w_X10_hearTake_150 (M : CT) (G : Nat → PT) (Rp : RT) : PT := tPutI 2 10 4 <| tAload 5 <| tIload 4 <| tPutI 2 10 5 <| tAload 5 <| tAload 2 <| tGetI 2 10 8 <| tPutI 2 10 8 <| tVret Rp
def w_X10_hearTake_149 (M : CT) (G : Nat → PT) (Rp : RT) : PT := tConst 0 <| w_X10_hearTake_150 M G Rp
def w_X10_hearTake_117 (M : CT) (G : Nat → PT) (Rp : RT) : PT := tAload 0 <| tGetR 10 6 1 <| tAload 1 <| tGetI 7 18 0 <| tAload 2 <| tGetI 2 10 0 <| tConst 3 <| tAload 1 <| tGetI 7 18 2 <| tFn 5 F_X1_post <| tAstore 5 <| tAload 5 <| tIload 3 <| tIf (fun x => x = 0) (w_X10_hearTake_149 M G Rp) <| tConst 1 <| tGoto (w_X10_hearTake_150 M G Rp)
def w_X10_hearTake_94 (M : CT) (G : Nat → PT) (Rp : RT) : PT := tIload 3 <| tIf (fun x => x = 0) (w_X10_hearTake_117 M G Rp) <| tAload 1 <| tAload 2 <| tFn 2 F_X7_takeEntries <| tAload 0 <| tAload 1 <| tAload 2 <| tGetI 2 10 7 <| tIload 4 <| tMin <| tFn 3 F_X10_agreeUpTo <| w_X10_hearTake_117 M G Rp
def w_X10_hearTake_92 (M : CT) (G : Nat → PT) (Rp : RT) : PT := tIstore 4 <| w_X10_hearTake_94 M G Rp
def w_X10_hearTake_86 (M : CT) (G : Nat → PT) (Rp : RT) : PT := tAload 2 <| tGetI 2 10 4 <| tConst 1 <| tBin (fun x y => x - y) <| w_X10_hearTake_92 M G Rp
def w_X10_hearTake_69 (M : CT) (G : Nat → PT) (Rp : RT) : PT := tIstore 3 <| tIload 3 <| tIf (fun x => x = 0) (w_X10_hearTake_86 M G Rp) <| tAload 2 <| tGetI 2 10 4 <| tAload 2 <| tGetI 2 10 6 <| tBin (fun x y => x + y) <| tGoto (w_X10_hearTake_92 M G Rp)
def w_X10_hearTake_68 (M : CT) (G : Nat → PT) (Rp : RT) : PT := tConst 0 <| w_X10_hearTake_69 M G Rp
def w_X10_hearTake_64 (M : CT) (G : Nat → PT) (Rp : RT) : PT := tConst 1 <| tGoto (w_X10_hearTake_69 M G Rp)
def w_X10_hearTake_0 (M : CT) (G : Nat → PT) (Rp : RT) : PT := tConst 0 <| tIstore 3 <| tAload 1 <| tGetI 7 18 7 <| tIstore 4 <| tAload 2 <| tGetI 2 10 3 <| tAload 1 <| tGetI 7 18 2 <| tIf2 (fun x y => x < y) (w_X10_hearTake_94 M G Rp) <| tAload 1 <| tConst 0 <| tFn 2 F_X7_becomes <| tAload 2 <| tGetI 2 10 4 <| tAload 1 <| tGetI 7 18 7 <| tIf2 (fun x y => y < x) (w_X10_hearTake_94 M G Rp) <| tAload 2 <| tGetI 2 10 4 <| tAload 1 <| tGetR 7 18 16 <| tGetI 6 5 0 <| tIf2 (fun x y => x < y) (w_X10_hearTake_64 M G Rp) <| tAload 1 <| tAload 2 <| tGetI 2 10 4 <| tFn 2 F_X7_termAt <| tAload 2 <| tGetI 2 10 5 <| tIf2 (fun x y => x ≠ y) (w_X10_hearTake_68 M G Rp) <| w_X10_hearTake_64 M G Rp
set_option maxRecDepth 20000 in
theorem b_X10_hearTake_150 {Z : Zt} {d : Nat} {p : Program} {e : Env} {R : Room} {s : State} {m : MethodId} {args : Array Value} {below : List Frame} {meth : Method} {c : Code} {Rp : RT} (C : Cx Z (d + 3) jX10_hearTake RX10 p R s m args meth c) : Sd Z jX10_hearTake p e R s m args below meth c (MQ below (QcS Z Rp) args s 0 0 (fun a => Z.2.2.1 < a)) 150 (w_X10_hearTake_150 (MS Z (d + 3)) (Gw Z 6 p e R s m args below meth c (MQ below (QcS Z Rp) args s 0 0 (fun a => Z.2.2.1 < a))) Rp) := by
  unfold w_X10_hearTake_150
  refine s_putI C w_1_74 (by decide +kernel) rfl (Or.inl rfl) ?_
  refine s_aload (k := 5) C (by decide +kernel) ?_
  refine s_iload (k := 4) C (by decide +kernel) ?_
  refine s_putI C w_1_79 (by decide +kernel) rfl (Or.inl rfl) ?_
  refine s_aload (k := 5) C (by decide +kernel) ?_
  refine s_aload_n (k := 2) C (by decide +kernel) ?_
  refine s_getI C w_1_92 (by decide +kernel) rfl ?_
  refine s_putI C w_1_92 (by decide +kernel) rfl (Or.inl rfl) ?_
  exact s_vret C rfl (by decide +kernel)
set_option maxRecDepth 20000 in
theorem b_X10_hearTake_149 {Z : Zt} {d : Nat} {p : Program} {e : Env} {R : Room} {s : State} {m : MethodId} {args : Array Value} {below : List Frame} {meth : Method} {c : Code} {Rp : RT} (C : Cx Z (d + 3) jX10_hearTake RX10 p R s m args meth c) : Sd Z jX10_hearTake p e R s m args below meth c (MQ below (QcS Z Rp) args s 0 0 (fun a => Z.2.2.1 < a)) 149 (w_X10_hearTake_149 (MS Z (d + 3)) (Gw Z 6 p e R s m args below meth c (MQ below (QcS Z Rp) args s 0 0 (fun a => Z.2.2.1 < a))) Rp) := by
  unfold w_X10_hearTake_149
  refine s_iconst (n := 0) C (by decide +kernel) (by decide) ?_
  exact (b_X10_hearTake_150 C)
set_option maxRecDepth 20000 in
theorem b_X10_hearTake_117 {Z : Zt} {d : Nat} {p : Program} {e : Env} {R : Room} {s : State} {m : MethodId} {args : Array Value} {below : List Frame} {meth : Method} {c : Code} {Rp : RT} (C : Cx Z (d + 3) jX10_hearTake RX10 p R s m args meth c) : Sd Z jX10_hearTake p e R s m args below meth c (MQ below (QcS Z Rp) args s 0 0 (fun a => Z.2.2.1 < a)) 117 (w_X10_hearTake_117 (MS Z (d + 3)) (Gw Z 6 p e R s m args below meth c (MQ below (QcS Z Rp) args s 0 0 (fun a => Z.2.2.1 < a))) Rp) := by
  unfold w_X10_hearTake_117
  refine s_aload_n (k := 0) C (by decide +kernel) ?_
  refine s_getR C w_2_117 (by decide +kernel) rfl ?_
  refine s_aload_n (k := 1) C (by decide +kernel) ?_
  refine s_getI C w_1_221 (by decide +kernel) rfl ?_
  refine s_aload_n (k := 2) C (by decide +kernel) ?_
  refine s_getI C w_1_55 (by decide +kernel) rfl ?_
  refine s_iconst (n := 3) C (by decide +kernel) (by decide) ?_
  refine s_aload_n (k := 1) C (by decide +kernel) ?_
  refine s_getI C w_1_227 (by decide +kernel) rfl ?_
  refine s_fnV C (j2 := jX1_post) (cl := 1) (nf := 6) rfl rfl (by decide +kernel) rfl w_3_125 w_3_126 w_3_127 w_1_3 w_3_128 (by decide +kernel) (fun _ _ _ _ _ h => f_X1_post h) (fun _ _ _ _ _ h => r_X1_post h) ?_
  refine s_astore (k := 5) C (by decide +kernel) ?_
  refine s_aload (k := 5) C (by decide +kernel) ?_
  refine s_iload_n (k := 3) C (by decide +kernel) ?_
  refine s_if_eq (off := 7) (tgt := 149) C (by decide +kernel) (by decide) (b_X10_hearTake_149 C) ?_
  refine s_iconst (n := 1) C (by decide +kernel) (by decide) ?_
  exact s_goto (off := 4) (tgt := 150) C (by decide +kernel) (by decide) (b_X10_hearTake_150 C)
set_option maxRecDepth 20000 in
theorem b_X10_hearTake_94 {Z : Zt} {d : Nat} {p : Program} {e : Env} {R : Room} {s : State} {m : MethodId} {args : Array Value} {below : List Frame} {meth : Method} {c : Code} {Rp : RT} (C : Cx Z (d + 3) jX10_hearTake RX10 p R s m args meth c) : Sd Z jX10_hearTake p e R s m args below meth c (MQ below (QcS Z Rp) args s 0 0 (fun a => Z.2.2.1 < a)) 94 (w_X10_hearTake_94 (MS Z (d + 3)) (Gw Z 6 p e R s m args below meth c (MQ below (QcS Z Rp) args s 0 0 (fun a => Z.2.2.1 < a))) Rp) := by
  unfold w_X10_hearTake_94
  refine s_iload_n (k := 3) C (by decide +kernel) ?_
  refine s_if_eq (off := 22) (tgt := 117) C (by decide +kernel) (by decide) (b_X10_hearTake_117 C) ?_
  refine s_aload_n (k := 1) C (by decide +kernel) ?_
  refine s_aload_n (k := 2) C (by decide +kernel) ?_
  refine s_fnV C (j2 := jX7_takeEntries) (cl := 7) (nf := 18) rfl rfl (by decide +kernel) rfl w_4_99 w_4_100 w_4_101 w_1_5 w_4_102 (by decide +kernel) (fun _ _ _ _ _ h => f_X7_takeEntries h) (fun _ _ _ _ _ h => r_X7_takeEntries h) ?_
  refine s_aload_n (k := 0) C (by decide +kernel) ?_
  refine s_aload_n (k := 1) C (by decide +kernel) ?_
  refine s_aload_n (k := 2) C (by decide +kernel) ?_
  refine s_getI C w_1_88 (by decide +kernel) rfl ?_
  refine s_iload (k := 4) C (by decide +kernel) ?_
  refine s_min C w_3_166 w_3_84 w_1_16 w_min (by decide +kernel) ?_
  refine s_fnV C (j2 := jX10_agreeUpTo) (cl := 10) (nf := 6) rfl rfl (by decide +kernel) rfl w_3_177 w_3_179 w_p1_9 w_1_2 w_3_180 (by decide +kernel) (fun _ _ _ _ _ h => f_X10_agreeUpTo h) (fun _ _ _ _ _ h => r_X10_agreeUpTo h) ?_
  exact (b_X10_hearTake_117 C)
set_option maxRecDepth 20000 in
theorem b_X10_hearTake_92 {Z : Zt} {d : Nat} {p : Program} {e : Env} {R : Room} {s : State} {m : MethodId} {args : Array Value} {below : List Frame} {meth : Method} {c : Code} {Rp : RT} (C : Cx Z (d + 3) jX10_hearTake RX10 p R s m args meth c) : Sd Z jX10_hearTake p e R s m args below meth c (MQ below (QcS Z Rp) args s 0 0 (fun a => Z.2.2.1 < a)) 92 (w_X10_hearTake_92 (MS Z (d + 3)) (Gw Z 6 p e R s m args below meth c (MQ below (QcS Z Rp) args s 0 0 (fun a => Z.2.2.1 < a))) Rp) := by
  unfold w_X10_hearTake_92
  refine s_istore (k := 4) C (by decide +kernel) ?_
  exact (b_X10_hearTake_94 C)
set_option maxRecDepth 20000 in
theorem b_X10_hearTake_86 {Z : Zt} {d : Nat} {p : Program} {e : Env} {R : Room} {s : State} {m : MethodId} {args : Array Value} {below : List Frame} {meth : Method} {c : Code} {Rp : RT} (C : Cx Z (d + 3) jX10_hearTake RX10 p R s m args meth c) : Sd Z jX10_hearTake p e R s m args below meth c (MQ below (QcS Z Rp) args s 0 0 (fun a => Z.2.2.1 < a)) 86 (w_X10_hearTake_86 (MS Z (d + 3)) (Gw Z 6 p e R s m args below meth c (MQ below (QcS Z Rp) args s 0 0 (fun a => Z.2.2.1 < a))) Rp) := by
  unfold w_X10_hearTake_86
  refine s_aload_n (k := 2) C (by decide +kernel) ?_
  refine s_getI C w_1_74 (by decide +kernel) rfl ?_
  refine s_iconst (n := 1) C (by decide +kernel) (by decide) ?_
  refine s_isub C (by decide +kernel) ?_
  exact (b_X10_hearTake_92 C)
set_option maxRecDepth 20000 in
theorem b_X10_hearTake_69 {Z : Zt} {d : Nat} {p : Program} {e : Env} {R : Room} {s : State} {m : MethodId} {args : Array Value} {below : List Frame} {meth : Method} {c : Code} {Rp : RT} (C : Cx Z (d + 3) jX10_hearTake RX10 p R s m args meth c) : Sd Z jX10_hearTake p e R s m args below meth c (MQ below (QcS Z Rp) args s 0 0 (fun a => Z.2.2.1 < a)) 69 (w_X10_hearTake_69 (MS Z (d + 3)) (Gw Z 6 p e R s m args below meth c (MQ below (QcS Z Rp) args s 0 0 (fun a => Z.2.2.1 < a))) Rp) := by
  unfold w_X10_hearTake_69
  refine s_istore_n (k := 3) C (by decide +kernel) ?_
  refine s_iload_n (k := 3) C (by decide +kernel) ?_
  refine s_if_eq (off := 15) (tgt := 86) C (by decide +kernel) (by decide) (b_X10_hearTake_86 C) ?_
  refine s_aload_n (k := 2) C (by decide +kernel) ?_
  refine s_getI C w_1_74 (by decide +kernel) rfl ?_
  refine s_aload_n (k := 2) C (by decide +kernel) ?_
  refine s_getI C w_1_84 (by decide +kernel) rfl ?_
  refine s_iadd C (by decide +kernel) ?_
  exact s_goto (off := 9) (tgt := 92) C (by decide +kernel) (by decide) (b_X10_hearTake_92 C)
set_option maxRecDepth 20000 in
theorem b_X10_hearTake_68 {Z : Zt} {d : Nat} {p : Program} {e : Env} {R : Room} {s : State} {m : MethodId} {args : Array Value} {below : List Frame} {meth : Method} {c : Code} {Rp : RT} (C : Cx Z (d + 3) jX10_hearTake RX10 p R s m args meth c) : Sd Z jX10_hearTake p e R s m args below meth c (MQ below (QcS Z Rp) args s 0 0 (fun a => Z.2.2.1 < a)) 68 (w_X10_hearTake_68 (MS Z (d + 3)) (Gw Z 6 p e R s m args below meth c (MQ below (QcS Z Rp) args s 0 0 (fun a => Z.2.2.1 < a))) Rp) := by
  unfold w_X10_hearTake_68
  refine s_iconst (n := 0) C (by decide +kernel) (by decide) ?_
  exact (b_X10_hearTake_69 C)
set_option maxRecDepth 20000 in
theorem b_X10_hearTake_64 {Z : Zt} {d : Nat} {p : Program} {e : Env} {R : Room} {s : State} {m : MethodId} {args : Array Value} {below : List Frame} {meth : Method} {c : Code} {Rp : RT} (C : Cx Z (d + 3) jX10_hearTake RX10 p R s m args meth c) : Sd Z jX10_hearTake p e R s m args below meth c (MQ below (QcS Z Rp) args s 0 0 (fun a => Z.2.2.1 < a)) 64 (w_X10_hearTake_64 (MS Z (d + 3)) (Gw Z 6 p e R s m args below meth c (MQ below (QcS Z Rp) args s 0 0 (fun a => Z.2.2.1 < a))) Rp) := by
  unfold w_X10_hearTake_64
  refine s_iconst (n := 1) C (by decide +kernel) (by decide) ?_
  exact s_goto (off := 4) (tgt := 69) C (by decide +kernel) (by decide) (b_X10_hearTake_69 C)
set_option maxRecDepth 20000 in
theorem b_X10_hearTake_0 {Z : Zt} {d : Nat} {p : Program} {e : Env} {R : Room} {s : State} {m : MethodId} {args : Array Value} {below : List Frame} {meth : Method} {c : Code} {Rp : RT} (C : Cx Z (d + 3) jX10_hearTake RX10 p R s m args meth c) : Sd Z jX10_hearTake p e R s m args below meth c (MQ below (QcS Z Rp) args s 0 0 (fun a => Z.2.2.1 < a)) 0 (w_X10_hearTake_0 (MS Z (d + 3)) (Gw Z 6 p e R s m args below meth c (MQ below (QcS Z Rp) args s 0 0 (fun a => Z.2.2.1 < a))) Rp) := by
  unfold w_X10_hearTake_0
  refine s_iconst (n := 0) C (by decide +kernel) (by decide) ?_
  refine s_istore_n (k := 3) C (by decide +kernel) ?_
  refine s_aload_n (k := 1) C (by decide +kernel) ?_
  refine s_getI C w_2_5 (by decide +kernel) rfl ?_
  refine s_istore (k := 4) C (by decide +kernel) ?_
  refine s_aload_n (k := 2) C (by decide +kernel) ?_
  refine s_getI C w_1_69 (by decide +kernel) rfl ?_
  refine s_aload_n (k := 1) C (by decide +kernel) ?_
  refine s_getI C w_1_227 (by decide +kernel) rfl ?_
  refine s_icmp_lt (off := 78) (tgt := 94) C (by decide +kernel) (by decide) (b_X10_hearTake_94 C) ?_
  refine s_aload_n (k := 1) C (by decide +kernel) ?_
  refine s_iconst (n := 0) C (by decide +kernel) (by decide) ?_
  refine s_fnV C (j2 := jX7_becomes) (cl := 7) (nf := 18) rfl rfl (by decide +kernel) rfl w_3_117 w_3_118 w_3_119 w_1_5 w_3_120 (by decide +kernel) (fun _ _ _ _ _ h => f_X7_becomes h) (fun _ _ _ _ _ h => r_X7_becomes h) ?_
  refine s_aload_n (k := 2) C (by decide +kernel) ?_
  refine s_getI C w_1_74 (by decide +kernel) rfl ?_
  refine s_aload_n (k := 1) C (by decide +kernel) ?_
  refine s_getI C w_2_5 (by decide +kernel) rfl ?_
  refine s_icmp_gt (off := 62) (tgt := 94) C (by decide +kernel) (by decide) (b_X10_hearTake_94 C) ?_
  refine s_aload_n (k := 2) C (by decide +kernel) ?_
  refine s_getI C w_1_74 (by decide +kernel) rfl ?_
  refine s_aload_n (k := 1) C (by decide +kernel) ?_
  refine s_getR C w_2_34 (by decide +kernel) rfl ?_
  refine s_getI C w_1_163 (by decide +kernel) rfl ?_
  refine s_icmp_lt (off := 18) (tgt := 64) C (by decide +kernel) (by decide) (b_X10_hearTake_64 C) ?_
  refine s_aload_n (k := 1) C (by decide +kernel) ?_
  refine s_aload_n (k := 2) C (by decide +kernel) ?_
  refine s_getI C w_1_74 (by decide +kernel) rfl ?_
  refine s_fnV C (j2 := jX7_termAt) (cl := 7) (nf := 18) rfl rfl (by decide +kernel) rfl w_3_129 w_3_130 w_3_131 w_1_5 w_3_132 (by decide +kernel) (fun _ _ _ _ _ h => f_X7_termAt h) (fun _ _ _ _ _ h => r_X7_termAt h) ?_
  refine s_aload_n (k := 2) C (by decide +kernel) ?_
  refine s_getI C w_1_79 (by decide +kernel) rfl ?_
  refine s_icmp_ne (off := 7) (tgt := 68) C (by decide +kernel) (by decide) (b_X10_hearTake_68 C) ?_
  exact (b_X10_hearTake_64 C)
theorem ms_X10_hearTake {Z : Zt} {d : Nat} {S : Sh} {μ : Mi} {ρ : Mr} {Rp : RT} (a0 : Nat) (a1 : Nat) (a2 : Nat) (h : ∀ G : Nat → PT, w_X10_hearTake_0 (MS Z (d + 3)) G Rp [.ref a0, .ref a1, .ref a2, .null, .null, .null] [] S (0, 0) μ ρ) : MS Z (d + 4) jX10_hearTake [.ref a0, .ref a1, .ref a2] S μ ρ Rp :=
  MS_of [.ref a0, .ref a1, .ref a2, .null, .null, .null] (by decide +kernel) rfl rfl (Nat.le_of_ble_eq_true rfl) rfl (fun p e R s m args below meth c C => b_X10_hearTake_0 C _ _ _ _ _ _ (h _ ))
def F_X10_hearTake : FT := fun As S μ ρ k => match As with
  | [.ref a, .ref x, .ref q] => S.2 a = (10, 6) ∧ ∃ (s f : Nat) (A g : Rw), s < 5 ∧ x = a + 130 + 8 * s ∧ RR A a S μ ρ ∧ Mg A g a q μ ρ s f ∧ hK A s ∧ ¬ A (514 * s + 1) < g 2 ∧ g 3 = 2 ∧ tkOK g ∧ ¬ (A (514 * s + 3) = 2 ∧ A (514 * s + 1) = g 2) ∧ ∀ μ', RR (qTakes A g s f (g 2 = A (514 * s + 1))) a S μ' ρ → Ot a μ μ' → k none μ'
  | _ => False
theorem r_X10_hearTake {As S μ ρ k} (h : F_X10_hearTake As S μ ρ k) : ∃ a As', As = Value.ref a :: As' ∧ S.2 a = (10, 6) := by
  unfold F_X10_hearTake at h
  split at h
  · exact ⟨_, _, rfl, h.1⟩
  · exact h.elim
set_option maxHeartbeats 1000000 in
theorem f_X10_hearTake {Z : Zt} {d : Nat} {As : List Value} {S : Sh} {μ : Mi} {ρ : Mr} {Rp : RT} (h : F_X10_hearTake As S μ ρ (fun r μ' => Rp r S μ' ρ)) : MS Z (d + 4) jX10_hearTake As S μ ρ Rp := by
  unfold F_X10_hearTake at h
  split at h
  · rename_i a x q
    obtain ⟨a, hNa⟩ : ∃ n : Nat, n = a := ⟨a, rfl⟩
    subst hNa
    obtain ⟨q, hNq⟩ : ∃ n : Nat, n = q := ⟨q, rfl⟩
    subst hNq
    obtain ⟨h1, s, f, A, g, hs, rfl, hR, hM, hK0, hle, hg3, htk, hnl, h⟩ := h
    refine ms_X10_hearTake _ _ _ (fun G => ?_)
    have hW := RR_W hR
    obtain ⟨x1, x2, -⟩ := W_st hW hs
    obtain ⟨⟨jq, jq1, jq2⟩, m1, m2, m3⟩ := Mg_at hM hW
    obtain ⟨hq60, hMs, hg0, hf, hg1, hsf⟩ := hM
    have hSt := RR_st hR hs
    have hA := hSt.1
    unfold StA at hA
    have hmem := St_mem hSt
    rw [hSt.2.2.2.2.2.1, hSt.2.2.2.2.2.2] at hmem
    have hrs : rg (nI s) 0 4 := (rg_nI (by omega)).mpr ⟨by omega, by omega⟩
    have hrf : rg (nI f) 0 4 := (rg_nI (by omega)).mpr ⟨by omega, by omega⟩
    have hrn : ¬ nI s = nI f := by rw [nI_eq (by omega) (by omega)]; exact hsf
    have x2' := x2
    unfold StS at x2
    have f117 : ∀ (C : Rw) (ν : Mi) (tk pl : Int32), (tk = 0 ∨ tk = 1) → RR C a S ν ρ → Ot a μ ν → ν q = μ q → (∀ μ', RR (qAnsTook C (g 8) s f tk pl) a S μ' ρ → Ot a μ μ' → Rp none S μ' ρ) → w_X10_hearTake_117 (MS Z (d + 3)) G Rp [.ref a, .ref (a + 130 + 8 * s), .ref q, .int tk, .int pl, .null] [] S (0, 0) ν ρ := by
      intro C ν tk pl htk' r o eq hh
      have hB := (RR_st r hs).1
      unfold StA at hB
      have fin : ∀ (q' : Nat) (μ1 : Mi), PostD C a ν ρ s f q' μ1 → msgAt a q' S ρ → (μ1 q' 0 = nI s ∧ μ1 q' 1 = nI f ∧ μ1 q' 2 = 3 ∧ μ1 q' 3 = C (514 * s + 1) ∧ ∀ i, 4 ≤ i → i < 9 → μ1 q' i = 0) → Rp none S (upI (upI (upI μ1 q' 4 tk) q' 5 pl) q' 8 (g 8)) ρ := by
        intro q' μ1 p1 p2 p3
        have r2 := RR_sent (μ' := upI (upI (upI μ1 q' 4 tk) q' 5 pl) q' 8 (g 8)) r hs hf hsf p1 p2 (fun y y1 y2 => by rw [upI_ne y1, upI_ne y1, upI_ne y1]) (MsR_S (f := nI s) (t := nI f) (tm := C (514 * s + 1)) (kd := 3) (x := tk) (y := pl) (rd := g 8) (by simp (disch := omega) only [upI_k, upI_at, p3, and_self]) hrs hrf hrn (by decide))
        exact hh _ r2.1 (ot_trans o (Fm_Ot r2.2))
      simp only [w_X10_hearTake_117, w_X10_hearTake_149, w_X10_hearTake_150, tAload, tIload, nth, tGetI, tGetR, tConst, tLconst, tBin, tUn, tI2l, tAld, tAldR, tAlen, tIast, tBast, tZast, tAast, tIret, tZret, tVret, tAret, tIf, tIf2, tGoto, tIstore, tAstore, sset, tIinc, tDup, tDup2, tPop, tPutI, tPutZ, tPutR, tCallV, tCallS, popN, tFn, tCopy, tMax, tMin, tSw, swc, tRem, tObjI, Option.toList, List.nil_append, List.cons_append, okR, true_and, and_true, true_or, or_true, Nat.zero_le, ne_eq, not_false_eq_true, Nat.reduceEqDiff, F_X1_post, h1, x1, m1, hW.2.2.2.2.1, hW.2.1, hB, eq, hMs.1, hg0]
      refine ⟨a, s, f, C, rfl, r.1, rfl, rfl, hs, hf, hsf, fun q' μ1 p1 p2 p3 => ?_⟩
      have p2' := p2
      obtain ⟨k1, k2, k3, k4, k5⟩ := post_keep r.1 p1 p2 hq60
      obtain ⟨j, -, -, j3, -⟩ := p2
      have e8 : ∀ u v, upI (upI μ1 q' 4 u) q' 5 v q 8 = g 8 := fun u v => by rw [upI_ne k1, upI_ne k1, k4, eq, hMs.1.2.2.2.2.2.2.2.2]
      simp only [j3, e8]
      rcases htk' with z | z
      · subst z
        exact ⟨fun _ => ⟨trivial, trivial, trivial, fin q' μ1 p1 p2' p3⟩, fun z => absurd rfl z⟩
      · subst z
        exact ⟨fun z => absurd z (by decide), fun _ => ⟨trivial, trivial, trivial, fin q' μ1 p1 p2' p3⟩⟩
    have no94 : ∀ (C : Rw) (ν : Mi) (pl : Int32), RR C a S ν ρ → Ot a μ ν → ν q = μ q → (∀ μ', RR (qAnsTook C (g 8) s f 0 pl) a S μ' ρ → Ot a μ μ' → Rp none S μ' ρ) → w_X10_hearTake_94 (MS Z (d + 3)) G Rp [.ref a, .ref (a + 130 + 8 * s), .ref q, .int 0, .int pl, .null] [] S (0, 0) ν ρ := by
      intro C ν pl r o eq hh
      simp only [w_X10_hearTake_94, tAload, tIload, nth, tGetI, tGetR, tConst, tLconst, tBin, tUn, tI2l, tAld, tAldR, tAlen, tIast, tBast, tZast, tAast, tIret, tZret, tVret, tAret, tIf, tIf2, tGoto, tIstore, tAstore, sset, tIinc, tDup, tDup2, tPop, tPutI, tPutZ, tPutR, tCallV, tCallS, popN, tFn, tCopy, tMax, tMin, tSw, swc, tRem, tObjI, Option.toList, List.nil_append, List.cons_append, okR, true_and, and_true, true_or, or_true, Nat.zero_le, ne_eq, not_false_eq_true, Nat.reduceEqDiff]
      exact ⟨fun _ => f117 C ν 0 pl (Or.inl rfl) r o eq hh, fun z => absurd trivial z⟩
    obtain ⟨g4, g6, g46, g7, gb⟩ := id htk
    obtain ⟨b, eb, eb0, -, eb1⟩ := rg_ex g4
    obtain ⟨n, en, en0, -, en1⟩ := rg_ex g6
    rw [en, nI_toInt en0, eb, nI_toInt eb0] at g46
    unfold qTakes at h
    have hplaysA := RR_bec (o := 0) hs hR (by decide)
    simp only [w_X10_hearTake_0, w_X10_hearTake_64, w_X10_hearTake_68, w_X10_hearTake_69, w_X10_hearTake_86, w_X10_hearTake_92, tAload, tIload, nth, tGetI, tGetR, tConst, tLconst, tBin, tUn, tI2l, tAld, tAldR, tAlen, tIast, tBast, tZast, tAast, tIret, tZret, tVret, tAret, tIf, tIf2, tGoto, tIstore, tAstore, sset, tIinc, tDup, tDup2, tPop, tPutI, tPutZ, tPutR, tCallV, tCallS, popN, tFn, tCopy, tMax, tMin, tSw, swc, tRem, tObjI, Option.toList, List.nil_append, List.cons_append, okR, true_and, and_true, true_or, or_true, Nat.zero_le, ne_eq, not_false_eq_true, Nat.reduceEqDiff, F_X7_becomes, F_X7_termAt, x1, x2, x2', m1, hA, hMs.1]
    refine ⟨fun c => ?_, fun c => ?_⟩
    · rw [if_pos (fun z => by rw [z] at c; exact absurd c Int32.lt_irrefl)] at h
      exact no94 A μ _ hR (fun _ _ => rfl) rfl h
    have isOf : g 2 = A (514 * s + 1) := Int32.le_antisymm (Int32.not_lt.mp hle) (Int32.not_lt.mp c)
    rw [if_neg (not_not_intro isOf), if_neg (fun z => hnl ⟨z, isOf.symm⟩)] at h
    have hο : Ot a μ (cBec μ (a + 130 + 8 * s) 0) := fun y hy => cBec_ne (by omega) (by omega)
    have hqr : cBec μ (a + 130 + 8 * s) 0 q = μ q := cBec_ne (by omega) (by omega)
    have hql : cBec μ (a + 130 + 8 * s) 0 (q + 1) = μ (q + 1) := cBec_ne (by omega) (by omega)
    have hrole : qPlays A s 0 (514 * s + 3) = 0 := qPlays_3
    have haA : agOK (qPlays A s 0) s := agOK_plays hs hK0.1.1
    have p4 : qPlays A s 0 (514 * s + 4) = A (514 * s + 4) := qPlays_out (by omega)
    have p5 : qPlays A s 0 (514 * s + 5) = A (514 * s + 5) := qPlays_out (by omega)
    have p7 : qPlays A s 0 (514 * s + 7) = A (514 * s + 7) := qPlays_out (by omega)
    have p14 : qPlays A s 0 4514 = A 4514 := qPlays_out (by omega)
    have hagr := hK0.2.1
    unfold agR at hagr
    rw [← p4, ← p5, ← p7] at hagr
    have hr7 : rg (qPlays A s 0 (514 * s + 7)) 0 120 := haA.2.1
    simp only [] at h
    rw [hqr]
    simp only [hMs.1]
    generalize qPlays A s 0 = C at *
    generalize cBec μ (a + 130 + 8 * s) 0 = ν at *
    have hStC := RR_st hplaysA hs
    have hC := hStC.1
    unfold StA at hC
    simp only [hC]
    refine ⟨fun c1 => ?_, fun c1 => ?_⟩
    · rw [if_pos c1] at h
      rw [← p4]
      exact no94 C ν _ hplaysA hο hqr h
    rw [if_neg c1] at h
    -- entries are taken
    have yes : ¬ (¬ g 4 < C (514 * s + 5) ∧ ¬ qTermAt C s (g 4) = g 5) → w_X10_hearTake_94 (MS Z (d + 3)) G Rp [.ref a, .ref (a + 130 + 8 * s), .ref q, .int 1, .int (g 4 + g 6), .null] [] S (0, 0) ν ρ := by
      intro c2
      rw [if_neg c2] at h
      have hI : tkI C s b := ⟨haA, hStC.2.1.2.2.2.1, by
        have := Int32.not_lt.mp c1
        rw [Int32.le_iff_toInt_le, eb, nI_toInt eb0] at this
        exact this⟩
      have hms' : MsR g (C 4514) q ν := MsR_congr hMs (fun _ _ => rfl) p14 hqr hql
      simp only [w_X10_hearTake_94, tAload, tIload, nth, tGetI, tGetR, tConst, tLconst, tBin, tUn, tI2l, tAld, tAldR, tAlen, tIast, tBast, tZast, tAast, tIret, tZret, tVret, tAret, tIf, tIf2, tGoto, tIstore, tAstore, sset, tIinc, tDup, tDup2, tPop, tPutI, tPutZ, tPutR, tCallV, tCallS, popN, tFn, tCopy, tMax, tMin, tSw, swc, tRem, tObjI, Option.toList, List.nil_append, List.cons_append, okR, true_and, and_true, true_or, or_true, Nat.zero_le, ne_eq, not_false_eq_true, Nat.reduceEqDiff, F_X7_takeEntries, F_X10_agreeUpTo, h1, x1, x2', m1, m2, m3]
      refine ⟨fun z => absurd z (by decide), fun _ => ⟨by unfold apt; omega, C, g, s, b, n, C 4514, hs, hStC, hms', hg3, eb, en, by omega, by omega, hI.2.2, fun μ2 st2 kp => ?_⟩⟩
      have out := fun i a b => tks_out (i := i) hs eb eb0 htk a b n 0 C (by rw [en, nI_clamp en0]; omega) hI
      have hI2 := tks_ok hs eb eb0 htk n 0 C (by rw [en, nI_clamp en0]; omega) hI
      have r2 : RR (tksF g s n 0 C) a S μ2 ρ := ⟨R0_store hs hplaysA.1 (fun i hi => out i (by omega) (by omega)) (fun y hy => kp y (by omega) (by omega)) st2, Nx_other hs hplaysA.2 (by rw [out _ (by omega) (by omega), hrole]; decide) (fun i hi => out i (by omega) (by omega)) (fun y hy => kp y (by omega) (by omega))⟩
      have q2 : μ2 q = μ q := by rw [kp q (by omega) (by omega)]; exact hqr
      rw [q2, min_sy]
      simp only [hMs.1]
      have hto := qTakes_to (A := tksF g s n 0 C) (s := s) eb eb0 htk (by rw [en, nI_clamp en0]; exact hI2)
      refine ⟨s, _, hs, rfl, r2, ?_, ?_, hto.1, hto.2, fun μ3 r3 k3 => ?_⟩
      · rw [out _ (by omega) (by omega), out _ (by omega) (by omega)]; exact hagr.1
      · rw [out _ (by omega) (by omega)]; exact hr7
      · refine f117 _ μ3 1 _ (Or.inr rfl) r3 (ot_trans hο (ot_trans (fun y hy => kp y (by omega) (by omega)) (Ka_Ot hs k3))) ?_ ?_
        · rw [k3 q (by omega) (by omega) (by omega)]; exact q2
        · rw [en, nI_clamp en0] at h
          rw [en]
          exact h
    have n69 : qTermAt C s (g 4) = cTermAt ν (a + 130 + 8 * s) (g 4) := (St_termAt hStC).symm
    refine ⟨fun c2 => ⟨fun z => absurd z (by decide), fun _ => yes (fun z => z.1 c2)⟩, fun c2 => ⟨hStC.2.1.2.2.1.1, hStC.2.1.2.1.2, fun c3 => ?_, fun c3 => ?_⟩⟩
    · refine ⟨fun _ => ?_, fun z => absurd trivial z⟩
      rw [if_pos ⟨c2, by rw [n69]; exact c3⟩] at h
      exact no94 C ν _ hplaysA hο hqr h
    · refine ⟨fun z => absurd z (by decide), fun _ => yes (fun z => z.2 ?_)⟩
      rw [n69]
      exact Classical.not_not.mp c3
  · exact h.elim
def w_X10_hearInstall_36 (M : CT) (G : Nat → PT) (Rp : RT) : PT := tAload 0 <| tGetR 10 6 1 <| tAload 1 <| tGetI 7 18 0 <| tAload 2 <| tGetI 2 10 0 <| tConst 5 <| tAload 1 <| tGetI 7 18 2 <| tFn 5 F_X1_post <| tAstore 4 <| tAload 4 <| tIload 3 <| tPutI 2 10 4 <| tAload 4 <| tAload 2 <| tGetI 2 10 8 <| tPutI 2 10 8 <| tVret Rp
def w_X10_hearInstall_0 (M : CT) (G : Nat → PT) (Rp : RT) : PT := tConst 0 <| tIstore 3 <| tAload 2 <| tGetI 2 10 3 <| tAload 1 <| tGetI 7 18 2 <| tIf2 (fun x y => x < y) (w_X10_hearInstall_36 M G Rp) <| tAload 1 <| tConst 0 <| tFn 2 F_X7_becomes <| tAload 2 <| tGetI 2 10 4 <| tIstore 3 <| tIload 3 <| tAload 1 <| tGetI 7 18 8 <| tIf2 (fun x y => x ≤ y) (w_X10_hearInstall_36 M G Rp) <| tAload 1 <| tAload 2 <| tFn 2 F_X7_install <| w_X10_hearInstall_36 M G Rp
set_option maxRecDepth 20000 in
theorem b_X10_hearInstall_36 {Z : Zt} {d : Nat} {p : Program} {e : Env} {R : Room} {s : State} {m : MethodId} {args : Array Value} {below : List Frame} {meth : Method} {c : Code} {Rp : RT} (C : Cx Z (d + 3) jX10_hearInstall RX10 p R s m args meth c) : Sd Z jX10_hearInstall p e R s m args below meth c (MQ below (QcS Z Rp) args s 0 0 (fun a => Z.2.2.1 < a)) 36 (w_X10_hearInstall_36 (MS Z (d + 3)) (Gw Z 5 p e R s m args below meth c (MQ below (QcS Z Rp) args s 0 0 (fun a => Z.2.2.1 < a))) Rp) := by
  unfold w_X10_hearInstall_36
  refine s_aload_n (k := 0) C (by decide +kernel) ?_
  refine s_getR C w_2_117 (by decide +kernel) rfl ?_
  refine s_aload_n (k := 1) C (by decide +kernel) ?_
  refine s_getI C w_1_221 (by decide +kernel) rfl ?_
  refine s_aload_n (k := 2) C (by decide +kernel) ?_
  refine s_getI C w_1_55 (by decide +kernel) rfl ?_
  refine s_iconst (n := 5) C (by decide +kernel) (by decide) ?_
  refine s_aload_n (k := 1) C (by decide +kernel) ?_
  refine s_getI C w_1_227 (by decide +kernel) rfl ?_
  refine s_fnV C (j2 := jX1_post) (cl := 1) (nf := 6) rfl rfl (by decide +kernel) rfl w_3_125 w_3_126 w_3_127 w_1_3 w_3_128 (by decide +kernel) (fun _ _ _ _ _ h => f_X1_post h) (fun _ _ _ _ _ h => r_X1_post h) ?_
  refine s_astore (k := 4) C (by decide +kernel) ?_
  refine s_aload (k := 4) C (by decide +kernel) ?_
  refine s_iload_n (k := 3) C (by decide +kernel) ?_
  refine s_putI C w_1_74 (by decide +kernel) rfl (Or.inl rfl) ?_
  refine s_aload (k := 4) C (by decide +kernel) ?_
  refine s_aload_n (k := 2) C (by decide +kernel) ?_
  refine s_getI C w_1_92 (by decide +kernel) rfl ?_
  refine s_putI C w_1_92 (by decide +kernel) rfl (Or.inl rfl) ?_
  exact s_vret C rfl (by decide +kernel)
set_option maxRecDepth 20000 in
theorem b_X10_hearInstall_0 {Z : Zt} {d : Nat} {p : Program} {e : Env} {R : Room} {s : State} {m : MethodId} {args : Array Value} {below : List Frame} {meth : Method} {c : Code} {Rp : RT} (C : Cx Z (d + 3) jX10_hearInstall RX10 p R s m args meth c) : Sd Z jX10_hearInstall p e R s m args below meth c (MQ below (QcS Z Rp) args s 0 0 (fun a => Z.2.2.1 < a)) 0 (w_X10_hearInstall_0 (MS Z (d + 3)) (Gw Z 5 p e R s m args below meth c (MQ below (QcS Z Rp) args s 0 0 (fun a => Z.2.2.1 < a))) Rp) := by
  unfold w_X10_hearInstall_0
  refine s_iconst (n := 0) C (by decide +kernel) (by decide) ?_
  refine s_istore_n (k := 3) C (by decide +kernel) ?_
  refine s_aload_n (k := 2) C (by decide +kernel) ?_
  refine s_getI C w_1_69 (by decide +kernel) rfl ?_
  refine s_aload_n (k := 1) C (by decide +kernel) ?_
  refine s_getI C w_1_227 (by decide +kernel) rfl ?_
  refine s_icmp_lt (off := 26) (tgt := 36) C (by decide +kernel) (by decide) (b_X10_hearInstall_36 C) ?_
  refine s_aload_n (k := 1) C (by decide +kernel) ?_
  refine s_iconst (n := 0) C (by decide +kernel) (by decide) ?_
  refine s_fnV C (j2 := jX7_becomes) (cl := 7) (nf := 18) rfl rfl (by decide +kernel) rfl w_3_117 w_3_118 w_3_119 w_1_5 w_3_120 (by decide +kernel) (fun _ _ _ _ _ h => f_X7_becomes h) (fun _ _ _ _ _ h => r_X7_becomes h) ?_
  refine s_aload_n (k := 2) C (by decide +kernel) ?_
  refine s_getI C w_1_74 (by decide +kernel) rfl ?_
  refine s_istore_n (k := 3) C (by decide +kernel) ?_
  refine s_iload_n (k := 3) C (by decide +kernel) ?_
  refine s_aload_n (k := 1) C (by decide +kernel) ?_
  refine s_getI C w_2_9 (by decide +kernel) rfl ?_
  refine s_icmp_le (off := 8) (tgt := 36) C (by decide +kernel) (by decide) (b_X10_hearInstall_36 C) ?_
  refine s_aload_n (k := 1) C (by decide +kernel) ?_
  refine s_aload_n (k := 2) C (by decide +kernel) ?_
  refine s_fnV C (j2 := jX7_install) (cl := 7) (nf := 18) rfl rfl (by decide +kernel) rfl w_4_118 w_4_119 w_4_120 w_1_5 w_4_121 (by decide +kernel) (fun _ _ _ _ _ h => f_X7_install h) (fun _ _ _ _ _ h => r_X7_install h) ?_
  exact (b_X10_hearInstall_36 C)
theorem ms_X10_hearInstall {Z : Zt} {d : Nat} {S : Sh} {μ : Mi} {ρ : Mr} {Rp : RT} (a0 : Nat) (a1 : Nat) (a2 : Nat) (h : ∀ G : Nat → PT, w_X10_hearInstall_0 (MS Z (d + 3)) G Rp [.ref a0, .ref a1, .ref a2, .null, .null] [] S (0, 0) μ ρ) : MS Z (d + 4) jX10_hearInstall [.ref a0, .ref a1, .ref a2] S μ ρ Rp :=
  MS_of [.ref a0, .ref a1, .ref a2, .null, .null] (by decide +kernel) rfl rfl (Nat.le_of_ble_eq_true rfl) rfl (fun p e R s m args below meth c C => b_X10_hearInstall_0 C _ _ _ _ _ _ (h _ ))
def F_X10_hearInstall : FT := fun As S μ ρ k => match As with
  | [.ref a, .ref x, .ref q] => S.2 a = (10, 6) ∧ ∃ (s f : Nat) (A g : Rw), s < 5 ∧ x = a + 130 + 8 * s ∧ RR A a S μ ρ ∧ Mg A g a q μ ρ s f ∧ hK A s ∧ ¬ A (514 * s + 1) < g 2 ∧ g 3 = 4 ∧ rg (g 4) 0 120 ∧ 0 ≤ (g 5).toInt ∧ ∀ μ', RR (qInstalls A g s f (g 2 = A (514 * s + 1))) a S μ' ρ → Ot a μ μ' → k none μ'
  | _ => False
theorem r_X10_hearInstall {As S μ ρ k} (h : F_X10_hearInstall As S μ ρ k) : ∃ a As', As = Value.ref a :: As' ∧ S.2 a = (10, 6) := by
  unfold F_X10_hearInstall at h
  split at h
  · exact ⟨_, _, rfl, h.1⟩
  · exact h.elim
set_option maxHeartbeats 1000000 in
theorem f_X10_hearInstall {Z : Zt} {d : Nat} {As : List Value} {S : Sh} {μ : Mi} {ρ : Mr} {Rp : RT} (h : F_X10_hearInstall As S μ ρ (fun r μ' => Rp r S μ' ρ)) : MS Z (d + 4) jX10_hearInstall As S μ ρ Rp := by
  unfold F_X10_hearInstall at h
  split at h
  · rename_i a x q
    obtain ⟨a, hNa⟩ : ∃ n : Nat, n = a := ⟨a, rfl⟩
    subst hNa
    obtain ⟨q, hNq⟩ : ∃ n : Nat, n = q := ⟨q, rfl⟩
    subst hNq
    obtain ⟨h1, s, f, A, g, hs, rfl, hR, hM, hK0, hle, hg3, hg4, hg5, h⟩ := h
    refine ms_X10_hearInstall _ _ _ (fun G => ?_)
    have hW := RR_W hR
    obtain ⟨x1, x2, -⟩ := W_st hW hs
    obtain ⟨⟨jq, jq1, jq2⟩, m1, m2, m3⟩ := Mg_at hM hW
    obtain ⟨hq60, hMs, hg0, hf, hg1, hsf⟩ := hM
    have hSt := RR_st hR hs
    have hA := hSt.1
    unfold StA at hA
    have hmem := St_mem hSt
    rw [hSt.2.2.2.2.2.1, hSt.2.2.2.2.2.2] at hmem
    have hrs : rg (nI s) 0 4 := (rg_nI (by omega)).mpr ⟨by omega, by omega⟩
    have hrf : rg (nI f) 0 4 := (rg_nI (by omega)).mpr ⟨by omega, by omega⟩
    have hrn : ¬ nI s = nI f := by rw [nI_eq (by omega) (by omega)]; exact hsf
    have x2' := x2
    unfold StS at x2
    have f36 : ∀ (C : Rw) (ν : Mi) (pl : Int32), RR C a S ν ρ → Ot a μ ν → ν q = μ q → (∀ μ', RR (qPost C s f (rowS (nI s) (nI f) (C (514 * s + 1)) 5 pl 0 (g 8))) a S μ' ρ → Ot a μ μ' → Rp none S μ' ρ) → w_X10_hearInstall_36 (MS Z (d + 3)) G Rp [.ref a, .ref (a + 130 + 8 * s), .ref q, .int pl, .null] [] S (0, 0) ν ρ := by
      intro C ν pl r o eq hh
      have hB := (RR_st r hs).1
      unfold StA at hB
      simp only [w_X10_hearInstall_36, tAload, tIload, nth, tGetI, tGetR, tConst, tLconst, tBin, tUn, tI2l, tAld, tAldR, tAlen, tIast, tBast, tZast, tAast, tIret, tZret, tVret, tAret, tIf, tIf2, tGoto, tIstore, tAstore, sset, tIinc, tDup, tDup2, tPop, tPutI, tPutZ, tPutR, tCallV, tCallS, popN, tFn, tCopy, tMax, tMin, tSw, swc, tRem, tObjI, Option.toList, List.nil_append, List.cons_append, okR, true_and, and_true, true_or, or_true, Nat.zero_le, ne_eq, not_false_eq_true, Nat.reduceEqDiff, F_X1_post, h1, x1, m1, hW.2.2.2.2.1, hW.2.1, hB, eq, hMs.1, hg0]
      refine ⟨a, s, f, C, rfl, r.1, rfl, rfl, hs, hf, hsf, fun q' μ1 p1 p2 p3 => ?_⟩
      have p2' := p2
      obtain ⟨k1, k2, k3, k4, k5⟩ := post_keep r.1 p1 p2 hq60
      obtain ⟨j, -, -, j3, -⟩ := p2
      have e8 : ∀ u, upI μ1 q' 4 u q 8 = g 8 := fun u => by rw [upI_ne k1, k4, eq, hMs.1.2.2.2.2.2.2.2.2]
      simp only [j3, e8, true_and]
      have r2 := RR_sent (μ' := upI (upI μ1 q' 4 pl) q' 8 (g 8)) r hs hf hsf p1 p2' (fun y y1 y2 => by rw [upI_ne y1, upI_ne y1]) (MsR_S (f := nI s) (t := nI f) (tm := C (514 * s + 1)) (kd := 5) (x := pl) (y := 0) (rd := g 8) (by simp (disch := omega) only [upI_k, upI_at, p3, and_self]) hrs hrf hrn (by decide))
      exact hh _ r2.1 (ot_trans o (Fm_Ot r2.2))
    unfold qInstalls at h
    have hplaysA := RR_bec (o := 0) hs hR (by decide)
    simp only [w_X10_hearInstall_0, tAload, tIload, nth, tGetI, tGetR, tConst, tLconst, tBin, tUn, tI2l, tAld, tAldR, tAlen, tIast, tBast, tZast, tAast, tIret, tZret, tVret, tAret, tIf, tIf2, tGoto, tIstore, tAstore, sset, tIinc, tDup, tDup2, tPop, tPutI, tPutZ, tPutR, tCallV, tCallS, popN, tFn, tCopy, tMax, tMin, tSw, swc, tRem, tObjI, Option.toList, List.nil_append, List.cons_append, okR, true_and, and_true, true_or, or_true, Nat.zero_le, ne_eq, not_false_eq_true, Nat.reduceEqDiff, F_X7_becomes, F_X7_install, x1, x2', m1, m2, m3, hA, hMs.1]
    refine ⟨fun c => ?_, fun c => ?_⟩
    · have ni : ¬ g 2 = A (514 * s + 1) := fun z => by rw [z] at c; exact absurd c Int32.lt_irrefl
      simp only [if_neg ni] at h
      exact f36 A μ 0 hR (fun _ _ => rfl) rfl h
    have isOf : g 2 = A (514 * s + 1) := Int32.le_antisymm (Int32.not_lt.mp hle) (Int32.not_lt.mp c)
    simp only [if_pos isOf] at h
    have hο : Ot a μ (cBec μ (a + 130 + 8 * s) 0) := fun y hy => cBec_ne (by omega) (by omega)
    have hqr : cBec μ (a + 130 + 8 * s) 0 q = μ q := cBec_ne (by omega) (by omega)
    have hql : cBec μ (a + 130 + 8 * s) 0 (q + 1) = μ (q + 1) := cBec_ne (by omega) (by omega)
    have hrole : qPlays A s 0 (514 * s + 3) = 0 := qPlays_3
    have p4 : qPlays A s 0 (514 * s + 4) = A (514 * s + 4) := qPlays_out (by omega)
    have p5 : qPlays A s 0 (514 * s + 5) = A (514 * s + 5) := qPlays_out (by omega)
    have p7 : qPlays A s 0 (514 * s + 7) = A (514 * s + 7) := qPlays_out (by omega)
    have p14 : qPlays A s 0 4514 = A 4514 := qPlays_out (by omega)
    have hagr := hK0.2.1
    unfold agR at hagr
    rw [← p4, ← p5, ← p7] at hagr
    rw [hqr]
    simp only [hMs.1]
    generalize qPlays A s 0 = C at *
    generalize cBec μ (a + 130 + 8 * s) 0 = ν at *
    have hStC := RR_st hplaysA hs
    have e8 : ν (a + 130 + 8 * s) 8 = C (514 * s + 7) := hStC.1.2.2.2.2.2.2.2.2.1
    have e7 : ν (a + 130 + 8 * s) 7 = C (514 * s + 4) := hStC.1.2.2.2.2.2.2.2.1
    have e5 : ν (a + 130 + 8 * s + 5) 0 = C (514 * s + 5) := hStC.1.2.2.2.2.2.2.2.2.2.1
    simp only [e8, e7, e5]
    refine ⟨fun c1 => ?_, fun c1 => ⟨by unfold apt; omega, hStC.2.1.2.1, hStC.2.1.2.2.1, hg4, ?_⟩⟩
    · rw [if_neg (Int32.not_lt.mpr c1)] at h
      exact f36 C ν _ hplaysA hο hqr h
    · rw [if_pos (Int32.not_le.mp c1)] at h
      have hms' : MsR g (C 4514) q ν := MsR_congr hMs (fun _ _ => rfl) p14 hqr hql
      have hlt := Int32.not_le.mp c1
      rw [Int32.lt_iff_toInt_lt] at hlt
      have st := St_inst hs hStC hms' rfl hg3 hg4 hg5 (by omega) (by unfold apt; omega)
      refine f36 (qSnapIn C g s (g 4) (g 5)) (cInst ν (a + 130 + 8 * s) q) _ ⟨R0_store hs hplaysA.1 (fun i hi => qSnapIn_out (by omega)) (fun y hy => cInst_ne (by omega) (by omega) (by omega) (by omega)) st, Nx_other hs hplaysA.2 (by rw [qSnapIn_out (by omega), hrole]; decide) (fun i hi => qSnapIn_out (by omega)) (fun y hy => cInst_ne (by omega) (by omega) (by omega) (by omega))⟩ (ot_trans hο (fun y hy => cInst_ne (by omega) (by omega) (by omega) (by omega))) ?_ h
      rw [cInst_ne (by omega) (by omega) (by omega) (by omega)]
      exact hqr
  · exact h.elim
