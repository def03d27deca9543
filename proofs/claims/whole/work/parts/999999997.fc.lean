/-! ===== what is made: the whole object, its worlds ===== -/
def w_X11_init_143 (M : CT) (G : Nat → PT) (Rp : RT) : PT := tVret Rp
def w_X11_init_119 (M : CT) (G : Nat → PT) (Rp : RT) : PT := tIload 1 <| tConst 2 <| tIf2 (fun x y => y ≤ x) (w_X11_init_143 M G Rp) <| tAload 0 <| tGetR 11 11 2 <| tIload 1 <| tNew 10 6 2735 37394 <| tDup <| tCallI M jX10_init 0 2735 37394 <| tAast 10 <| tIinc 1 1 <| tGoto (G 119)
def w_X11_init_117 (M : CT) (G : Nat → PT) (Rp : RT) : PT := tConst 0 <| tIstore 1 <| G 119
def w_X11_init_92 (M : CT) (G : Nat → PT) (Rp : RT) : PT := tIload 1 <| tConst 9 <| tIf2 (fun x y => y ≤ x) (w_X11_init_117 M G Rp) <| tAload 0 <| tGetR 11 11 1 <| tIload 1 <| tNew 10 6 2735 37394 <| tDup <| tCallI M jX10_init 0 2735 37394 <| tAast 10 <| tIinc 1 1 <| tGoto (G 92)
def w_X11_init_0 (M : CT) (G : Nat → PT) (Rp : RT) : PT := tAload 0 <| tObjI <| tAload 0 <| tNew 10 6 2735 37394 <| tDup <| tCallI M jX10_init 0 2735 37394 <| tPutR 11 11 0 <| tAload 0 <| tConst 9 <| tAnew 10 2735 37394 <| tPutR 11 11 1 <| tAload 0 <| tConst 2 <| tAnew 10 2735 37394 <| tPutR 11 11 2 <| tAload 0 <| tNew 3 2 2735 37394 <| tDup <| tCallI M jX3_init 0 2735 37394 <| tPutR 11 11 3 <| tAload 0 <| tNew 9 7 2735 37394 <| tDup <| tCallI M jX9_init 0 2735 37394 <| tPutR 11 11 4 <| tAload 0 <| tNew 4 10 2735 37394 <| tDup <| tCallI M jX4_init 0 2735 37394 <| tPutR 11 11 5 <| tAload 0 <| tConst 0 <| tPutI 11 11 6 <| tAload 0 <| tConst 0 <| tPutI 11 11 7 <| tAload 0 <| tConst 0 <| tPutI 11 11 8 <| tAload 0 <| tConst 0 <| tPutI 11 11 9 <| tAload 0 <| tConst (-1) <| tPutI 11 11 10 <| tConst 0 <| tIstore 1 <| G 92
set_option maxRecDepth 20000 in
theorem b_X11_init_143 {Z : Zt} {d : Nat} {p : Program} {e : Env} {R : Room} {s : State} {m : MethodId} {args : Array Value} {below : List Frame} {meth : Method} {c : Code} {Rp : RT} (C : Cx Z (d + 6) jX11_init RX11 p R s m args meth c) : Sd Z jX11_init p e R s m args below meth c (MQ below (QcS Z Rp) args s 2735 37394 (fun a => Z.2.2.1 < a)) 143 (w_X11_init_143 (MS Z (d + 6)) (Gw Z 2 p e R s m args below meth c (MQ below (QcS Z Rp) args s 2735 37394 (fun a => Z.2.2.1 < a))) Rp) := by
  unfold w_X11_init_143
  exact s_vret C rfl (by decide +kernel)
set_option maxRecDepth 20000 in
theorem b_X11_init_119 {Z : Zt} {d : Nat} {p : Program} {e : Env} {R : Room} {s : State} {m : MethodId} {args : Array Value} {below : List Frame} {meth : Method} {c : Code} {Rp : RT} (C : Cx Z (d + 6) jX11_init RX11 p R s m args meth c) : Sd Z jX11_init p e R s m args below meth c (MQ below (QcS Z Rp) args s 2735 37394 (fun a => Z.2.2.1 < a)) 119 (w_X11_init_119 (MS Z (d + 6)) (Gw Z 2 p e R s m args below meth c (MQ below (QcS Z Rp) args s 2735 37394 (fun a => Z.2.2.1 < a))) Rp) := by
  unfold w_X11_init_119
  refine s_iload_n (k := 1) C (by decide +kernel) ?_
  refine s_iconst (n := 2) C (by decide +kernel) (by decide) ?_
  refine s_icmp_ge (off := 22) (tgt := 143) C (by decide +kernel) (by decide) (b_X11_init_143 C) ?_
  refine s_aload_n (k := 0) C (by decide +kernel) ?_
  refine s_getR C w_2_236 (by decide +kernel) rfl ?_
  refine s_iload_n (k := 1) C (by decide +kernel) ?_
  refine s_new C rfl w_1_30 w_1_31 w_1_2 (by decide +kernel) ?_
  refine s_dup C (by decide +kernel) ?_
  refine s_callI C (by decide +kernel) ⟨rfl, rfl⟩ w_1_32 w_1_33 w_1_2 w_1_34 (by decide +kernel) ?_
  refine s_aast C rfl (by decide +kernel) ?_
  refine s_iinc (n := 1) C (by decide +kernel) (by decide) ?_
  exact s_goto (off := (-21)) (tgt := 119) C (by decide +kernel) (by decide) (fun _ _ _ _ _ _ h => h)
set_option maxRecDepth 20000 in
theorem b_X11_init_117 {Z : Zt} {d : Nat} {p : Program} {e : Env} {R : Room} {s : State} {m : MethodId} {args : Array Value} {below : List Frame} {meth : Method} {c : Code} {Rp : RT} (C : Cx Z (d + 6) jX11_init RX11 p R s m args meth c) : Sd Z jX11_init p e R s m args below meth c (MQ below (QcS Z Rp) args s 2735 37394 (fun a => Z.2.2.1 < a)) 117 (w_X11_init_117 (MS Z (d + 6)) (Gw Z 2 p e R s m args below meth c (MQ below (QcS Z Rp) args s 2735 37394 (fun a => Z.2.2.1 < a))) Rp) := by
  unfold w_X11_init_117
  refine s_iconst (n := 0) C (by decide +kernel) (by decide) ?_
  refine s_istore_n (k := 1) C (by decide +kernel) ?_
  exact (fun _ _ _ _ _ _ h => h)
set_option maxRecDepth 20000 in
theorem b_X11_init_92 {Z : Zt} {d : Nat} {p : Program} {e : Env} {R : Room} {s : State} {m : MethodId} {args : Array Value} {below : List Frame} {meth : Method} {c : Code} {Rp : RT} (C : Cx Z (d + 6) jX11_init RX11 p R s m args meth c) : Sd Z jX11_init p e R s m args below meth c (MQ below (QcS Z Rp) args s 2735 37394 (fun a => Z.2.2.1 < a)) 92 (w_X11_init_92 (MS Z (d + 6)) (Gw Z 2 p e R s m args below meth c (MQ below (QcS Z Rp) args s 2735 37394 (fun a => Z.2.2.1 < a))) Rp) := by
  unfold w_X11_init_92
  refine s_iload_n (k := 1) C (by decide +kernel) ?_
  refine s_bipush (n := 9) C (by decide +kernel) (by decide) ?_
  refine s_icmp_ge (off := 22) (tgt := 117) C (by decide +kernel) (by decide) (b_X11_init_117 C) ?_
  refine s_aload_n (k := 0) C (by decide +kernel) ?_
  refine s_getR C w_2_235 (by decide +kernel) rfl ?_
  refine s_iload_n (k := 1) C (by decide +kernel) ?_
  refine s_new C rfl w_1_30 w_1_31 w_1_2 (by decide +kernel) ?_
  refine s_dup C (by decide +kernel) ?_
  refine s_callI C (by decide +kernel) ⟨rfl, rfl⟩ w_1_32 w_1_33 w_1_2 w_1_34 (by decide +kernel) ?_
  refine s_aast C rfl (by decide +kernel) ?_
  refine s_iinc (n := 1) C (by decide +kernel) (by decide) ?_
  exact s_goto (off := (-22)) (tgt := 92) C (by decide +kernel) (by decide) (fun _ _ _ _ _ _ h => h)
set_option maxRecDepth 20000 in
theorem b_X11_init_0 {Z : Zt} {d : Nat} {p : Program} {e : Env} {R : Room} {s : State} {m : MethodId} {args : Array Value} {below : List Frame} {meth : Method} {c : Code} {Rp : RT} (C : Cx Z (d + 6) jX11_init RX11 p R s m args meth c) : Sd Z jX11_init p e R s m args below meth c (MQ below (QcS Z Rp) args s 2735 37394 (fun a => Z.2.2.1 < a)) 0 (w_X11_init_0 (MS Z (d + 6)) (Gw Z 2 p e R s m args below meth c (MQ below (QcS Z Rp) args s 2735 37394 (fun a => Z.2.2.1 < a))) Rp) := by
  unfold w_X11_init_0
  refine s_aload_n (k := 0) C (by decide +kernel) ?_
  refine s_objI C w_1_27 w_1_28 w_1_29 (by decide +kernel) ?_
  refine s_aload_n (k := 0) C (by decide +kernel) ?_
  refine s_new C rfl w_1_30 w_1_31 w_1_2 (by decide +kernel) ?_
  refine s_dup C (by decide +kernel) ?_
  refine s_callI C (by decide +kernel) ⟨rfl, rfl⟩ w_1_32 w_1_33 w_1_2 w_1_34 (by decide +kernel) ?_
  refine s_putR C w_2_234 (by decide +kernel) rfl (Or.inr ⟨rfl, rfl, rfl⟩) ?_
  refine s_aload_n (k := 0) C (by decide +kernel) ?_
  refine s_bipush (n := 9) C (by decide +kernel) (by decide) ?_
  refine s_anew C rfl w_1_30 w_2_143 (by decide +kernel) ?_
  refine s_putR C w_2_235 (by decide +kernel) rfl (Or.inr ⟨rfl, rfl, rfl⟩) ?_
  refine s_aload_n (k := 0) C (by decide +kernel) ?_
  refine s_iconst (n := 2) C (by decide +kernel) (by decide) ?_
  refine s_anew C rfl w_1_30 w_2_143 (by decide +kernel) ?_
  refine s_putR C w_2_236 (by decide +kernel) rfl (Or.inr ⟨rfl, rfl, rfl⟩) ?_
  refine s_aload_n (k := 0) C (by decide +kernel) ?_
  refine s_new C rfl w_2_144 w_2_145 w_1_10 (by decide +kernel) ?_
  refine s_dup C (by decide +kernel) ?_
  refine s_callI C (by decide +kernel) ⟨rfl, rfl⟩ w_2_146 w_2_147 w_1_10 w_2_148 (by decide +kernel) ?_
  refine s_putR C w_2_237 (by decide +kernel) rfl (Or.inr ⟨rfl, rfl, rfl⟩) ?_
  refine s_aload_n (k := 0) C (by decide +kernel) ?_
  refine s_new C rfl w_2_159 w_2_160 w_1_11 (by decide +kernel) ?_
  refine s_dup C (by decide +kernel) ?_
  refine s_callIN C (by decide +kernel) ⟨rfl, rfl⟩ w_2_161 w_2_162 w_1_11 w_2_163 (by decide +kernel) ?_
  refine s_putR C w_2_238 (by decide +kernel) rfl (Or.inr ⟨rfl, rfl, rfl⟩) ?_
  refine s_aload_n (k := 0) C (by decide +kernel) ?_
  refine s_new C rfl w_2_190 w_2_191 w_1_12 (by decide +kernel) ?_
  refine s_dup C (by decide +kernel) ?_
  refine s_callIN C (by decide +kernel) ⟨rfl, rfl⟩ w_2_192 w_2_193 w_1_12 w_2_194 (by decide +kernel) ?_
  refine s_putR C w_2_239 (by decide +kernel) rfl (Or.inr ⟨rfl, rfl, rfl⟩) ?_
  refine s_aload_n (k := 0) C (by decide +kernel) ?_
  refine s_iconst (n := 0) C (by decide +kernel) (by decide) ?_
  refine s_putI C w_3_0 (by decide +kernel) rfl (Or.inl rfl) ?_
  refine s_aload_n (k := 0) C (by decide +kernel) ?_
  refine s_iconst (n := 0) C (by decide +kernel) (by decide) ?_
  refine s_putI C w_3_1 (by decide +kernel) rfl (Or.inl rfl) ?_
  refine s_aload_n (k := 0) C (by decide +kernel) ?_
  refine s_iconst (n := 0) C (by decide +kernel) (by decide) ?_
  refine s_putI C w_3_2 (by decide +kernel) rfl (Or.inl rfl) ?_
  refine s_aload_n (k := 0) C (by decide +kernel) ?_
  refine s_iconst (n := 0) C (by decide +kernel) (by decide) ?_
  refine s_putI C w_3_3 (by decide +kernel) rfl (Or.inl rfl) ?_
  refine s_aload_n (k := 0) C (by decide +kernel) ?_
  refine s_iconst (n := (-1)) C (by decide +kernel) (by decide) ?_
  refine s_putI C w_3_4 (by decide +kernel) rfl (Or.inl rfl) ?_
  refine s_iconst (n := 0) C (by decide +kernel) (by decide) ?_
  refine s_istore_n (k := 1) C (by decide +kernel) ?_
  exact (fun _ _ _ _ _ _ h => h)
theorem ms_X11_init {Z : Zt} {d : Nat} {S : Sh} {μ : Mi} {ρ : Mr} {Rp : RT} (a0 : Nat) (h : ∀ G : Nat → PT, (∀ (L st : List Value) (S : Sh) (q : Nat × Nat) (μ : Mi) (ρ : Mr), w_X11_init_92 (MS Z (d + 6)) G Rp L st S q μ ρ → G 92 L st S q μ ρ) → (∀ (L st : List Value) (S : Sh) (q : Nat × Nat) (μ : Mi) (ρ : Mr), w_X11_init_119 (MS Z (d + 6)) G Rp L st S q μ ρ → G 119 L st S q μ ρ) → w_X11_init_0 (MS Z (d + 6)) G Rp [.ref a0, .null] [] S (0, 0) μ ρ) : MS Z (d + 7) jX11_init [.ref a0] S μ ρ Rp :=
  MS_of [.ref a0, .null] (by decide +kernel) rfl rfl (Nat.le_of_ble_eq_true rfl) rfl (fun p e R s m args below meth c C => b_X11_init_0 C _ _ _ _ _ _ (h _ (b_X11_init_92 C) (b_X11_init_119 C)))
def AK0 (S : Sh) (μ : Mi) (ρ : Mr) : Prop := (S.2 1 = (11, 11) ∧ S.2 172 = (40, 9) ∧ S.2 173 = (40, 2)) ∧ (ρ 1 0 = 2 ∧ ρ 1 1 = 172 ∧ ρ 1 2 = 173 ∧ ρ 1 3 = 174 ∧ ρ 1 4 = 856 ∧ ρ 1 5 = 859) ∧ (∃ A, RR (qInit A 31) 2 S μ ρ) ∧ PapOK 174 S ρ ∧ anyW 176 S μ ρ ∧ (∀ k, k < 3 → anyW (346 + 170 * k) S μ ρ) ∧ TpS S ρ ∧ PgS S ρ ∧ (μ 1 6 = 0 ∧ μ 1 7 = 0 ∧ μ 1 8 = 0 ∧ μ 1 9 = 0 ∧ μ 1 10 = -1) ∧ (μ 856 2 = 0 ∧ μ 856 3 = 0 ∧ μ 856 4 = -1)
theorem AK0_lo {S S' : Sh} {μ μ' : Mi} {ρ ρ' : Mr} (h : AK0 S μ ρ) (hS : ∀ y, y < 867 → S'.2 y = S.2 y) (hμ : ∀ y, y < 867 → μ' y = μ y) (hρ : ∀ y, y < 867 → y ≠ 172 → y ≠ 173 → ρ' y = ρ y) : AK0 S' μ' ρ' := by
  obtain ⟨h1, h2, ⟨A, h3⟩, h4, h5, h6, h7, h8, h9, h10⟩ := h
  refine ⟨?_, ?_, ⟨A, RR_blk h3 (fun y y1 y2 => hS y (by omega)) (fun y y1 y2 => hμ y (by omega)) (fun y y1 y2 => hρ y (by omega) (by omega) (by omega))⟩, ?_, any_blk h5 (fun y y1 y2 => hS y (by omega)) (fun y y1 y2 => hμ y (by omega)) (fun y y1 y2 => hρ y (by omega) (by omega) (by omega)), fun k hk => any_blk (h6 k hk) (fun y y1 y2 => hS y (by omega)) (fun y y1 y2 => hμ y (by omega)) (fun y y1 y2 => hρ y (by omega) (by omega) (by omega)), ?_, ?_, ?_, ?_⟩
  · rw [hS 1 (by omega), hS 172 (by omega), hS 173 (by omega)]; exact h1
  · rw [hρ 1 (by omega) (by omega) (by omega)]; exact h2
  · unfold PapOK at *
    rw [hS 174 (by omega), hS (174 + 1) (by omega), hρ 174 (by omega) (by omega) (by omega), hρ (174 + 1) (by omega) (by omega) (by omega)]
    exact h4
  · unfold TpS at *
    rw [hS 856 (by omega), hS 857 (by omega), hS 858 (by omega), hρ 856 (by omega) (by omega) (by omega)]
    exact h7
  · unfold PgS at *
    rw [hS 859 (by omega), hS 860 (by omega), hS 861 (by omega), hS 862 (by omega), hS 863 (by omega), hS 864 (by omega), hS 865 (by omega), hS 866 (by omega), hρ 859 (by omega) (by omega) (by omega)]
    exact h8
  · rw [hμ 1 (by omega)]; exact h9
  · rw [hμ 856 (by omega)]; exact h10
def AK (i j : Nat) (S : Sh) (μ : Mi) (ρ : Mr) : Prop := S.1 = 867 + 170 * i + 170 * j ∧ AK0 S μ ρ ∧ (∀ k, k < i → anyW (867 + 170 * k) S μ ρ ∧ ρ 172 k = 867 + 170 * k) ∧ ∀ k, k < j → anyW (2397 + 170 * k) S μ ρ ∧ ρ 173 k = 2397 + 170 * k
section Mk5
variable {Z : Zt} {d : Nat} {Rp : RT} {G : Nat → PT}
set_option maxHeartbeats 1000000 in
theorem x11_loop2 (g119 : ∀ L st S q μ ρ, w_X11_init_119 (MS Z (d + 6)) G Rp L st S q μ ρ → G 119 L st S q μ ρ) (h : ∀ S' μ' ρ', AK 9 2 S' μ' ρ' → Rp none S' μ' ρ') : ∀ (m j : Nat) (S' : Sh) (μ' : Mi) (ρ' : Mr), m + j = 2 → AK 9 j S' μ' ρ' → G 119 [.ref 1, .int (nI j)] [] S' (2395 + 170 * j, 32950 + 2222 * j) μ' ρ' := by
  intro m
  induction m with
  | zero =>
    intro j S' μ' ρ' hm k
    obtain rfl : j = 2 := by omega
    apply g119
    simp only [w_X11_init_119, w_X11_init_143, tAload, tIload, nth, tGetI, tGetR, tConst, tLconst, tBin, tUn, tI2l, tAld, tAldR, tAlen, tIast, tBast, tZast, tAast, tIret, tZret, tVret, tAret, tIf, tIf2, tGoto, tIstore, tAstore, sset, tIinc, tDup, tDup2, tPop, tPutI, tPutZ, tPutR, tCallV, tCallS, popN, tFn, tCopy, tMax, tMin, tSw, swc, tRem, tObjI, Option.toList, List.nil_append, List.cons_append, okR, true_and, and_true, true_or, or_true, Nat.zero_le, ne_eq, not_false_eq_true, Nat.reduceEqDiff]
    exact ⟨fun _ => h S' μ' ρ' k, fun c => absurd (by decide) c⟩
  | succ m ih =>
    intro j S' μ' ρ' hm k
    obtain ⟨g1, k0, ki, kj⟩ := k
    obtain ⟨⟨s1, s172, s173⟩, ⟨r0, r1, r2, r3, r4, r5⟩, -⟩ := id k0
    apply g119
    simp only [w_X11_init_119, tAload, tIload, nth, tGetI, tGetR, tConst, tLconst, tBin, tUn, tI2l, tAld, tAldR, tAlen, tIast, tBast, tZast, tAast, tIret, tZret, tVret, tAret, tIf, tIf2, tGoto, tIstore, tAstore, sset, tIinc, tDup, tDup2, tPop, tPutI, tPutZ, tPutR, tCallV, tCallS, popN, tFn, tCopy, tMax, tMin, tSw, swc, tRem, tObjI, Option.toList, List.nil_append, List.cons_append, okR, true_and, and_true, true_or, or_true, Nat.zero_le, ne_eq, not_false_eq_true, Nat.reduceEqDiff, tNew, tNewa, tAnew, tCallI, s1, r2]
    refine ⟨fun c => absurd c (by rw [show (2 : Int32) = nI 2 from rfl, nI_leI (by decide) (by omega)]; omega), fun _ => ⟨by omega, by omega, ?_, ?_, ?_⟩⟩
    · show 2395 + 170 * j + 1 + 169 ≤ 2735
      omega
    · show 32950 + 2222 * j + 6 + 2216 ≤ 37394
      omega
    refine f_X10_init (by omega) rfl upK_at (fun S2 μ2 ρ2 B gg e1 => ?_)
    obtain ⟨t1, t2, t3, t4⟩ := gg
    dsimp only at t1 t2 t3 t4
    have lo : ∀ y, y < S'.1 → S2.2 y = S'.2 y := fun y hy => by rw [t2 y (by omega), upK_ne (by omega)]
    have sm : S2.2 S'.1 = (10, 6) := by rw [t2 _ (by omega)]; exact upK_at
    have rlo : ∀ y, y < S'.1 → ρ2 y = ρ' y := fun y hy => by rw [t4 y (by omega) (by omega), upFr_ne (by omega)]
    have mlo : ∀ y, y < S'.1 → μ2 y = μ' y := fun y hy => by rw [t3 y (by omega) (by omega), upF_ne (by omega)]
    have b1 : S2.2 173 = (40, 2) := (lo _ (by omega)).trans s173
    have ro : ∀ y, y ≠ 173 → y < S'.1 → upR ρ2 173 j S'.1 y = ρ' y := fun y y1 y2 => by rw [upR_ne y1]; exact rlo y y2
    simp only [tAload, tIload, nth, tGetI, tGetR, tConst, tLconst, tBin, tUn, tI2l, tAld, tAldR, tAlen, tIast, tBast, tZast, tAast, tIret, tZret, tVret, tAret, tIf, tIf2, tGoto, tIstore, tAstore, sset, tIinc, tDup, tDup2, tPop, tPutI, tPutZ, tPutR, tCallV, tCallS, popN, tFn, tCopy, tMax, tMin, tSw, swc, tRem, tObjI, Option.toList, List.nil_append, List.cons_append, okR, true_and, and_true, true_or, or_true, Nat.zero_le, ne_eq, not_false_eq_true, Nat.reduceEqDiff, tAast, b1, sm, nI_clamp (show j < 2 ^ 31 by omega), nI_s1]
    refine ⟨inb_nI (by omega) (by decide), ?_⟩
    have := ih (j + 1) S2 μ2 (upR ρ2 173 j S'.1) (by omega) ⟨by omega, AK0_lo k0 (fun y hy => lo y (by omega)) (fun y hy => mlo y (by omega)) (fun y hy _ h3 => ro y h3 (by omega)), fun k hk => ?_, fun k hk => ?_⟩
    · rw [show (2395 + 170 * (j + 1), 32950 + 2222 * (j + 1)) = (2395 + 170 * j + 1 + 169, 32950 + 2222 * j + 6 + 2216) from Prod.ext (by show 2395 + 170 * (j + 1) = 2395 + 170 * j + 1 + 169; omega) (by show 32950 + 2222 * (j + 1) = 32950 + 2222 * j + 6 + 2216; omega)] at this
      exact this
    · obtain ⟨x1, x2⟩ := ki k hk
      exact ⟨any_blk x1 (fun y y1 y2 => lo y (by omega)) (fun y y1 y2 => mlo y (by omega)) (fun y y1 y2 => ro y (by omega) (by omega)), by rw [ro _ (by omega) (by omega)]; exact x2⟩
    · by_cases c : k = j
      · subst c
        rw [show 2397 + 170 * k = S'.1 by omega]
        exact ⟨⟨_, RR_blk e1 (fun y y1 y2 => rfl) (fun y y1 y2 => rfl) (fun y y1 y2 => upR_ne (by omega))⟩, by rw [upR_at]⟩
      · obtain ⟨x1, x2⟩ := kj k (by omega)
        exact ⟨any_blk x1 (fun y y1 y2 => lo y (by omega)) (fun y y1 y2 => mlo y (by omega)) (fun y y1 y2 => ro y (by omega) (by omega)), by rw [upR_k c, rlo _ (by omega)]; exact x2⟩
set_option maxHeartbeats 1000000 in
theorem x11_loop1 (g92 : ∀ L st S q μ ρ, w_X11_init_92 (MS Z (d + 6)) G Rp L st S q μ ρ → G 92 L st S q μ ρ) (g119 : ∀ L st S q μ ρ, w_X11_init_119 (MS Z (d + 6)) G Rp L st S q μ ρ → G 119 L st S q μ ρ) (h : ∀ S' μ' ρ', AK 9 2 S' μ' ρ' → Rp none S' μ' ρ') : ∀ (m i : Nat) (S' : Sh) (μ' : Mi) (ρ' : Mr), m + i = 9 → AK i 0 S' μ' ρ' → G 92 [.ref 1, .int (nI i)] [] S' (865 + 170 * i, 12952 + 2222 * i) μ' ρ' := by
  intro m
  induction m with
  | zero =>
    intro i S' μ' ρ' hm k
    obtain rfl : i = 9 := by omega
    apply g92
    simp only [w_X11_init_92, w_X11_init_117, tAload, tIload, nth, tGetI, tGetR, tConst, tLconst, tBin, tUn, tI2l, tAld, tAldR, tAlen, tIast, tBast, tZast, tAast, tIret, tZret, tVret, tAret, tIf, tIf2, tGoto, tIstore, tAstore, sset, tIinc, tDup, tDup2, tPop, tPutI, tPutZ, tPutR, tCallV, tCallS, popN, tFn, tCopy, tMax, tMin, tSw, swc, tRem, tObjI, Option.toList, List.nil_append, List.cons_append, okR, true_and, and_true, true_or, or_true, Nat.zero_le, ne_eq, not_false_eq_true, Nat.reduceEqDiff]
    exact ⟨fun _ => x11_loop2 g119 h 2 0 S' μ' ρ' rfl k, fun c => absurd (by decide) c⟩
  | succ m ih =>
    intro i S' μ' ρ' hm k
    obtain ⟨g1, k0, ki, kj⟩ := k
    obtain ⟨⟨s1, s172, s173⟩, ⟨r0, r1, r2, r3, r4, r5⟩, -⟩ := id k0
    apply g92
    simp only [w_X11_init_92, tAload, tIload, nth, tGetI, tGetR, tConst, tLconst, tBin, tUn, tI2l, tAld, tAldR, tAlen, tIast, tBast, tZast, tAast, tIret, tZret, tVret, tAret, tIf, tIf2, tGoto, tIstore, tAstore, sset, tIinc, tDup, tDup2, tPop, tPutI, tPutZ, tPutR, tCallV, tCallS, popN, tFn, tCopy, tMax, tMin, tSw, swc, tRem, tObjI, Option.toList, List.nil_append, List.cons_append, okR, true_and, and_true, true_or, or_true, Nat.zero_le, ne_eq, not_false_eq_true, Nat.reduceEqDiff, tNew, tNewa, tAnew, tCallI, s1, r1]
    refine ⟨fun c => absurd c (by rw [show (9 : Int32) = nI 9 from rfl, nI_leI (by decide) (by omega)]; omega), fun _ => ⟨by omega, by omega, ?_, ?_, ?_⟩⟩
    · show 865 + 170 * i + 1 + 169 ≤ 2735
      omega
    · show 12952 + 2222 * i + 6 + 2216 ≤ 37394
      omega
    refine f_X10_init (by omega) rfl upK_at (fun S2 μ2 ρ2 B gg e1 => ?_)
    obtain ⟨t1, t2, t3, t4⟩ := gg
    dsimp only at t1 t2 t3 t4
    have lo : ∀ y, y < S'.1 → S2.2 y = S'.2 y := fun y hy => by rw [t2 y (by omega), upK_ne (by omega)]
    have sm : S2.2 S'.1 = (10, 6) := by rw [t2 _ (by omega)]; exact upK_at
    have rlo : ∀ y, y < S'.1 → ρ2 y = ρ' y := fun y hy => by rw [t4 y (by omega) (by omega), upFr_ne (by omega)]
    have mlo : ∀ y, y < S'.1 → μ2 y = μ' y := fun y hy => by rw [t3 y (by omega) (by omega), upF_ne (by omega)]
    have b1 : S2.2 172 = (40, 9) := (lo _ (by omega)).trans s172
    have ro : ∀ y, y ≠ 172 → y < S'.1 → upR ρ2 172 i S'.1 y = ρ' y := fun y y1 y2 => by rw [upR_ne y1]; exact rlo y y2
    simp only [tAload, tIload, nth, tGetI, tGetR, tConst, tLconst, tBin, tUn, tI2l, tAld, tAldR, tAlen, tIast, tBast, tZast, tAast, tIret, tZret, tVret, tAret, tIf, tIf2, tGoto, tIstore, tAstore, sset, tIinc, tDup, tDup2, tPop, tPutI, tPutZ, tPutR, tCallV, tCallS, popN, tFn, tCopy, tMax, tMin, tSw, swc, tRem, tObjI, Option.toList, List.nil_append, List.cons_append, okR, true_and, and_true, true_or, or_true, Nat.zero_le, ne_eq, not_false_eq_true, Nat.reduceEqDiff, tAast, b1, sm, nI_clamp (show i < 2 ^ 31 by omega), nI_s1]
    refine ⟨inb_nI (by omega) (by decide), ?_⟩
    have := ih (i + 1) S2 μ2 (upR ρ2 172 i S'.1) (by omega) ⟨by omega, AK0_lo k0 (fun y hy => lo y (by omega)) (fun y hy => mlo y (by omega)) (fun y hy h2 _ => ro y h2 (by omega)), fun k hk => ?_, fun k hk => by omega⟩
    · rw [show (865 + 170 * (i + 1), 12952 + 2222 * (i + 1)) = (865 + 170 * i + 1 + 169, 12952 + 2222 * i + 6 + 2216) from Prod.ext (by show 865 + 170 * (i + 1) = 865 + 170 * i + 1 + 169; omega) (by show 12952 + 2222 * (i + 1) = 12952 + 2222 * i + 6 + 2216; omega)] at this
      exact this
    · by_cases c : k = i
      · subst c
        rw [show 867 + 170 * k = S'.1 by omega]
        exact ⟨⟨_, RR_blk e1 (fun y y1 y2 => rfl) (fun y y1 y2 => rfl) (fun y y1 y2 => upR_ne (by omega))⟩, by rw [upR_at]⟩
      · obtain ⟨x1, x2⟩ := ki k (by omega)
        exact ⟨any_blk x1 (fun y y1 y2 => lo y (by omega)) (fun y y1 y2 => mlo y (by omega)) (fun y y1 y2 => ro y (by omega) (by omega)), by rw [upR_k c, rlo _ (by omega)]; exact x2⟩
end Mk5
