/-! ===== the class: a message comes ===== -/
def w_X10_canCome_38 (M : CT) (G : Nat → PT) (Rp : RT) : PT := tZret Rp
def w_X10_canCome_37 (M : CT) (G : Nat → PT) (Rp : RT) : PT := tConst 0 <| w_X10_canCome_38 M G Rp
def w_X10_canCome_0 (M : CT) (G : Nat → PT) (Rp : RT) : PT := tAload 0 <| tGetR 10 6 0 <| tAload 1 <| tGetI 2 10 1 <| tAldR 37 <| tGetI 7 18 1 <| tIf (fun x => x = 0) (w_X10_canCome_37 M G Rp) <| tAload 0 <| tGetR 10 6 1 <| tAload 1 <| tGetI 2 10 0 <| tAload 1 <| tGetI 2 10 1 <| tFn 3 F_X1_isCut <| tIf (fun x => x ≠ 0) (w_X10_canCome_37 M G Rp) <| tConst 1 <| tGoto (w_X10_canCome_38 M G Rp)
set_option maxRecDepth 20000 in
theorem b_X10_canCome_38 {Z : Zt} {d : Nat} {p : Program} {e : Env} {R : Room} {s : State} {m : MethodId} {args : Array Value} {below : List Frame} {meth : Method} {c : Code} {Rp : RT} (C : Cx Z (d + 1) jX10_canCome RX10 p R s m args meth c) : Sd Z jX10_canCome p e R s m args below meth c (MQ below (QcS Z Rp) args s 0 0 (fun a => Z.2.2.1 < a)) 38 (w_X10_canCome_38 (MS Z (d + 1)) (Gw Z 2 p e R s m args below meth c (MQ below (QcS Z Rp) args s 0 0 (fun a => Z.2.2.1 < a))) Rp) := by
  unfold w_X10_canCome_38
  exact s_zret C rfl (by decide +kernel)
set_option maxRecDepth 20000 in
theorem b_X10_canCome_37 {Z : Zt} {d : Nat} {p : Program} {e : Env} {R : Room} {s : State} {m : MethodId} {args : Array Value} {below : List Frame} {meth : Method} {c : Code} {Rp : RT} (C : Cx Z (d + 1) jX10_canCome RX10 p R s m args meth c) : Sd Z jX10_canCome p e R s m args below meth c (MQ below (QcS Z Rp) args s 0 0 (fun a => Z.2.2.1 < a)) 37 (w_X10_canCome_37 (MS Z (d + 1)) (Gw Z 2 p e R s m args below meth c (MQ below (QcS Z Rp) args s 0 0 (fun a => Z.2.2.1 < a))) Rp) := by
  unfold w_X10_canCome_37
  refine s_iconst (n := 0) C (by decide +kernel) (by decide) ?_
  exact (b_X10_canCome_38 C)
set_option maxRecDepth 20000 in
theorem b_X10_canCome_0 {Z : Zt} {d : Nat} {p : Program} {e : Env} {R : Room} {s : State} {m : MethodId} {args : Array Value} {below : List Frame} {meth : Method} {c : Code} {Rp : RT} (C : Cx Z (d + 1) jX10_canCome RX10 p R s m args meth c) : Sd Z jX10_canCome p e R s m args below meth c (MQ below (QcS Z Rp) args s 0 0 (fun a => Z.2.2.1 < a)) 0 (w_X10_canCome_0 (MS Z (d + 1)) (Gw Z 2 p e R s m args below meth c (MQ below (QcS Z Rp) args s 0 0 (fun a => Z.2.2.1 < a))) Rp) := by
  unfold w_X10_canCome_0
  refine s_aload_n (k := 0) C (by decide +kernel) ?_
  refine s_getR C w_2_113 (by decide +kernel) rfl ?_
  refine s_aload_n (k := 1) C (by decide +kernel) ?_
  refine s_getI C w_1_60 (by decide +kernel) rfl ?_
  refine s_aald C rfl (by decide +kernel) ?_
  refine s_getI C w_1_224 (by decide +kernel) rfl ?_
  refine s_if_eq (off := 25) (tgt := 37) C (by decide +kernel) (by decide) (b_X10_canCome_37 C) ?_
  refine s_aload_n (k := 0) C (by decide +kernel) ?_
  refine s_getR C w_2_117 (by decide +kernel) rfl ?_
  refine s_aload_n (k := 1) C (by decide +kernel) ?_
  refine s_getI C w_1_55 (by decide +kernel) rfl ?_
  refine s_aload_n (k := 1) C (by decide +kernel) ?_
  refine s_getI C w_1_60 (by decide +kernel) rfl ?_
  refine s_fnV C (j2 := jX1_isCut) (cl := 1) (nf := 6) rfl rfl (by decide +kernel) rfl w_4_47 w_4_48 w_4_49 w_1_3 w_4_50 (by decide +kernel) (fun _ _ _ _ _ h => f_X1_isCut h) (fun _ _ _ _ _ h => r_X1_isCut h) ?_
  refine s_if_ne (off := 7) (tgt := 37) C (by decide +kernel) (by decide) (b_X10_canCome_37 C) ?_
  refine s_iconst (n := 1) C (by decide +kernel) (by decide) ?_
  exact s_goto (off := 4) (tgt := 38) C (by decide +kernel) (by decide) (b_X10_canCome_38 C)
theorem ms_X10_canCome {Z : Zt} {d : Nat} {S : Sh} {μ : Mi} {ρ : Mr} {Rp : RT} (a0 : Nat) (a1 : Nat) (h : ∀ G : Nat → PT, w_X10_canCome_0 (MS Z (d + 1)) G Rp [.ref a0, .ref a1] [] S (0, 0) μ ρ) : MS Z (d + 2) jX10_canCome [.ref a0, .ref a1] S μ ρ Rp :=
  MS_of [.ref a0, .ref a1] (by decide +kernel) rfl rfl (Nat.le_of_ble_eq_true rfl) rfl (fun p e R s m args below meth c C => b_X10_canCome_0 C _ _ _ _ _ _ (h _ ))
def F_X10_canCome : FT := fun As S μ ρ k => match As with
  | [.ref a, .ref q] => S.2 a = (10, 6) ∧ ∃ (s f : Nat) (A : Rw), RR A a S μ ρ ∧ S.2 q = (2, 10) ∧ μ q 0 = nI f ∧ μ q 1 = nI s ∧ s < 5 ∧ f < 5 ∧ k (some (.int (b2 (canCm A f s)))) μ
  | _ => False
theorem r_X10_canCome {As S μ ρ k} (h : F_X10_canCome As S μ ρ k) : ∃ a As', As = Value.ref a :: As' ∧ S.2 a = (10, 6) := by
  unfold F_X10_canCome at h
  split at h
  · exact ⟨_, _, rfl, h.1⟩
  · exact h.elim
set_option maxHeartbeats 1000000 in
theorem f_X10_canCome {Z : Zt} {d : Nat} {As : List Value} {S : Sh} {μ : Mi} {ρ : Mr} {Rp : RT} (h : F_X10_canCome As S μ ρ (fun r μ' => Rp r S μ' ρ)) : MS Z (d + 2) jX10_canCome As S μ ρ Rp := by
  unfold F_X10_canCome at h
  split at h
  · rename_i a q
    obtain ⟨a, hNa⟩ : ∃ n : Nat, n = a := ⟨a, rfl⟩
    subst hNa
    obtain ⟨q, hNq⟩ : ∃ n : Nat, n = q := ⟨q, rfl⟩
    subst hNq
    obtain ⟨h1, s, f, A, hR, m1, g0, g1, hs, hf, h⟩ := h
    refine ms_X10_canCome _ _ (fun G => ?_)
    have hW := RR_W hR
    obtain ⟨x1, x2, x3⟩ := W_st hW hs
    have hSt := RR_st hR hs
    have e1 : μ (a + 130 + 8 * s) 1 = A (514 * s) := hSt.1.2.1
    have e5 : μ (a + 2) 5 = A 4513 ^^^ 33554431 := hR.1.2.2.1.1.2.2.2
    have cc : ((μ (a + 2) 5 >>> ((nI f * 5 + nI s) &&& 31)) &&& 1 = 1) ↔ ¬ (A 4513 >>> ((5 * nI f + nI s) &&& 31)) &&& 1 = 1 := by
      rw [ix5', ix5, e5]
      exact cut_bit (by omega)
    have u01 := hSt.2.1.1
    unfold b2 at h
    simp only [w_X10_canCome_0, w_X10_canCome_37, w_X10_canCome_38, tAload, tIload, nth, tGetI, tGetR, tConst, tLconst, tBin, tUn, tI2l, tAld, tAldR, tAlen, tIast, tBast, tZast, tAast, tIret, tZret, tVret, tAret, tIf, tIf2, tGoto, tIstore, tAstore, sset, tIinc, tDup, tDup2, tPop, tPutI, tPutZ, tPutR, tCallV, tCallS, popN, tFn, tCopy, tMax, tMin, tSw, swc, tRem, tObjI, Option.toList, List.nil_append, List.cons_append, okR, true_and, and_true, true_or, or_true, Nat.zero_le, ne_eq, not_false_eq_true, Nat.reduceEqDiff, F_X1_isCut, b2_z, h1, m1, g0, g1, hW.2.2.2.2.1, hW.2.1, nI_clamp (show s < 2 ^ 31 by omega), x3, x1, e1, inb_nI hs (show (5 : Nat) < 2 ^ 31 by decide), Decidable.not_not]
    refine ⟨by omega, fun c => ?_, fun c => ⟨fun c2 => ?_, fun c2 => ?_⟩⟩
    · rw [if_neg (fun z => by rw [z.1] at c; exact absurd c (by decide))] at h
      exact h
    · rw [if_neg (fun z => (cc.mp c2) z.2)] at h
      exact h
    · rw [if_pos ⟨u01.elim (fun z => absurd z c) id, Classical.not_not.mp (fun z => c2 (cc.mpr z))⟩] at h
      exact h
  · exact h.elim
/-- references stay but for the box of a world -/
def Orf (w : Nat) (ρ ρ' : Mr) : Prop := ∀ y : Nat, y ≠ w + 3 → ρ' y = ρ y
theorem RR_m3 {A : Rw} {w : Nat} {S : Sh} {μ : Mi} {ρ : Mr} {v : Int32} (h : RR A w S μ ρ) : RR (up A 4511 v) w S (upI μ (w + 2) 3 v) ρ := by
  refine ⟨R0_mail h.1 h.1.1 (fun i a b => up_ne (by omega)) (fun y hy => upI_ne (by omega)) ⟨?_, ?_, fun i hi => ?_⟩, Nx_mail h.2 (fun i hi => up_ne (by omega)) (fun y hy => upI_ne (by omega))⟩
  · simp (disch := omega) only [up_ne, up_at, upI_k, upI_at]
    exact ⟨h.1.2.2.1.1.1, trivial, h.1.2.2.1.1.2.2⟩
  · simp (disch := omega) only [up_ne]
    exact h.1.2.2.1.2.1
  · rw [up_ne (by omega)] at hi
    obtain ⟨n, e1, e2, -, e3⟩ := rg_ex h.1.2.2.1.2.1.1
    have hi' := hi
    rw [e1, nI_clamp e2] at hi'
    obtain ⟨j, j1, j2, -⟩ := WOK_box h.1.1 (i := i) (by omega)
    exact MsR_congr (h.1.2.2.1.2.2 i hi) (fun k hk => up_ne (by omega)) (up_ne (by omega)) (upI_ne (by omega)) (upI_ne (by omega))
theorem RR_m4 {A : Rw} {w : Nat} {S : Sh} {μ : Mi} {ρ : Mr} {v : Int32} (h : RR A w S μ ρ) : RR (up A 4512 v) w S (upI μ (w + 2) 4 v) ρ := by
  refine ⟨R0_mail h.1 h.1.1 (fun i a b => up_ne (by omega)) (fun y hy => upI_ne (by omega)) ⟨?_, ?_, fun i hi => ?_⟩, Nx_mail h.2 (fun i hi => up_ne (by omega)) (fun y hy => upI_ne (by omega))⟩
  · simp (disch := omega) only [up_ne, up_at, upI_k, upI_at]
    exact ⟨h.1.2.2.1.1.1, h.1.2.2.1.1.2.1, trivial, h.1.2.2.1.1.2.2.2⟩
  · simp (disch := omega) only [up_ne]
    exact h.1.2.2.1.2.1
  · rw [up_ne (by omega)] at hi
    obtain ⟨n, e1, e2, -, e3⟩ := rg_ex h.1.2.2.1.2.1.1
    have hi' := hi
    rw [e1, nI_clamp e2] at hi'
    obtain ⟨j, j1, j2, -⟩ := WOK_box h.1.1 (i := i) (by omega)
    exact MsR_congr (h.1.2.2.1.2.2 i hi) (fun k hk => up_ne (by omega)) (up_ne (by omega)) (upI_ne (by omega)) (upI_ne (by omega))
theorem RR_follow {A : Rw} {w s : Nat} {S : Sh} {μ : Mi} {ρ : Mr} {t : Int32} (hs : s < 5) (hR : RR A w S μ ρ) : RR (qFollow A s t) w S (cBec (upI (upI μ (w + 130 + 8 * s) 2 t) (w + 130 + 8 * s) 3 (-1)) (w + 130 + 8 * s) 0) ρ := by
  have h1 : ∀ i, (i < 514 * s ∨ 514 * s + 514 ≤ i) → qFollow A s t i = A i := fun i hi => by unfold qFollow; rw [qPlays_out (by omega), up_ne (by omega), up_ne (by omega)]
  have h2 : ∀ y, (y < w + 130 + 8 * s ∨ w + 130 + 8 * s + 8 ≤ y) → cBec (upI (upI μ (w + 130 + 8 * s) 2 t) (w + 130 + 8 * s) 3 (-1)) (w + 130 + 8 * s) 0 y = μ y := fun y hy => by rw [cBec_ne (by omega) (by omega), upI_ne (by omega), upI_ne (by omega)]
  exact ⟨R0_store hs hR.1 h1 h2 (St_follow hs (RR_st hR hs)), Nx_other hs hR.2 (by unfold qFollow; rw [qPlays_3]; decide) h1 h2⟩
def w_X10_takeIn_224 (M : CT) (G : Nat → PT) (Rp : RT) : PT := tAload 0 <| tAload 3 <| tIload 4 <| tAload 2 <| tGetI 2 10 0 <| tFn 4 F_X10_finish <| tConst 1 <| tIret Rp
def w_X10_takeIn_216 (M : CT) (G : Nat → PT) (Rp : RT) : PT := tAload 0 <| tAload 3 <| tAload 2 <| tFn 3 F_X10_hearWould <| tIstore 4 <| w_X10_takeIn_224 M G Rp
def w_X10_takeIn_207 (M : CT) (G : Nat → PT) (Rp : RT) : PT := tAload 0 <| tAload 3 <| tAload 2 <| tFn 3 F_X10_hearMay <| tGoto (w_X10_takeIn_224 M G Rp)
def w_X10_takeIn_196 (M : CT) (G : Nat → PT) (Rp : RT) : PT := tAload 0 <| tAload 3 <| tAload 2 <| tFn 3 F_X10_hearNow <| tIstore 4 <| tGoto (w_X10_takeIn_224 M G Rp)
def w_X10_takeIn_185 (M : CT) (G : Nat → PT) (Rp : RT) : PT := tAload 0 <| tAload 3 <| tAload 2 <| tFn 3 F_X10_hearInstalled <| tIstore 4 <| tGoto (w_X10_takeIn_224 M G Rp)
def w_X10_takeIn_176 (M : CT) (G : Nat → PT) (Rp : RT) : PT := tAload 0 <| tAload 3 <| tAload 2 <| tFn 3 F_X10_hearInstall <| tGoto (w_X10_takeIn_224 M G Rp)
def w_X10_takeIn_165 (M : CT) (G : Nat → PT) (Rp : RT) : PT := tAload 0 <| tAload 3 <| tAload 2 <| tFn 3 F_X10_hearTook <| tIstore 4 <| tGoto (w_X10_takeIn_224 M G Rp)
def w_X10_takeIn_156 (M : CT) (G : Nat → PT) (Rp : RT) : PT := tAload 0 <| tAload 3 <| tAload 2 <| tFn 3 F_X10_hearTake <| tGoto (w_X10_takeIn_224 M G Rp)
def w_X10_takeIn_145 (M : CT) (G : Nat → PT) (Rp : RT) : PT := tAload 0 <| tAload 3 <| tAload 2 <| tFn 3 F_X10_hearVote <| tIstore 4 <| tGoto (w_X10_takeIn_224 M G Rp)
def w_X10_takeIn_136 (M : CT) (G : Nat → PT) (Rp : RT) : PT := tAload 0 <| tAload 3 <| tAload 2 <| tFn 3 F_X10_hearAsk <| tGoto (w_X10_takeIn_224 M G Rp)
def w_X10_takeIn_83 (M : CT) (G : Nat → PT) (Rp : RT) : PT := tConst 0 <| tIstore 4 <| tAload 2 <| tGetI 2 10 2 <| tSw [(0, w_X10_takeIn_136 M G Rp), (1, w_X10_takeIn_145 M G Rp), (2, w_X10_takeIn_156 M G Rp), (3, w_X10_takeIn_165 M G Rp), (4, w_X10_takeIn_176 M G Rp), (5, w_X10_takeIn_185 M G Rp), (6, w_X10_takeIn_196 M G Rp), (7, w_X10_takeIn_207 M G Rp)] (w_X10_takeIn_216 M G Rp)
def w_X10_takeIn_32 (M : CT) (G : Nat → PT) (Rp : RT) : PT := tAload 0 <| tGetR 10 6 1 <| tDup <| tGetI 1 6 4 <| tConst 1 <| tBin (fun x y => x + y) <| tPutI 1 6 4 <| tAload 0 <| tGetR 10 6 0 <| tAload 2 <| tGetI 2 10 1 <| tAldR 37 <| tAstore 3 <| tAload 2 <| tGetI 2 10 3 <| tAload 3 <| tGetI 7 18 2 <| tIf2 (fun x y => x ≤ y) (w_X10_takeIn_83 M G Rp) <| tAload 2 <| tGetI 2 10 2 <| tConst 7 <| tIf2 (fun x y => y ≤ x) (w_X10_takeIn_83 M G Rp) <| tAload 3 <| tAload 2 <| tGetI 2 10 3 <| tFn 2 F_X7_fallBack <| w_X10_takeIn_83 M G Rp
def w_X10_takeIn_0 (M : CT) (G : Nat → PT) (Rp : RT) : PT := tAload 0 <| tGetR 10 6 1 <| tIload 1 <| tFn2 2 F_X1_takeOut <| tAstore 2 <| tAload 0 <| tAload 2 <| tFn 2 F_X10_canCome <| tIf (fun x => x ≠ 0) (w_X10_takeIn_32 M G Rp) <| tAload 0 <| tGetR 10 6 1 <| tDup <| tGetI 1 6 3 <| tConst 1 <| tBin (fun x y => x + y) <| tPutI 1 6 3 <| tConst 0 <| tIret Rp
set_option maxRecDepth 20000 in
theorem b_X10_takeIn_224 {Z : Zt} {d : Nat} {p : Program} {e : Env} {R : Room} {s : State} {m : MethodId} {args : Array Value} {below : List Frame} {meth : Method} {c : Code} {Rp : RT} (C : Cx Z (d + 4) jX10_takeIn RX10 p R s m args meth c) : Sd Z jX10_takeIn p e R s m args below meth c (MQ below (QcS Z Rp) args s 0 0 (fun a => Z.2.2.1 < a)) 224 (w_X10_takeIn_224 (MS Z (d + 4)) (Gw Z 5 p e R s m args below meth c (MQ below (QcS Z Rp) args s 0 0 (fun a => Z.2.2.1 < a))) Rp) := by
  unfold w_X10_takeIn_224
  refine s_aload_n (k := 0) C (by decide +kernel) ?_
  refine s_aload_n (k := 3) C (by decide +kernel) ?_
  refine s_iload (k := 4) C (by decide +kernel) ?_
  refine s_aload_n (k := 2) C (by decide +kernel) ?_
  refine s_getI C w_1_55 (by decide +kernel) rfl ?_
  refine s_fnV C (j2 := jX10_finish) (cl := 10) (nf := 6) rfl rfl (by decide +kernel) rfl w_3_138 w_3_140 w_p1_5 w_1_2 w_3_141 (by decide +kernel) (fun _ _ _ _ _ h => f_X10_finish h) (fun _ _ _ _ _ h => r_X10_finish h) ?_
  refine s_iconst (n := 1) C (by decide +kernel) (by decide) ?_
  exact s_iret C rfl (by decide +kernel)
set_option maxRecDepth 20000 in
theorem b_X10_takeIn_216 {Z : Zt} {d : Nat} {p : Program} {e : Env} {R : Room} {s : State} {m : MethodId} {args : Array Value} {below : List Frame} {meth : Method} {c : Code} {Rp : RT} (C : Cx Z (d + 4) jX10_takeIn RX10 p R s m args meth c) : Sd Z jX10_takeIn p e R s m args below meth c (MQ below (QcS Z Rp) args s 0 0 (fun a => Z.2.2.1 < a)) 216 (w_X10_takeIn_216 (MS Z (d + 4)) (Gw Z 5 p e R s m args below meth c (MQ below (QcS Z Rp) args s 0 0 (fun a => Z.2.2.1 < a))) Rp) := by
  unfold w_X10_takeIn_216
  refine s_aload_n (k := 0) C (by decide +kernel) ?_
  refine s_aload_n (k := 3) C (by decide +kernel) ?_
  refine s_aload_n (k := 2) C (by decide +kernel) ?_
  refine s_fnV C (j2 := jX10_hearWould) (cl := 10) (nf := 6) rfl rfl (by decide +kernel) rfl w_4_134 w_4_136 w_p2_6 w_1_2 w_4_137 (by decide +kernel) (fun _ _ _ _ _ h => f_X10_hearWould h) (fun _ _ _ _ _ h => r_X10_hearWould h) ?_
  refine s_istore (k := 4) C (by decide +kernel) ?_
  exact (b_X10_takeIn_224 C)
set_option maxRecDepth 20000 in
theorem b_X10_takeIn_207 {Z : Zt} {d : Nat} {p : Program} {e : Env} {R : Room} {s : State} {m : MethodId} {args : Array Value} {below : List Frame} {meth : Method} {c : Code} {Rp : RT} (C : Cx Z (d + 4) jX10_takeIn RX10 p R s m args meth c) : Sd Z jX10_takeIn p e R s m args below meth c (MQ below (QcS Z Rp) args s 0 0 (fun a => Z.2.2.1 < a)) 207 (w_X10_takeIn_207 (MS Z (d + 4)) (Gw Z 5 p e R s m args below meth c (MQ below (QcS Z Rp) args s 0 0 (fun a => Z.2.2.1 < a))) Rp) := by
  unfold w_X10_takeIn_207
  refine s_aload_n (k := 0) C (by decide +kernel) ?_
  refine s_aload_n (k := 3) C (by decide +kernel) ?_
  refine s_aload_n (k := 2) C (by decide +kernel) ?_
  refine s_fnV C (j2 := jX10_hearMay) (cl := 10) (nf := 6) rfl rfl (by decide +kernel) rfl w_4_130 w_4_132 w_p2_5 w_1_2 w_4_133 (by decide +kernel) (fun _ _ _ _ _ h => f_X10_hearMay h) (fun _ _ _ _ _ h => r_X10_hearMay h) ?_
  exact s_goto (off := 11) (tgt := 224) C (by decide +kernel) (by decide) (b_X10_takeIn_224 C)
set_option maxRecDepth 20000 in
theorem b_X10_takeIn_196 {Z : Zt} {d : Nat} {p : Program} {e : Env} {R : Room} {s : State} {m : MethodId} {args : Array Value} {below : List Frame} {meth : Method} {c : Code} {Rp : RT} (C : Cx Z (d + 4) jX10_takeIn RX10 p R s m args meth c) : Sd Z jX10_takeIn p e R s m args below meth c (MQ below (QcS Z Rp) args s 0 0 (fun a => Z.2.2.1 < a)) 196 (w_X10_takeIn_196 (MS Z (d + 4)) (Gw Z 5 p e R s m args below meth c (MQ below (QcS Z Rp) args s 0 0 (fun a => Z.2.2.1 < a))) Rp) := by
  unfold w_X10_takeIn_196
  refine s_aload_n (k := 0) C (by decide +kernel) ?_
  refine s_aload_n (k := 3) C (by decide +kernel) ?_
  refine s_aload_n (k := 2) C (by decide +kernel) ?_
  refine s_fnV C (j2 := jX10_hearNow) (cl := 10) (nf := 6) rfl rfl (by decide +kernel) rfl w_4_126 w_4_128 w_p2_4 w_1_2 w_4_129 (by decide +kernel) (fun _ _ _ _ _ h => f_X10_hearNow h) (fun _ _ _ _ _ h => r_X10_hearNow h) ?_
  refine s_istore (k := 4) C (by decide +kernel) ?_
  exact s_goto (off := 20) (tgt := 224) C (by decide +kernel) (by decide) (b_X10_takeIn_224 C)
set_option maxRecDepth 20000 in
theorem b_X10_takeIn_185 {Z : Zt} {d : Nat} {p : Program} {e : Env} {R : Room} {s : State} {m : MethodId} {args : Array Value} {below : List Frame} {meth : Method} {c : Code} {Rp : RT} (C : Cx Z (d + 4) jX10_takeIn RX10 p R s m args meth c) : Sd Z jX10_takeIn p e R s m args below meth c (MQ below (QcS Z Rp) args s 0 0 (fun a => Z.2.2.1 < a)) 185 (w_X10_takeIn_185 (MS Z (d + 4)) (Gw Z 5 p e R s m args below meth c (MQ below (QcS Z Rp) args s 0 0 (fun a => Z.2.2.1 < a))) Rp) := by
  unfold w_X10_takeIn_185
  refine s_aload_n (k := 0) C (by decide +kernel) ?_
  refine s_aload_n (k := 3) C (by decide +kernel) ?_
  refine s_aload_n (k := 2) C (by decide +kernel) ?_
  refine s_fnV C (j2 := jX10_hearInstalled) (cl := 10) (nf := 6) rfl rfl (by decide +kernel) rfl w_4_122 w_4_124 w_p2_3 w_1_2 w_4_125 (by decide +kernel) (fun _ _ _ _ _ h => f_X10_hearInstalled h) (fun _ _ _ _ _ h => r_X10_hearInstalled h) ?_
  refine s_istore (k := 4) C (by decide +kernel) ?_
  exact s_goto (off := 31) (tgt := 224) C (by decide +kernel) (by decide) (b_X10_takeIn_224 C)
set_option maxRecDepth 20000 in
theorem b_X10_takeIn_176 {Z : Zt} {d : Nat} {p : Program} {e : Env} {R : Room} {s : State} {m : MethodId} {args : Array Value} {below : List Frame} {meth : Method} {c : Code} {Rp : RT} (C : Cx Z (d + 4) jX10_takeIn RX10 p R s m args meth c) : Sd Z jX10_takeIn p e R s m args below meth c (MQ below (QcS Z Rp) args s 0 0 (fun a => Z.2.2.1 < a)) 176 (w_X10_takeIn_176 (MS Z (d + 4)) (Gw Z 5 p e R s m args below meth c (MQ below (QcS Z Rp) args s 0 0 (fun a => Z.2.2.1 < a))) Rp) := by
  unfold w_X10_takeIn_176
  refine s_aload_n (k := 0) C (by decide +kernel) ?_
  refine s_aload_n (k := 3) C (by decide +kernel) ?_
  refine s_aload_n (k := 2) C (by decide +kernel) ?_
  refine s_fnV C (j2 := jX10_hearInstall) (cl := 10) (nf := 6) rfl rfl (by decide +kernel) rfl w_4_114 w_4_116 w_p2_2 w_1_2 w_4_117 (by decide +kernel) (fun _ _ _ _ _ h => f_X10_hearInstall h) (fun _ _ _ _ _ h => r_X10_hearInstall h) ?_
  exact s_goto (off := 42) (tgt := 224) C (by decide +kernel) (by decide) (b_X10_takeIn_224 C)
set_option maxRecDepth 20000 in
theorem b_X10_takeIn_165 {Z : Zt} {d : Nat} {p : Program} {e : Env} {R : Room} {s : State} {m : MethodId} {args : Array Value} {below : List Frame} {meth : Method} {c : Code} {Rp : RT} (C : Cx Z (d + 4) jX10_takeIn RX10 p R s m args meth c) : Sd Z jX10_takeIn p e R s m args below meth c (MQ below (QcS Z Rp) args s 0 0 (fun a => Z.2.2.1 < a)) 165 (w_X10_takeIn_165 (MS Z (d + 4)) (Gw Z 5 p e R s m args below meth c (MQ below (QcS Z Rp) args s 0 0 (fun a => Z.2.2.1 < a))) Rp) := by
  unfold w_X10_takeIn_165
  refine s_aload_n (k := 0) C (by decide +kernel) ?_
  refine s_aload_n (k := 3) C (by decide +kernel) ?_
  refine s_aload_n (k := 2) C (by decide +kernel) ?_
  refine s_fnV C (j2 := jX10_hearTook) (cl := 10) (nf := 6) rfl rfl (by decide +kernel) rfl w_4_105 w_4_107 w_p2_1 w_1_2 w_4_108 (by decide +kernel) (fun _ _ _ _ _ h => f_X10_hearTook h) (fun _ _ _ _ _ h => r_X10_hearTook h) ?_
  refine s_istore (k := 4) C (by decide +kernel) ?_
  exact s_goto (off := 51) (tgt := 224) C (by decide +kernel) (by decide) (b_X10_takeIn_224 C)
set_option maxRecDepth 20000 in
theorem b_X10_takeIn_156 {Z : Zt} {d : Nat} {p : Program} {e : Env} {R : Room} {s : State} {m : MethodId} {args : Array Value} {below : List Frame} {meth : Method} {c : Code} {Rp : RT} (C : Cx Z (d + 4) jX10_takeIn RX10 p R s m args meth c) : Sd Z jX10_takeIn p e R s m args below meth c (MQ below (QcS Z Rp) args s 0 0 (fun a => Z.2.2.1 < a)) 156 (w_X10_takeIn_156 (MS Z (d + 4)) (Gw Z 5 p e R s m args below meth c (MQ below (QcS Z Rp) args s 0 0 (fun a => Z.2.2.1 < a))) Rp) := by
  unfold w_X10_takeIn_156
  refine s_aload_n (k := 0) C (by decide +kernel) ?_
  refine s_aload_n (k := 3) C (by decide +kernel) ?_
  refine s_aload_n (k := 2) C (by decide +kernel) ?_
  refine s_fnV C (j2 := jX10_hearTake) (cl := 10) (nf := 6) rfl rfl (by decide +kernel) rfl w_4_95 w_4_97 w_p2_0 w_1_2 w_4_98 (by decide +kernel) (fun _ _ _ _ _ h => f_X10_hearTake h) (fun _ _ _ _ _ h => r_X10_hearTake h) ?_
  exact s_goto (off := 62) (tgt := 224) C (by decide +kernel) (by decide) (b_X10_takeIn_224 C)
set_option maxRecDepth 20000 in
theorem b_X10_takeIn_145 {Z : Zt} {d : Nat} {p : Program} {e : Env} {R : Room} {s : State} {m : MethodId} {args : Array Value} {below : List Frame} {meth : Method} {c : Code} {Rp : RT} (C : Cx Z (d + 4) jX10_takeIn RX10 p R s m args meth c) : Sd Z jX10_takeIn p e R s m args below meth c (MQ below (QcS Z Rp) args s 0 0 (fun a => Z.2.2.1 < a)) 145 (w_X10_takeIn_145 (MS Z (d + 4)) (Gw Z 5 p e R s m args below meth c (MQ below (QcS Z Rp) args s 0 0 (fun a => Z.2.2.1 < a))) Rp) := by
  unfold w_X10_takeIn_145
  refine s_aload_n (k := 0) C (by decide +kernel) ?_
  refine s_aload_n (k := 3) C (by decide +kernel) ?_
  refine s_aload_n (k := 2) C (by decide +kernel) ?_
  refine s_fnV C (j2 := jX10_hearVote) (cl := 10) (nf := 6) rfl rfl (by decide +kernel) rfl w_4_91 w_4_93 w_p1_15 w_1_2 w_4_94 (by decide +kernel) (fun _ _ _ _ _ h => f_X10_hearVote h) (fun _ _ _ _ _ h => r_X10_hearVote h) ?_
  refine s_istore (k := 4) C (by decide +kernel) ?_
  exact s_goto (off := 71) (tgt := 224) C (by decide +kernel) (by decide) (b_X10_takeIn_224 C)
set_option maxRecDepth 20000 in
theorem b_X10_takeIn_136 {Z : Zt} {d : Nat} {p : Program} {e : Env} {R : Room} {s : State} {m : MethodId} {args : Array Value} {below : List Frame} {meth : Method} {c : Code} {Rp : RT} (C : Cx Z (d + 4) jX10_takeIn RX10 p R s m args meth c) : Sd Z jX10_takeIn p e R s m args below meth c (MQ below (QcS Z Rp) args s 0 0 (fun a => Z.2.2.1 < a)) 136 (w_X10_takeIn_136 (MS Z (d + 4)) (Gw Z 5 p e R s m args below meth c (MQ below (QcS Z Rp) args s 0 0 (fun a => Z.2.2.1 < a))) Rp) := by
  unfold w_X10_takeIn_136
  refine s_aload_n (k := 0) C (by decide +kernel) ?_
  refine s_aload_n (k := 3) C (by decide +kernel) ?_
  refine s_aload_n (k := 2) C (by decide +kernel) ?_
  refine s_fnV C (j2 := jX10_hearAsk) (cl := 10) (nf := 6) rfl rfl (by decide +kernel) rfl w_4_83 w_4_85 w_p1_14 w_1_2 w_4_86 (by decide +kernel) (fun _ _ _ _ _ h => f_X10_hearAsk h) (fun _ _ _ _ _ h => r_X10_hearAsk h) ?_
  exact s_goto (off := 82) (tgt := 224) C (by decide +kernel) (by decide) (b_X10_takeIn_224 C)
set_option maxRecDepth 20000 in
theorem b_X10_takeIn_83 {Z : Zt} {d : Nat} {p : Program} {e : Env} {R : Room} {s : State} {m : MethodId} {args : Array Value} {below : List Frame} {meth : Method} {c : Code} {Rp : RT} (C : Cx Z (d + 4) jX10_takeIn RX10 p R s m args meth c) : Sd Z jX10_takeIn p e R s m args below meth c (MQ below (QcS Z Rp) args s 0 0 (fun a => Z.2.2.1 < a)) 83 (w_X10_takeIn_83 (MS Z (d + 4)) (Gw Z 5 p e R s m args below meth c (MQ below (QcS Z Rp) args s 0 0 (fun a => Z.2.2.1 < a))) Rp) := by
  unfold w_X10_takeIn_83
  refine s_iconst (n := 0) C (by decide +kernel) (by decide) ?_
  refine s_istore (k := 4) C (by decide +kernel) ?_
  refine s_aload_n (k := 2) C (by decide +kernel) ?_
  refine s_getI C w_1_65 (by decide +kernel) rfl ?_
  refine s_tsw (df := 126) (lo := 0) (hi := 7) (offs := #[46, 55, 66, 75, 86, 95, 106, 117]) (len := 46) (tgt := 216) C (by decide +kernel) (by decide) (b_X10_takeIn_216 C) (fun i r h => ?_) (fun x h => tsw_out 8 x (fun q hq => ?_))
  · match i, h with
    | 0, h => cases h; dsimp only; exact ⟨by decide, by decide, 46, 136, by rfl, by decide, (b_X10_takeIn_136 C)⟩
    | 1, h => cases h; dsimp only; exact ⟨by decide, by decide, 55, 145, by rfl, by decide, (b_X10_takeIn_145 C)⟩
    | 2, h => cases h; dsimp only; exact ⟨by decide, by decide, 66, 156, by rfl, by decide, (b_X10_takeIn_156 C)⟩
    | 3, h => cases h; dsimp only; exact ⟨by decide, by decide, 75, 165, by rfl, by decide, (b_X10_takeIn_165 C)⟩
    | 4, h => cases h; dsimp only; exact ⟨by decide, by decide, 86, 176, by rfl, by decide, (b_X10_takeIn_176 C)⟩
    | 5, h => cases h; dsimp only; exact ⟨by decide, by decide, 95, 185, by rfl, by decide, (b_X10_takeIn_185 C)⟩
    | 6, h => cases h; dsimp only; exact ⟨by decide, by decide, 106, 196, by rfl, by decide, (b_X10_takeIn_196 C)⟩
    | 7, h => cases h; dsimp only; exact ⟨by decide, by decide, 117, 207, by rfl, by decide, (b_X10_takeIn_207 C)⟩
    | q + 8, h => simp at h
  · match q, hq with
    | 0, _ => exact h _ (List.mem_of_getElem? (i := 0) rfl)
    | 1, _ => exact h _ (List.mem_of_getElem? (i := 1) rfl)
    | 2, _ => exact h _ (List.mem_of_getElem? (i := 2) rfl)
    | 3, _ => exact h _ (List.mem_of_getElem? (i := 3) rfl)
    | 4, _ => exact h _ (List.mem_of_getElem? (i := 4) rfl)
    | 5, _ => exact h _ (List.mem_of_getElem? (i := 5) rfl)
    | 6, _ => exact h _ (List.mem_of_getElem? (i := 6) rfl)
    | 7, _ => exact h _ (List.mem_of_getElem? (i := 7) rfl)
    | q + 8, hq => exact absurd hq (by omega)
set_option maxRecDepth 20000 in
theorem b_X10_takeIn_32 {Z : Zt} {d : Nat} {p : Program} {e : Env} {R : Room} {s : State} {m : MethodId} {args : Array Value} {below : List Frame} {meth : Method} {c : Code} {Rp : RT} (C : Cx Z (d + 4) jX10_takeIn RX10 p R s m args meth c) : Sd Z jX10_takeIn p e R s m args below meth c (MQ below (QcS Z Rp) args s 0 0 (fun a => Z.2.2.1 < a)) 32 (w_X10_takeIn_32 (MS Z (d + 4)) (Gw Z 5 p e R s m args below meth c (MQ below (QcS Z Rp) args s 0 0 (fun a => Z.2.2.1 < a))) Rp) := by
  unfold w_X10_takeIn_32
  refine s_aload_n (k := 0) C (by decide +kernel) ?_
  refine s_getR C w_2_117 (by decide +kernel) rfl ?_
  refine s_dup C (by decide +kernel) ?_
  refine s_getI C w_1_134 (by decide +kernel) rfl ?_
  refine s_iconst (n := 1) C (by decide +kernel) (by decide) ?_
  refine s_iadd C (by decide +kernel) ?_
  refine s_putI C w_1_134 (by decide +kernel) rfl (Or.inl rfl) ?_
  refine s_aload_n (k := 0) C (by decide +kernel) ?_
  refine s_getR C w_2_113 (by decide +kernel) rfl ?_
  refine s_aload_n (k := 2) C (by decide +kernel) ?_
  refine s_getI C w_1_60 (by decide +kernel) rfl ?_
  refine s_aald C rfl (by decide +kernel) ?_
  refine s_astore_n (k := 3) C (by decide +kernel) ?_
  refine s_aload_n (k := 2) C (by decide +kernel) ?_
  refine s_getI C w_1_69 (by decide +kernel) rfl ?_
  refine s_aload_n (k := 3) C (by decide +kernel) ?_
  refine s_getI C w_1_227 (by decide +kernel) rfl ?_
  refine s_icmp_le (off := 20) (tgt := 83) C (by decide +kernel) (by decide) (b_X10_takeIn_83 C) ?_
  refine s_aload_n (k := 2) C (by decide +kernel) ?_
  refine s_getI C w_1_65 (by decide +kernel) rfl ?_
  refine s_bipush (n := 7) C (by decide +kernel) (by decide) ?_
  refine s_icmp_ge (off := 11) (tgt := 83) C (by decide +kernel) (by decide) (b_X10_takeIn_83 C) ?_
  refine s_aload_n (k := 3) C (by decide +kernel) ?_
  refine s_aload_n (k := 2) C (by decide +kernel) ?_
  refine s_getI C w_1_69 (by decide +kernel) rfl ?_
  refine s_fnV C (j2 := jX7_fallBack) (cl := 7) (nf := 18) rfl rfl (by decide +kernel) rfl w_4_79 w_4_80 w_4_81 w_1_5 w_4_82 (by decide +kernel) (fun _ _ _ _ _ h => f_X7_fallBack h) (fun _ _ _ _ _ h => r_X7_fallBack h) ?_
  exact (b_X10_takeIn_83 C)
set_option maxRecDepth 20000 in
theorem b_X10_takeIn_0 {Z : Zt} {d : Nat} {p : Program} {e : Env} {R : Room} {s : State} {m : MethodId} {args : Array Value} {below : List Frame} {meth : Method} {c : Code} {Rp : RT} (C : Cx Z (d + 4) jX10_takeIn RX10 p R s m args meth c) : Sd Z jX10_takeIn p e R s m args below meth c (MQ below (QcS Z Rp) args s 0 0 (fun a => Z.2.2.1 < a)) 0 (w_X10_takeIn_0 (MS Z (d + 4)) (Gw Z 5 p e R s m args below meth c (MQ below (QcS Z Rp) args s 0 0 (fun a => Z.2.2.1 < a))) Rp) := by
  unfold w_X10_takeIn_0
  refine s_aload_n (k := 0) C (by decide +kernel) ?_
  refine s_getR C w_2_117 (by decide +kernel) rfl ?_
  refine s_iload_n (k := 1) C (by decide +kernel) ?_
  refine s_fnV2 C (j2 := jX1_takeOut) (cl := 1) (nf := 6) rfl rfl (by decide +kernel) rfl w_4_71 w_4_72 w_4_73 w_1_3 w_4_74 (by decide +kernel) (fun _ _ _ _ _ h => f_X1_takeOut h) (fun _ _ _ _ _ h => r_X1_takeOut h) ?_
  refine s_astore_n (k := 2) C (by decide +kernel) ?_
  refine s_aload_n (k := 0) C (by decide +kernel) ?_
  refine s_aload_n (k := 2) C (by decide +kernel) ?_
  refine s_fnV C (j2 := jX10_canCome) (cl := 10) (nf := 6) rfl rfl (by decide +kernel) rfl w_4_75 w_4_76 w_4_77 w_1_2 w_4_78 (by decide +kernel) (fun _ _ _ _ _ h => f_X10_canCome h) (fun _ _ _ _ _ h => r_X10_canCome h) ?_
  refine s_if_ne (off := 18) (tgt := 32) C (by decide +kernel) (by decide) (b_X10_takeIn_32 C) ?_
  refine s_aload_n (k := 0) C (by decide +kernel) ?_
  refine s_getR C w_2_117 (by decide +kernel) rfl ?_
  refine s_dup C (by decide +kernel) ?_
  refine s_getI C w_1_131 (by decide +kernel) rfl ?_
  refine s_iconst (n := 1) C (by decide +kernel) (by decide) ?_
  refine s_iadd C (by decide +kernel) ?_
  refine s_putI C w_1_131 (by decide +kernel) rfl (Or.inl rfl) ?_
  refine s_iconst (n := 0) C (by decide +kernel) (by decide) ?_
  exact s_iret C rfl (by decide +kernel)
theorem ms_X10_takeIn {Z : Zt} {d : Nat} {S : Sh} {μ : Mi} {ρ : Mr} {Rp : RT} (a0 : Nat) (x1 : Int32) (h : ∀ G : Nat → PT, w_X10_takeIn_0 (MS Z (d + 4)) G Rp [.ref a0, .int x1, .null, .null, .null] [] S (0, 0) μ ρ) : MS Z (d + 5) jX10_takeIn [.ref a0, .int x1] S μ ρ Rp :=
  MS_of [.ref a0, .int x1, .null, .null, .null] (by decide +kernel) rfl rfl (Nat.le_of_ble_eq_true rfl) rfl (fun p e R s m args below meth c C => b_X10_takeIn_0 C _ _ _ _ _ _ (h _ ))
def F_X10_takeIn : FT2 := fun As S μ ρ k => match As with
  | [.ref a, .int n] => S.2 a = (10, 6) ∧ ∃ (i : Nat) (A : Rw), RR A a S μ ρ ∧ n = nI i ∧ i < (A 4510).toNatClampNeg ∧ Gd A ∧ ∀ (μ' : Mi) (ρ' : Mr), RR (qComes A i) a S μ' ρ' → Ot a μ μ' → Orf a ρ ρ' → k (some (.int (vComes A i))) μ' ρ'
  | _ => False
theorem r_X10_takeIn {As S μ ρ k} (h : F_X10_takeIn As S μ ρ k) : ∃ a As', As = Value.ref a :: As' ∧ S.2 a = (10, 6) := by
  unfold F_X10_takeIn at h
  split at h
  · exact ⟨_, _, rfl, h.1⟩
  · exact h.elim
set_option maxHeartbeats 1000000 in
theorem f_X10_takeIn {Z : Zt} {d : Nat} {As : List Value} {S : Sh} {μ : Mi} {ρ : Mr} {Rp : RT} (h : F_X10_takeIn As S μ ρ (fun r μ' ρ' => Rp r S μ' ρ')) : MS Z (d + 5) jX10_takeIn As S μ ρ Rp := by
  unfold F_X10_takeIn at h
  split at h
  · rename_i a n
    obtain ⟨a, hNa⟩ : ∃ n : Nat, n = a := ⟨a, rfl⟩
    subst hNa
    obtain ⟨h1, i, A, hR, rfl, hi, hG, h⟩ := h
    refine ms_X10_takeIn _ _ (fun G => ?_)
    have hW := RR_W hR
    have hM := hR.1.2.2.1
    obtain ⟨wn, w1, w2, -, w3⟩ := rg_ex hM.2.1.1
    have hi' := hi
    rw [w1, nI_clamp w2] at hi'
    obtain ⟨v, rfl⟩ : ∃ v, wn = v + 1 := ⟨wn - 1, by omega⟩
    have hcm := good_cm (Gd_good hG)
    have hext := Gd_ext hG
    have hm := hcm.2 i hi
    obtain ⟨s, es, es0, -, es1⟩ := rg_ex hm.2.1
    obtain ⟨f, ef, ef0, -, ef1⟩ := rg_ex hm.1
    have hs : s < 5 := by omega
    have hf : f < 5 := by omega
    obtain ⟨x1, x2, x3⟩ := W_st hW hs
    obtain ⟨ji, j1, j2, j3, j4, j5⟩ := WOK_box hW (i := i) (by omega)
    have hst2 := cm_A2 hcm hi hs
    have hvc : vComes A i = if canCm (qOut A i) f s then 1 else 0 := by
      unfold vComes
      simp only [es, ef, nI_clamp es0, nI_clamp ef0]
    have hqc : qComes A i = if ¬ canCm (qOut A i) f s then up (qOut A i) 4511 (qOut A i 4511 + 1) else
        qHeard (if (up (qOut A i) 4512 (qOut A i 4512 + 1)) (514 * s + 1) < rowM A i 2 ∧ rowM A i 3 < 7 then qFollow (up (qOut A i) 4512 (qOut A i 4512 + 1)) s (rowM A i 2) else up (qOut A i) 4512 (qOut A i 4512 + 1)) (rowM A i) s f := by
      unfold qComes
      simp only [es, ef, nI_clamp es0, nI_clamp ef0]
    rw [hvc] at h
    have hsf : ¬ s = f := by
      have := (hM.2.2 i hi).2.1.2.2
      rw [es, ef, nI_eq ef0 es0] at this
      exact fun z => this z.symm
    have e3 : rowM A i 3 = A (2570 + 21 * i + 3) := rfl
    have x14 : qOut A i 4514 = A 4514 := qOut_hi w1 (by omega) (by omega) (by omega)
    simp only [w_X10_takeIn_0, tAload, tIload, nth, tGetI, tGetR, tConst, tLconst, tBin, tUn, tI2l, tAld, tAldR, tAlen, tIast, tBast, tZast, tAast, tIret, tZret, tVret, tAret, tIf, tIf2, tGoto, tIstore, tAstore, sset, tIinc, tDup, tDup2, tPop, tPutI, tPutZ, tPutR, tCallV, tCallS, popN, tFn, tCopy, tMax, tMin, tSw, swc, tRem, tObjI, Option.toList, List.nil_append, List.cons_append, okR, true_and, and_true, true_or, or_true, Nat.zero_le, ne_eq, not_false_eq_true, Nat.reduceEqDiff, tFn2, F_X1_takeOut, F_X10_canCome, b2_z, h1, hW.2.2.2.2.1, hW.2.1, Decidable.not_not]
    refine ⟨a, i, v, A, rfl, hR, rfl, by rw [w1, nI_clamp w2], by omega, fun μ1 ρ1 r1 b1 m1 k1 k2 => ?_⟩
    have hW1 := RR_W r1
    have ho1 : Ot a μ μ1 := fun y hy => k1 y (by omega)
    have hr1 : Orf a ρ ρ1 := k2
    generalize hq : ρ (a + 3) i = q at *
    have g1 : μ1 q 1 = nI s := m1.1.2.1.trans es
    have g0 : μ1 q 0 = nI f := m1.1.1.trans ef
    refine ⟨s, f, _, r1, j3, g0, g1, hs, hf, fun c => ?_, fun c => ?_⟩
    · -- it comes
      rw [if_pos c] at h
      rw [if_neg (not_not_intro c)] at hqc
      have x3' : ρ1 (a + 1) s = a + 130 + 8 * s := (W_st hW1 hs).2.2
      have r2 := RR_m4 (v := qOut A i 4512 + 1) r1
      have e4 : μ1 (a + 2) 4 = qOut A i 4512 := r1.1.2.2.1.1.2.2.1
      have lo2 : ∀ k, k < 2570 → up (qOut A i) 4512 (qOut A i 4512 + 1) k = A k := fun k hk => by rw [up_ne (by omega), qOut_lo hk]
      have x14' : up (qOut A i) 4512 (qOut A i 4512 + 1) 4514 = A 4514 := by rw [up_ne (by omega), x14]
      have hagA := (hext.1 s hs).1
      have hag2 : agR (up (qOut A i) 4512 (qOut A i 4512 + 1)) s := by unfold agR; rw [lo2 _ (by omega), lo2 _ (by omega), lo2 _ (by omega)]; exact hagA
      have hlead2 := (hext.1 s hs).2.1
      have hnl2 : rowM A i 3 = 2 → ¬ (up (qOut A i) 4512 (qOut A i 4512 + 1) (514 * s + 3) = 2 ∧ up (qOut A i) 4512 (qOut A i 4512 + 1) (514 * s + 1) = rowM A i 2) := by
        intro z
        rw [lo2 _ (by omega), lo2 _ (by omega)]
        exact hext.2.1 i hi z s hs es
      rw [← lo2 (514 * s + 3) (by omega), ← lo2 (514 * s + 1) (by omega)] at hlead2
      have hms2 : MsR (rowM A i) (A 4514) q (upI μ1 (a + 2) 4 (qOut A i 4512 + 1)) := MsR_congr m1 (fun _ _ => rfl) rfl (upI_ne (by omega)) (upI_ne (by omega))
      have hq60 : q = ρ1 (a + 3) 60 := b1.symm
      have ho2 : Ot a μ (upI μ1 (a + 2) 4 (qOut A i 4512 + 1)) := fun y hy => by rw [upI_ne (by omega)]; exact ho1 y hy
      generalize hA2 : up (qOut A i) 4512 (qOut A i 4512 + 1) = A2 at *
      generalize hg : rowM A i = g at *
      have f224 : ∀ (A' : Rw) (ν : Mi) (td : Int32), RR A' a S ν ρ1 → Ot a μ ν → (td = 0 ∨ ν q 0 = nI f) → finQ A' s f (nI f) td (qComes A i) → w_X10_takeIn_224 (MS Z (d + 4)) G Rp [.ref a, .int (nI i), .ref q, .ref (a + 130 + 8 * s), .int td] [] S (0, 0) ν ρ1 := by
        intro A' ν td r o hz hQ
        simp only [w_X10_takeIn_224, tAload, tIload, nth, tGetI, tGetR, tConst, tLconst, tBin, tUn, tI2l, tAld, tAldR, tAlen, tIast, tBast, tZast, tAast, tIret, tZret, tVret, tAret, tIf, tIf2, tGoto, tIstore, tAstore, sset, tIinc, tDup, tDup2, tPop, tPutI, tPutZ, tPutR, tCallV, tCallS, popN, tFn, tCopy, tMax, tMin, tSw, swc, tRem, tObjI, Option.toList, List.nil_append, List.cons_append, okR, true_and, and_true, true_or, or_true, Nat.zero_le, ne_eq, not_false_eq_true, Nat.reduceEqDiff, tFn2, F_X10_finish, h1, j3]
        refine ⟨s, f, A', qComes A i, hs, rfl, r, ?_, fun μ' r' o' => h μ' ρ1 r' (ot_trans o o') hr1⟩
        rcases hz with z | z
        · subst z
          rcases hQ with z | z | z | z | z
          · exact Or.inl z
          · exact absurd z.1 (by decide)
          · exact absurd z.1 (by decide)
          · exact absurd z.1 (by decide)
          · exact absurd z.1 (by decide)
        · rw [z]; exact hQ
      have f83 : ∀ (A3 : Rw) (ν : Mi), RR A3 a S ν ρ1 → Ot a μ ν → Mg A3 g a q ν ρ1 s f → hK A3 s → (g 3 = 0 ∨ g 3 = 2 ∨ g 3 = 4 → ¬ A3 (514 * s + 1) < g 2) → (g 3 = 2 → ¬ (A3 (514 * s + 3) = 2 ∧ A3 (514 * s + 1) = g 2)) → qComes A i = qHeard A3 g s f → w_X10_takeIn_83 (MS Z (d + 4)) G Rp [.ref a, .int (nI i), .ref q, .ref (a + 130 + 8 * s), .null] [] S (0, 0) ν ρ1 := by
        intro A3 ν r o hMg hk hle hnl hB
        have z0 : ∀ (A' : Rw) (ν : Mi), RR A' a S ν ρ1 → Ot a ν ν → A' = qComes A i → finQ A' s f (nI f) 0 (qComes A i) := fun A' ν _ _ e => Or.inl ⟨rfl, e.symm⟩
        have ek : ν q 2 = g 3 := hMg.2.1.1.2.2.1
        have e0 : ν q 0 = nI f := hMg.2.1.1.1.trans hMg.2.2.1
        have gk := hm.2.2.2.1
        unfold qHeard at hB
        simp only [w_X10_takeIn_83, w_X10_takeIn_136, w_X10_takeIn_145, w_X10_takeIn_156, w_X10_takeIn_165, w_X10_takeIn_176, w_X10_takeIn_185, w_X10_takeIn_196, w_X10_takeIn_207, w_X10_takeIn_216, tAload, tIload, nth, tGetI, tGetR, tConst, tLconst, tBin, tUn, tI2l, tAld, tAldR, tAlen, tIast, tBast, tZast, tAast, tIret, tZret, tVret, tAret, tIf, tIf2, tGoto, tIstore, tAstore, sset, tIinc, tDup, tDup2, tPop, tPutI, tPutZ, tPutR, tCallV, tCallS, popN, tFn, tCopy, tMax, tMin, tSw, swc, tRem, tObjI, Option.toList, List.nil_append, List.cons_append, okR, true_and, and_true, true_or, or_true, Nat.zero_le, ne_eq, not_false_eq_true, Nat.reduceEqDiff, tFn2, F_X10_hearAsk, F_X10_hearVote, F_X10_hearTake, F_X10_hearTook, F_X10_hearInstall, F_X10_hearInstalled, F_X10_hearNow, F_X10_hearMay, F_X10_hearWould, h1, j3, ek]
        have nx : ∀ (ν' : Mi) (A' : Rw) (td : Int32) (B : Rw), RR A' a S ν' ρ1 → Ot a ν ν' → (td = 0 ∨ ν' q = ν q) → finQ A' s f (nI f) td B → B = qComes A i → w_X10_takeIn_224 (MS Z (d + 4)) G Rp [.ref a, .int (nI i), .ref q, .ref (a + 130 + 8 * s), .int td] [] S (0, 0) ν' ρ1 := by
          intro ν' A' td B r' o' hz hQ hBB
          rw [hBB] at hQ
          exact f224 A' ν' td r' (ot_trans o o') (hz.elim Or.inl (fun z => Or.inr (by rw [z]; exact e0))) hQ
        have n0 : ∀ (ν' : Mi) (B : Rw), RR B a S ν' ρ1 → Ot a ν ν' → B = qComes A i → w_X10_takeIn_224 (MS Z (d + 4)) G Rp [.ref a, .int (nI i), .ref q, .ref (a + 130 + 8 * s), .int 0] [] S (0, 0) ν' ρ1 := fun ν' B r' o' hBB => nx ν' B 0 B r' o' (Or.inl rfl) (Or.inl ⟨rfl, rfl⟩) hBB
        refine ⟨fun c0 => ?_, fun c0 => ⟨fun c1 => ?_, fun c1 => ⟨fun c2 => ?_, fun c2 => ⟨fun c3 => ?_, fun c3 => ⟨fun c4 => ?_, fun c4 => ⟨fun c5 => ?_, fun c5 => ⟨fun c6 => ?_, fun c6 => ⟨fun c7 => ?_, fun c7 => ?_⟩⟩⟩⟩⟩⟩⟩⟩
        · rw [if_pos c0] at hB
          exact ⟨s, f, A3, g, hs, rfl, r, hMg, hle (Or.inl c0), fun μ' r' o' => n0 μ' _ r' o' hB.symm⟩
        · rw [if_neg c0, if_pos c1] at hB
          exact ⟨s, f, A3, g, hs, rfl, r, hMg, hk, fun μ' A' td r' o' e' q' => nx μ' A' td _ r' o' e' q' hB.symm⟩
        · rw [if_neg c0, if_neg c1, if_pos c2] at hB
          exact ⟨s, f, A3, g, hs, rfl, r, hMg, hk, hle (Or.inr (Or.inl c2)), c2, hm.2.2.2.2.1 c2, hnl c2, fun μ' r' o' => n0 μ' _ r' o' hB.symm⟩
        · rw [if_neg c0, if_neg c1, if_neg c2, if_pos c3] at hB
          exact ⟨s, f, A3, g, hs, rfl, r, hMg, hk, hm.2.2.2.2.2.1 c3, fun μ' A' td r' o' e' q' => nx μ' A' td _ r' o' e' q' hB.symm⟩
        · rw [if_neg c0, if_neg c1, if_neg c2, if_neg c3, if_pos c4] at hB
          have he := hext.2.2.1 i hi (by rw [← e3]; exact c4)
          exact ⟨s, f, A3, g, hs, rfl, r, hMg, hk, hle (Or.inr (Or.inr c4)), c4, by rw [← hg]; exact he.1, by rw [← hg]; exact he.2, fun μ' r' o' => n0 μ' _ r' o' hB.symm⟩
        · have n6 : ¬ g 3 = 6 := fun z => absurd (c5.symm.trans z) (by decide)
          have n7 : ¬ g 3 = 7 := fun z => absurd (c5.symm.trans z) (by decide)
          have n8 : ¬ g 3 = 8 := fun z => absurd (c5.symm.trans z) (by decide)
          rw [if_neg c0, if_neg c1, if_neg c2, if_neg c3, if_neg c4, if_neg n6, if_neg n7, if_neg n8] at hB
          exact ⟨s, f, A3, g, hs, rfl, r, hMg, hk, hm.2.2.2.2.2.2 c5, fun μ' A' td r' o' e' q' => nx μ' A' td _ r' o' e' q' hB.symm⟩
        · rw [if_neg c0, if_neg c1, if_neg c2, if_neg c3, if_neg c4, if_pos c6] at hB
          exact ⟨s, f, A3, g, hs, rfl, r, hMg, hk, fun μ' A' td r' o' e' q' => nx μ' A' td _ r' o' e' q' hB.symm⟩
        · rw [if_neg c0, if_neg c1, if_neg c2, if_neg c3, if_neg c4, if_neg c6, if_pos c7] at hB
          exact ⟨s, f, A3, g, hs, rfl, r, hMg, hk, fun μ' r' o' => n0 μ' _ r' o' hB.symm⟩
        · have c8 : g 3 = 8 := by
            obtain ⟨n, n1, n2, -, n3⟩ := rg_ex gk
            rw [n1] at c0 c1 c2 c3 c4 c5 c6 c7 ⊢
            rcases (by omega : n = 0 ∨ n = 1 ∨ n = 2 ∨ n = 3 ∨ n = 4 ∨ n = 5 ∨ n = 6 ∨ n = 7 ∨ n = 8) with z | z | z | z | z | z | z | z | z <;> subst z
            · exact absurd rfl c0
            · exact absurd rfl c1
            · exact absurd rfl c2
            · exact absurd rfl c3
            · exact absurd rfl c4
            · exact absurd rfl c5
            · exact absurd rfl c6
            · exact absurd rfl c7
            · rfl
          rw [if_neg c0, if_neg c1, if_neg c2, if_neg c3, if_neg c4, if_neg c6, if_neg c7, if_pos c8] at hB
          have he := hext.2.2.2 i hi (by rw [← e3]; exact c8)
          exact ⟨s, f, A3, g, hs, rfl, r, hMg, hk, by rw [← hg]; exact he, hm.2.2.1, fun μ' A' td r' o' e' q' => nx μ' A' td _ r' o' e' q' hB.symm⟩
      have hM2 : ∀ (A3 : Rw) (ν : Mi), A3 4514 = A 4514 → ν q = upI μ1 (a + 2) 4 (qOut A i 4512 + 1) q → ν (q + 1) = upI μ1 (a + 2) 4 (qOut A i 4512 + 1) (q + 1) → Mg A3 g a q ν ρ1 s f := fun A3 ν z1 z2 z3 => ⟨hq60, MsR_congr hms2 (fun _ _ => rfl) z1 z2 z3, ef, hf, es, hsf⟩
      have hSt2 := RR_st r2 hs
      have t1 : upI μ1 (a + 2) 4 (qOut A i 4512 + 1) (a + 130 + 8 * s) 2 = A2 (514 * s + 1) := hSt2.1.2.2.1
      have k3 : upI μ1 (a + 2) 4 (qOut A i 4512 + 1) q 3 = g 2 := hms2.1.2.2.2.1
      have k2' : upI μ1 (a + 2) 4 (qOut A i 4512 + 1) q 2 = g 3 := hms2.1.2.2.1
      have k1' : upI μ1 (a + 2) 4 (qOut A i 4512 + 1) q 1 = nI s := hms2.1.2.1.trans es
      have hr' := hW1.2.2.2.2.1
      simp only [w_X10_takeIn_32, tAload, tIload, nth, tGetI, tGetR, tConst, tLconst, tBin, tUn, tI2l, tAld, tAldR, tAlen, tIast, tBast, tZast, tAast, tIret, tZret, tVret, tAret, tIf, tIf2, tGoto, tIstore, tAstore, sset, tIinc, tDup, tDup2, tPop, tPutI, tPutZ, tPutR, tCallV, tCallS, popN, tFn, tCopy, tMax, tMin, tSw, swc, tRem, tObjI, Option.toList, List.nil_append, List.cons_append, okR, true_and, and_true, true_or, or_true, Nat.zero_le, ne_eq, not_false_eq_true, Nat.reduceEqDiff, tFn2, F_X7_fallBack, h1, hr', hW1.2.1, x1, j3, e4, k1', k2', k3, t1, nI_clamp es0, x3', inb_nI hs (show (5 : Nat) < 2 ^ 31 by decide), (W_st hW1 hs).2.1]
      refine ⟨by omega, fun c1 => ?_, fun c1 => ⟨fun c2 => ?_, fun c2 => ?_⟩⟩
      · rw [if_neg (fun z => absurd z.1 (Int32.not_lt.mpr c1))] at hqc
        exact f83 A2 _ r2 ho2 (hM2 A2 _ x14' rfl rfl) ⟨hst2, hag2, hlead2⟩ (fun _ => Int32.not_lt.mpr c1) hnl2 hqc
      · rw [if_neg (fun z => absurd z.2 (Int32.not_lt.mpr c2))] at hqc
        refine f83 A2 _ r2 ho2 (hM2 A2 _ x14' rfl rfl) ⟨hst2, hag2, hlead2⟩ (fun z => ?_) hnl2 hqc
        exact absurd c2 (by rcases z with z | z | z <;> rw [z] <;> decide)
      · rw [if_pos ⟨Int32.not_le.mp c1, Int32.not_le.mp c2⟩] at hqc
        have fo : ∀ k, (k < 514 * s ∨ 514 * s + 514 ≤ k) ∨ k = 514 * s + 4 ∨ k = 514 * s + 5 ∨ k = 514 * s + 7 → qFollow A2 s (g 2) k = A2 k := fun k hk => by unfold qFollow; rw [qPlays_out (by omega), up_ne (by omega), up_ne (by omega)]
        have ft : qFollow A2 s (g 2) (514 * s + 1) = g 2 := by unfold qFollow; rw [qPlays_out (by omega), up_ne (by omega), up_at]
        have fr : qFollow A2 s (g 2) (514 * s + 3) = 0 := by unfold qFollow; rw [qPlays_3]
        refine f83 _ _ (RR_follow hs r2) (fun y hy => ?_) (hM2 _ _ ?_ ?_ ?_) ⟨stOK_follow hs hst2 hm.2.2.1, agR_of hag2 (fo _ (by omega)) (fo _ (by omega)) (fo _ (by omega)), fun z => ?_⟩ (fun _ => ?_) (fun _ z => ?_) hqc
        · rw [cBec_ne (by omega) (by omega), upI_ne (by omega), upI_ne (by omega)]; exact ho2 y hy
        · rw [fo _ (by omega)]; exact x14'
        · rw [cBec_ne (by omega) (by omega), upI_ne (by omega), upI_ne (by omega)]
        · rw [cBec_ne (by omega) (by omega), upI_ne (by omega), upI_ne (by omega)]
        · rw [fr] at z; exact absurd z (by decide)
        · rw [ft]; exact Int32.lt_irrefl
        · rw [fr] at z; exact absurd z.1 (by decide)
    · rw [if_neg c] at h
      rw [if_pos c] at hqc
      have e3' : μ1 (a + 2) 3 = qOut A i 4511 := r1.1.2.2.1.1.2.1
      have hr' := hW1.2.2.2.2.1
      simp only [hr', hW1.2.1, e3']
      refine ⟨by omega, trivial, trivial, ?_⟩
      refine h _ _ (by rw [hqc]; exact RR_m3 r1) (fun y hy => by rw [upI_ne (by omega)]; exact ho1 y hy) hr1
  · exact h.elim
