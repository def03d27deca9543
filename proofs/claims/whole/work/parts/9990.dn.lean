/-! ===== the class: facts told ===== -/
def w_X0_part_52 (M : CT) (G : Nat → PT) (Rp : RT) : PT := tConst (-1000) <| tIret Rp
def w_X0_part_47 (M : CT) (G : Nat → PT) (Rp : RT) : PT := tIload 0 <| tFn 1 F_X0_numberOf <| tIret Rp
def w_X0_part_42 (M : CT) (G : Nat → PT) (Rp : RT) : PT := tIload 0 <| tFn 1 F_X0_cellOf <| tIret Rp
def w_X0_part_37 (M : CT) (G : Nat → PT) (Rp : RT) : PT := tIload 0 <| tFn 1 F_X0_kindOf <| tIret Rp
def w_X0_part_32 (M : CT) (G : Nat → PT) (Rp : RT) : PT := tIload 0 <| tFn 1 F_X0_termOf <| tIret Rp
def w_X0_part_0 (M : CT) (G : Nat → PT) (Rp : RT) : PT := tIload 1 <| tSw [(0, w_X0_part_32 M G Rp), (1, w_X0_part_37 M G Rp), (2, w_X0_part_42 M G Rp), (3, w_X0_part_47 M G Rp)] (w_X0_part_52 M G Rp)
set_option maxRecDepth 20000 in
theorem b_X0_part_52 {Z : Zt} {d : Nat} {p : Program} {e : Env} {R : Room} {s : State} {m : MethodId} {args : Array Value} {below : List Frame} {meth : Method} {c : Code} {Rp : RT} (C : Cx Z (d + 1) jX0_part RX0 p R s m args meth c) : Sd Z jX0_part p e R s m args below meth c (MQ below (QcS Z Rp) args s 0 0 (fun a => Z.2.2.1 < a)) 52 (w_X0_part_52 (MS Z (d + 1)) (Gw Z 2 p e R s m args below meth c (MQ below (QcS Z Rp) args s 0 0 (fun a => Z.2.2.1 < a))) Rp) := by
  unfold w_X0_part_52
  refine s_sipush (n := (-1000)) C (by decide +kernel) (by decide) ?_
  exact s_iret C rfl (by decide +kernel)
set_option maxRecDepth 20000 in
theorem b_X0_part_47 {Z : Zt} {d : Nat} {p : Program} {e : Env} {R : Room} {s : State} {m : MethodId} {args : Array Value} {below : List Frame} {meth : Method} {c : Code} {Rp : RT} (C : Cx Z (d + 1) jX0_part RX0 p R s m args meth c) : Sd Z jX0_part p e R s m args below meth c (MQ below (QcS Z Rp) args s 0 0 (fun a => Z.2.2.1 < a)) 47 (w_X0_part_47 (MS Z (d + 1)) (Gw Z 2 p e R s m args below meth c (MQ below (QcS Z Rp) args s 0 0 (fun a => Z.2.2.1 < a))) Rp) := by
  unfold w_X0_part_47
  refine s_iload_n (k := 0) C (by decide +kernel) ?_
  refine s_fnS C (j2 := jX0_numberOf) (by decide +kernel) rfl w_5_117 w_2_106 w_1_9 w_2_107 (by decide +kernel) (fun _ _ _ _ _ h => f_X0_numberOf h) ?_
  exact s_iret C rfl (by decide +kernel)
set_option maxRecDepth 20000 in
theorem b_X0_part_42 {Z : Zt} {d : Nat} {p : Program} {e : Env} {R : Room} {s : State} {m : MethodId} {args : Array Value} {below : List Frame} {meth : Method} {c : Code} {Rp : RT} (C : Cx Z (d + 1) jX0_part RX0 p R s m args meth c) : Sd Z jX0_part p e R s m args below meth c (MQ below (QcS Z Rp) args s 0 0 (fun a => Z.2.2.1 < a)) 42 (w_X0_part_42 (MS Z (d + 1)) (Gw Z 2 p e R s m args below meth c (MQ below (QcS Z Rp) args s 0 0 (fun a => Z.2.2.1 < a))) Rp) := by
  unfold w_X0_part_42
  refine s_iload_n (k := 0) C (by decide +kernel) ?_
  refine s_fnS C (j2 := jX0_cellOf) (by decide +kernel) rfl w_5_116 w_2_103 w_1_9 w_2_104 (by decide +kernel) (fun _ _ _ _ _ h => f_X0_cellOf h) ?_
  exact s_iret C rfl (by decide +kernel)
set_option maxRecDepth 20000 in
theorem b_X0_part_37 {Z : Zt} {d : Nat} {p : Program} {e : Env} {R : Room} {s : State} {m : MethodId} {args : Array Value} {below : List Frame} {meth : Method} {c : Code} {Rp : RT} (C : Cx Z (d + 1) jX0_part RX0 p R s m args meth c) : Sd Z jX0_part p e R s m args below meth c (MQ below (QcS Z Rp) args s 0 0 (fun a => Z.2.2.1 < a)) 37 (w_X0_part_37 (MS Z (d + 1)) (Gw Z 2 p e R s m args below meth c (MQ below (QcS Z Rp) args s 0 0 (fun a => Z.2.2.1 < a))) Rp) := by
  unfold w_X0_part_37
  refine s_iload_n (k := 0) C (by decide +kernel) ?_
  refine s_fnS C (j2 := jX0_kindOf) (by decide +kernel) rfl w_5_115 w_3_183 w_1_9 w_3_184 (by decide +kernel) (fun _ _ _ _ _ h => f_X0_kindOf h) ?_
  exact s_iret C rfl (by decide +kernel)
set_option maxRecDepth 20000 in
theorem b_X0_part_32 {Z : Zt} {d : Nat} {p : Program} {e : Env} {R : Room} {s : State} {m : MethodId} {args : Array Value} {below : List Frame} {meth : Method} {c : Code} {Rp : RT} (C : Cx Z (d + 1) jX0_part RX0 p R s m args meth c) : Sd Z jX0_part p e R s m args below meth c (MQ below (QcS Z Rp) args s 0 0 (fun a => Z.2.2.1 < a)) 32 (w_X0_part_32 (MS Z (d + 1)) (Gw Z 2 p e R s m args below meth c (MQ below (QcS Z Rp) args s 0 0 (fun a => Z.2.2.1 < a))) Rp) := by
  unfold w_X0_part_32
  refine s_iload_n (k := 0) C (by decide +kernel) ?_
  refine s_fnS C (j2 := jX0_termOf) (by decide +kernel) rfl w_5_114 w_3_175 w_1_9 w_3_176 (by decide +kernel) (fun _ _ _ _ _ h => f_X0_termOf h) ?_
  exact s_iret C rfl (by decide +kernel)
set_option maxRecDepth 20000 in
theorem b_X0_part_0 {Z : Zt} {d : Nat} {p : Program} {e : Env} {R : Room} {s : State} {m : MethodId} {args : Array Value} {below : List Frame} {meth : Method} {c : Code} {Rp : RT} (C : Cx Z (d + 1) jX0_part RX0 p R s m args meth c) : Sd Z jX0_part p e R s m args below meth c (MQ below (QcS Z Rp) args s 0 0 (fun a => Z.2.2.1 < a)) 0 (w_X0_part_0 (MS Z (d + 1)) (Gw Z 2 p e R s m args below meth c (MQ below (QcS Z Rp) args s 0 0 (fun a => Z.2.2.1 < a))) Rp) := by
  unfold w_X0_part_0
  refine s_iload_n (k := 1) C (by decide +kernel) ?_
  refine s_tsw (df := 51) (lo := 0) (hi := 3) (offs := #[31, 36, 41, 46]) (len := 31) (tgt := 52) C (by decide +kernel) (by decide) (b_X0_part_52 C) (fun i r h => ?_) (fun x h => tsw_out 4 x (fun q hq => ?_))
  · match i, h with
    | 0, h => cases h; dsimp only; exact ⟨by decide, by decide, 31, 32, by rfl, by decide, (b_X0_part_32 C)⟩
    | 1, h => cases h; dsimp only; exact ⟨by decide, by decide, 36, 37, by rfl, by decide, (b_X0_part_37 C)⟩
    | 2, h => cases h; dsimp only; exact ⟨by decide, by decide, 41, 42, by rfl, by decide, (b_X0_part_42 C)⟩
    | 3, h => cases h; dsimp only; exact ⟨by decide, by decide, 46, 47, by rfl, by decide, (b_X0_part_47 C)⟩
    | q + 4, h => simp at h
  · match q, hq with
    | 0, _ => exact h _ (List.mem_of_getElem? (i := 0) rfl)
    | 1, _ => exact h _ (List.mem_of_getElem? (i := 1) rfl)
    | 2, _ => exact h _ (List.mem_of_getElem? (i := 2) rfl)
    | 3, _ => exact h _ (List.mem_of_getElem? (i := 3) rfl)
    | q + 4, hq => exact absurd hq (by omega)
theorem ms_X0_part {Z : Zt} {d : Nat} {S : Sh} {μ : Mi} {ρ : Mr} {Rp : RT} (x1 : Int32) (x2 : Int32) (h : ∀ G : Nat → PT, w_X0_part_0 (MS Z (d + 1)) G Rp [.int x1, .int x2] [] S (0, 0) μ ρ) : MS Z (d + 2) jX0_part [.int x1, .int x2] S μ ρ Rp :=
  MS_of [.int x1, .int x2] (by decide +kernel) rfl rfl (Nat.le_of_ble_eq_true rfl) rfl (fun p e R s m args below meth c C => b_X0_part_0 C _ _ _ _ _ _ (h _ ))
def F_X0_part : FT := fun As S μ ρ k => match As with
  | [.int e, .int w] => k (some (.int (if w = 0 then eTm e else if w = 1 then eKd e else if w = 2 then eX e else if w = 3 then eY e else -1000))) μ
  | _ => False
set_option maxHeartbeats 1000000 in
theorem f_X0_part {Z : Zt} {d : Nat} {As : List Value} {S : Sh} {μ : Mi} {ρ : Mr} {Rp : RT} (h : F_X0_part As S μ ρ (fun r μ' => Rp r S μ' ρ)) : MS Z (d + 2) jX0_part As S μ ρ Rp := by
  unfold F_X0_part at h
  split at h
  · rename_i e w
    refine ms_X0_part _ _ (fun G => ?_)
    simp only [w_X0_part_0, w_X0_part_32, w_X0_part_37, w_X0_part_42, w_X0_part_47, w_X0_part_52, tAload, tIload, nth, tGetI, tGetR, tConst, tLconst, tBin, tUn, tI2l, tAld, tAldR, tAlen, tIast, tBast, tZast, tAast, tIret, tZret, tVret, tAret, tIf, tIf2, tGoto, tIstore, tAstore, sset, tIinc, tDup, tDup2, tPop, tPutI, tPutZ, tPutR, tCallV, tCallS, popN, tFn, tCopy, tMax, tMin, tSw, swc, tRem, tObjI, Option.toList, List.nil_append, List.cons_append, okR, true_and, and_true, true_or, or_true, Nat.zero_le, ne_eq, not_false_eq_true, Nat.reduceEqDiff, F_X0_termOf, F_X0_kindOf, F_X0_cellOf, F_X0_numberOf]
    refine ⟨fun c0 => ?_, fun c0 => ⟨fun c1 => ?_, fun c1 => ⟨fun c2 => ?_, fun c2 => ⟨fun c3 => ?_, fun c3 => ?_⟩⟩⟩⟩
    · rw [if_pos c0] at h; exact h
    · rw [if_neg c0, if_pos c1] at h; exact h
    · rw [if_neg c0, if_neg c1, if_pos c2] at h; exact h
    · rw [if_neg c0, if_neg c1, if_neg c2, if_pos c3] at h; exact h
    · rw [if_neg c0, if_neg c1, if_neg c2, if_neg c3] at h; exact h
  · exact h.elim
def w_X1_find_57 (M : CT) (G : Nat → PT) (Rp : RT) : PT := tConst (-1) <| tIret Rp
def w_X1_find_51 (M : CT) (G : Nat → PT) (Rp : RT) : PT := tIinc 4 1 <| tGoto (G 3)
def w_X1_find_3 (M : CT) (G : Nat → PT) (Rp : RT) : PT := tIload 4 <| tAload 0 <| tGetI 1 6 2 <| tIf2 (fun x y => y ≤ x) (w_X1_find_57 M G Rp) <| tAload 0 <| tGetR 1 6 0 <| tIload 4 <| tAldR 32 <| tAstore 5 <| tAload 5 <| tGetI 2 10 0 <| tIload 1 <| tIf2 (fun x y => x ≠ y) (w_X1_find_51 M G Rp) <| tAload 5 <| tGetI 2 10 1 <| tIload 2 <| tIf2 (fun x y => x ≠ y) (w_X1_find_51 M G Rp) <| tAload 5 <| tGetI 2 10 2 <| tIload 3 <| tIf2 (fun x y => x ≠ y) (w_X1_find_51 M G Rp) <| tIload 4 <| tIret Rp
def w_X1_find_0 (M : CT) (G : Nat → PT) (Rp : RT) : PT := tConst 0 <| tIstore 4 <| G 3
set_option maxRecDepth 20000 in
theorem b_X1_find_57 {Z : Zt} {d : Nat} {p : Program} {e : Env} {R : Room} {s : State} {m : MethodId} {args : Array Value} {below : List Frame} {meth : Method} {c : Code} {Rp : RT} (C : Cx Z d jX1_find RX1 p R s m args meth c) : Sd Z jX1_find p e R s m args below meth c (MQ below (QcS Z Rp) args s 0 0 (fun a => Z.2.2.1 < a)) 57 (w_X1_find_57 (MS Z d) (Gw Z 6 p e R s m args below meth c (MQ below (QcS Z Rp) args s 0 0 (fun a => Z.2.2.1 < a))) Rp) := by
  unfold w_X1_find_57
  refine s_iconst (n := (-1)) C (by decide +kernel) (by decide) ?_
  exact s_iret C rfl (by decide +kernel)
set_option maxRecDepth 20000 in
theorem b_X1_find_51 {Z : Zt} {d : Nat} {p : Program} {e : Env} {R : Room} {s : State} {m : MethodId} {args : Array Value} {below : List Frame} {meth : Method} {c : Code} {Rp : RT} (C : Cx Z d jX1_find RX1 p R s m args meth c) : Sd Z jX1_find p e R s m args below meth c (MQ below (QcS Z Rp) args s 0 0 (fun a => Z.2.2.1 < a)) 51 (w_X1_find_51 (MS Z d) (Gw Z 6 p e R s m args below meth c (MQ below (QcS Z Rp) args s 0 0 (fun a => Z.2.2.1 < a))) Rp) := by
  unfold w_X1_find_51
  refine s_iinc (n := 1) C (by decide +kernel) (by decide) ?_
  exact s_goto (off := (-51)) (tgt := 3) C (by decide +kernel) (by decide) (fun _ _ _ _ _ _ h => h)
set_option maxRecDepth 20000 in
theorem b_X1_find_3 {Z : Zt} {d : Nat} {p : Program} {e : Env} {R : Room} {s : State} {m : MethodId} {args : Array Value} {below : List Frame} {meth : Method} {c : Code} {Rp : RT} (C : Cx Z d jX1_find RX1 p R s m args meth c) : Sd Z jX1_find p e R s m args below meth c (MQ below (QcS Z Rp) args s 0 0 (fun a => Z.2.2.1 < a)) 3 (w_X1_find_3 (MS Z d) (Gw Z 6 p e R s m args below meth c (MQ below (QcS Z Rp) args s 0 0 (fun a => Z.2.2.1 < a))) Rp) := by
  unfold w_X1_find_3
  refine s_iload (k := 4) C (by decide +kernel) ?_
  refine s_aload_n (k := 0) C (by decide +kernel) ?_
  refine s_getI C w_1_123 (by decide +kernel) rfl ?_
  refine s_icmp_ge (off := 48) (tgt := 57) C (by decide +kernel) (by decide) (b_X1_find_57 C) ?_
  refine s_aload_n (k := 0) C (by decide +kernel) ?_
  refine s_getR C w_1_118 (by decide +kernel) rfl ?_
  refine s_iload (k := 4) C (by decide +kernel) ?_
  refine s_aald C rfl (by decide +kernel) ?_
  refine s_astore (k := 5) C (by decide +kernel) ?_
  refine s_aload (k := 5) C (by decide +kernel) ?_
  refine s_getI C w_1_53 (by decide +kernel) rfl ?_
  refine s_iload_n (k := 1) C (by decide +kernel) ?_
  refine s_icmp_ne (off := 24) (tgt := 51) C (by decide +kernel) (by decide) (b_X1_find_51 C) ?_
  refine s_aload (k := 5) C (by decide +kernel) ?_
  refine s_getI C w_1_58 (by decide +kernel) rfl ?_
  refine s_iload_n (k := 2) C (by decide +kernel) ?_
  refine s_icmp_ne (off := 15) (tgt := 51) C (by decide +kernel) (by decide) (b_X1_find_51 C) ?_
  refine s_aload (k := 5) C (by decide +kernel) ?_
  refine s_getI C w_1_63 (by decide +kernel) rfl ?_
  refine s_iload_n (k := 3) C (by decide +kernel) ?_
  refine s_icmp_ne (off := 6) (tgt := 51) C (by decide +kernel) (by decide) (b_X1_find_51 C) ?_
  refine s_iload (k := 4) C (by decide +kernel) ?_
  exact s_iret C rfl (by decide +kernel)
set_option maxRecDepth 20000 in
theorem b_X1_find_0 {Z : Zt} {d : Nat} {p : Program} {e : Env} {R : Room} {s : State} {m : MethodId} {args : Array Value} {below : List Frame} {meth : Method} {c : Code} {Rp : RT} (C : Cx Z d jX1_find RX1 p R s m args meth c) : Sd Z jX1_find p e R s m args below meth c (MQ below (QcS Z Rp) args s 0 0 (fun a => Z.2.2.1 < a)) 0 (w_X1_find_0 (MS Z d) (Gw Z 6 p e R s m args below meth c (MQ below (QcS Z Rp) args s 0 0 (fun a => Z.2.2.1 < a))) Rp) := by
  unfold w_X1_find_0
  refine s_iconst (n := 0) C (by decide +kernel) (by decide) ?_
  refine s_istore (k := 4) C (by decide +kernel) ?_
  exact (fun _ _ _ _ _ _ h => h)
theorem ms_X1_find {Z : Zt} {d : Nat} {S : Sh} {μ : Mi} {ρ : Mr} {Rp : RT} (a0 : Nat) (x1 : Int32) (x2 : Int32) (x3 : Int32) (h : ∀ G : Nat → PT, (∀ (L st : List Value) (S : Sh) (q : Nat × Nat) (μ : Mi) (ρ : Mr), w_X1_find_3 (MS Z d) G Rp L st S q μ ρ → G 3 L st S q μ ρ) → w_X1_find_0 (MS Z d) G Rp [.ref a0, .int x1, .int x2, .int x3, .null, .null] [] S (0, 0) μ ρ) : MS Z (d + 1) jX1_find [.ref a0, .int x1, .int x2, .int x3] S μ ρ Rp :=
  MS_of [.ref a0, .int x1, .int x2, .int x3, .null, .null] (by decide +kernel) rfl rfl (Nat.le_of_ble_eq_true rfl) rfl (fun p e R s m args below meth c C => b_X1_find_0 C _ _ _ _ _ _ (h _ (b_X1_find_3 C)))
def F_X1_find : FT := fun As S μ ρ k => match As with
  | [.ref a, .int f, .int t, .int kd] => S.2 a = (1, 6) ∧ ∃ (w : Nat) (A : Rw), a = w + 2 ∧ RR A w S μ ρ ∧ k (some (.int (frF A f t kd (A 4510).toNatClampNeg 0))) μ
  | _ => False
theorem r_X1_find {As S μ ρ k} (h : F_X1_find As S μ ρ k) : ∃ a As', As = Value.ref a :: As' ∧ S.2 a = (1, 6) := by
  unfold F_X1_find at h
  split at h
  · exact ⟨_, _, rfl, h.1⟩
  · exact h.elim
set_option maxHeartbeats 1000000 in
theorem f_X1_find {Z : Zt} {d : Nat} {As : List Value} {S : Sh} {μ : Mi} {ρ : Mr} {Rp : RT} (h : F_X1_find As S μ ρ (fun r μ' => Rp r S μ' ρ)) : MS Z (d + 1) jX1_find As S μ ρ Rp := by
  unfold F_X1_find at h
  split at h
  · rename_i a f t kd
    obtain ⟨a, hNa⟩ : ∃ n : Nat, n = a := ⟨a, rfl⟩
    subst hNa
    obtain ⟨h1, w, A, rfl, hR, h⟩ := h
    refine ms_X1_find _ _ _ _ (fun G g3 => ?_)
    have hW := RR_W hR
    have hM := hR.1.2.2.1
    obtain ⟨wn, w1, w2, -, w3⟩ := rg_ex hM.2.1.1
    have ec : (A 4510).toNatClampNeg = wn := by rw [w1, nI_clamp w2]
    have e2 : μ (w + 2) 2 = nI wn := hM.1.1.trans w1
    rw [ec] at h
    have loop : ∀ (n i : Nat) (v : Value), i + n = wn → Rp (some (.int (frF A f t kd n i))) S μ ρ → G 3 [.ref (w + 2), .int f, .int t, .int kd, .int (nI i), v] [] S (0, 0) μ ρ := by
      intro n
      induction n with
      | zero =>
        intro i v hi hh
        apply g3
        simp only [w_X1_find_3, w_X1_find_57, tAload, tIload, nth, tGetI, tGetR, tConst, tLconst, tBin, tUn, tI2l, tAld, tAldR, tAlen, tIast, tBast, tZast, tAast, tIret, tZret, tVret, tAret, tIf, tIf2, tGoto, tIstore, tAstore, sset, tIinc, tDup, tDup2, tPop, tPutI, tPutZ, tPutR, tCallV, tCallS, popN, tFn, tCopy, tMax, tMin, tSw, swc, tRem, tObjI, Option.toList, List.nil_append, List.cons_append, okR, true_and, and_true, true_or, or_true, Nat.zero_le, ne_eq, not_false_eq_true, Nat.reduceEqDiff, h1, e2]
        exact ⟨fun _ => hh, fun c => absurd (by rw [nI_leI w2 (by omega)]; omega) c⟩
      | succ n ih =>
        intro i v hi hh
        rw [frF_s] at hh
        obtain ⟨j, j1, j2, j3, j4, j5⟩ := WOK_box hW (i := i) (by omega)
        have hm := (hM.2.2 i (by omega)).1
        have g0 : μ (ρ (w + 3) i) 0 = A (2570 + 21 * i) := hm.1
        have g1 : μ (ρ (w + 3) i) 1 = A (2570 + 21 * i + 1) := hm.2.1
        have g2 : μ (ρ (w + 3) i) 2 = A (2570 + 21 * i + 3) := hm.2.2.1
        apply g3
        simp only [w_X1_find_3, w_X1_find_51, tAload, tIload, nth, tGetI, tGetR, tConst, tLconst, tBin, tUn, tI2l, tAld, tAldR, tAlen, tIast, tBast, tZast, tAast, tIret, tZret, tVret, tAret, tIf, tIf2, tGoto, tIstore, tAstore, sset, tIinc, tDup, tDup2, tPop, tPutI, tPutZ, tPutR, tCallV, tCallS, popN, tFn, tCopy, tMax, tMin, tSw, swc, tRem, tObjI, Option.toList, List.nil_append, List.cons_append, okR, true_and, and_true, true_or, or_true, Nat.zero_le, ne_eq, not_false_eq_true, Nat.reduceEqDiff, h1, e2, hW.2.2.2.2.1, hW.2.1, nI_clamp (show i < 2 ^ 31 by omega), j3, g0, g1, g2, nI_s1]
        refine ⟨fun z => absurd z (by rw [nI_leI w2 (by omega)]; omega), fun _ => ⟨inb_nI (by omega) (by decide), by omega, fun c => ?_, fun c => ⟨fun c2 => ?_, fun c2 => ⟨fun c3 => ?_, fun c3 => ?_⟩⟩⟩⟩
        · rw [if_neg (fun z => c z.1)] at hh
          exact ih (i + 1) _ (by omega) hh
        · rw [if_neg (fun z => c2 z.2.1)] at hh
          exact ih (i + 1) _ (by omega) hh
        · rw [if_neg (fun z => c3 z.2.2)] at hh
          exact ih (i + 1) _ (by omega) hh
        · rw [if_pos ⟨Classical.not_not.mp c, Classical.not_not.mp c2, Classical.not_not.mp c3⟩] at hh
          exact hh
    simp only [w_X1_find_0, tAload, tIload, nth, tGetI, tGetR, tConst, tLconst, tBin, tUn, tI2l, tAld, tAldR, tAlen, tIast, tBast, tZast, tAast, tIret, tZret, tVret, tAret, tIf, tIf2, tGoto, tIstore, tAstore, sset, tIinc, tDup, tDup2, tPop, tPutI, tPutZ, tPutR, tCallV, tCallS, popN, tFn, tCopy, tMax, tMin, tSw, swc, tRem, tObjI, Option.toList, List.nil_append, List.cons_append, okR, true_and, and_true, true_or, or_true, Nat.zero_le, ne_eq, not_false_eq_true, Nat.reduceEqDiff]
    exact loop wn 0 _ (by omega) h
  · exact h.elim
def w_X8_countOf_118 (M : CT) (G : Nat → PT) (Rp : RT) : PT := tConst (-1) <| tIret Rp
def w_X8_countOf_117 (M : CT) (G : Nat → PT) (Rp : RT) : PT := tIret Rp
def w_X8_countOf_116 (M : CT) (G : Nat → PT) (Rp : RT) : PT := tConst 0 <| w_X8_countOf_117 M G Rp
def w_X8_countOf_105 (M : CT) (G : Nat → PT) (Rp : RT) : PT := tAload 0 <| tGetI 10 6 5 <| tIf (fun x => x = 0) (w_X8_countOf_116 M G Rp) <| tConst 1 <| tGoto (w_X8_countOf_117 M G Rp)
def w_X8_countOf_100 (M : CT) (G : Nat → PT) (Rp : RT) : PT := tAload 0 <| tGetI 10 6 4 <| tIret Rp
def w_X8_countOf_95 (M : CT) (G : Nat → PT) (Rp : RT) : PT := tAload 0 <| tFn 1 F_X8_greatestAgreed <| tIret Rp
def w_X8_countOf_90 (M : CT) (G : Nat → PT) (Rp : RT) : PT := tAload 0 <| tFn 1 F_X8_greatestTerm <| tIret Rp
def w_X8_countOf_85 (M : CT) (G : Nat → PT) (Rp : RT) : PT := tAload 0 <| tFn 1 F_X8_leadersNow <| tIret Rp
def w_X8_countOf_80 (M : CT) (G : Nat → PT) (Rp : RT) : PT := tAload 0 <| tFn 1 F_X10_whoIsUp <| tIret Rp
def w_X8_countOf_72 (M : CT) (G : Nat → PT) (Rp : RT) : PT := tAload 0 <| tGetR 10 6 1 <| tGetI 1 6 4 <| tIret Rp
def w_X8_countOf_64 (M : CT) (G : Nat → PT) (Rp : RT) : PT := tAload 0 <| tGetR 10 6 1 <| tGetI 1 6 3 <| tIret Rp
def w_X8_countOf_56 (M : CT) (G : Nat → PT) (Rp : RT) : PT := tAload 0 <| tGetR 10 6 1 <| tGetI 1 6 2 <| tIret Rp
def w_X8_countOf_0 (M : CT) (G : Nat → PT) (Rp : RT) : PT := tIload 1 <| tSw [(0, w_X8_countOf_56 M G Rp), (1, w_X8_countOf_64 M G Rp), (2, w_X8_countOf_72 M G Rp), (3, w_X8_countOf_80 M G Rp), (4, w_X8_countOf_85 M G Rp), (5, w_X8_countOf_90 M G Rp), (6, w_X8_countOf_95 M G Rp), (7, w_X8_countOf_118 M G Rp), (8, w_X8_countOf_100 M G Rp), (9, w_X8_countOf_105 M G Rp)] (w_X8_countOf_118 M G Rp)
set_option maxRecDepth 20000 in
theorem b_X8_countOf_118 {Z : Zt} {d : Nat} {p : Program} {e : Env} {R : Room} {s : State} {m : MethodId} {args : Array Value} {below : List Frame} {meth : Method} {c : Code} {Rp : RT} (C : Cx Z (d + 1) jX8_countOf RX8 p R s m args meth c) : Sd Z jX8_countOf p e R s m args below meth c (MQ below (QcS Z Rp) args s 0 0 (fun a => Z.2.2.1 < a)) 118 (w_X8_countOf_118 (MS Z (d + 1)) (Gw Z 2 p e R s m args below meth c (MQ below (QcS Z Rp) args s 0 0 (fun a => Z.2.2.1 < a))) Rp) := by
  unfold w_X8_countOf_118
  refine s_iconst (n := (-1)) C (by decide +kernel) (by decide) ?_
  exact s_iret C rfl (by decide +kernel)
set_option maxRecDepth 20000 in
theorem b_X8_countOf_117 {Z : Zt} {d : Nat} {p : Program} {e : Env} {R : Room} {s : State} {m : MethodId} {args : Array Value} {below : List Frame} {meth : Method} {c : Code} {Rp : RT} (C : Cx Z (d + 1) jX8_countOf RX8 p R s m args meth c) : Sd Z jX8_countOf p e R s m args below meth c (MQ below (QcS Z Rp) args s 0 0 (fun a => Z.2.2.1 < a)) 117 (w_X8_countOf_117 (MS Z (d + 1)) (Gw Z 2 p e R s m args below meth c (MQ below (QcS Z Rp) args s 0 0 (fun a => Z.2.2.1 < a))) Rp) := by
  unfold w_X8_countOf_117
  exact s_iret C rfl (by decide +kernel)
set_option maxRecDepth 20000 in
theorem b_X8_countOf_116 {Z : Zt} {d : Nat} {p : Program} {e : Env} {R : Room} {s : State} {m : MethodId} {args : Array Value} {below : List Frame} {meth : Method} {c : Code} {Rp : RT} (C : Cx Z (d + 1) jX8_countOf RX8 p R s m args meth c) : Sd Z jX8_countOf p e R s m args below meth c (MQ below (QcS Z Rp) args s 0 0 (fun a => Z.2.2.1 < a)) 116 (w_X8_countOf_116 (MS Z (d + 1)) (Gw Z 2 p e R s m args below meth c (MQ below (QcS Z Rp) args s 0 0 (fun a => Z.2.2.1 < a))) Rp) := by
  unfold w_X8_countOf_116
  refine s_iconst (n := 0) C (by decide +kernel) (by decide) ?_
  exact (b_X8_countOf_117 C)
set_option maxRecDepth 20000 in
theorem b_X8_countOf_105 {Z : Zt} {d : Nat} {p : Program} {e : Env} {R : Room} {s : State} {m : MethodId} {args : Array Value} {below : List Frame} {meth : Method} {c : Code} {Rp : RT} (C : Cx Z (d + 1) jX8_countOf RX8 p R s m args meth c) : Sd Z jX8_countOf p e R s m args below meth c (MQ below (QcS Z Rp) args s 0 0 (fun a => Z.2.2.1 < a)) 105 (w_X8_countOf_105 (MS Z (d + 1)) (Gw Z 2 p e R s m args below meth c (MQ below (QcS Z Rp) args s 0 0 (fun a => Z.2.2.1 < a))) Rp) := by
  unfold w_X8_countOf_105
  refine s_aload_n (k := 0) C (by decide +kernel) ?_
  refine s_getI C w_2_129 (by decide +kernel) rfl ?_
  refine s_if_eq (off := 7) (tgt := 116) C (by decide +kernel) (by decide) (b_X8_countOf_116 C) ?_
  refine s_iconst (n := 1) C (by decide +kernel) (by decide) ?_
  exact s_goto (off := 4) (tgt := 117) C (by decide +kernel) (by decide) (b_X8_countOf_117 C)
set_option maxRecDepth 20000 in
theorem b_X8_countOf_100 {Z : Zt} {d : Nat} {p : Program} {e : Env} {R : Room} {s : State} {m : MethodId} {args : Array Value} {below : List Frame} {meth : Method} {c : Code} {Rp : RT} (C : Cx Z (d + 1) jX8_countOf RX8 p R s m args meth c) : Sd Z jX8_countOf p e R s m args below meth c (MQ below (QcS Z Rp) args s 0 0 (fun a => Z.2.2.1 < a)) 100 (w_X8_countOf_100 (MS Z (d + 1)) (Gw Z 2 p e R s m args below meth c (MQ below (QcS Z Rp) args s 0 0 (fun a => Z.2.2.1 < a))) Rp) := by
  unfold w_X8_countOf_100
  refine s_aload_n (k := 0) C (by decide +kernel) ?_
  refine s_getI C w_2_127 (by decide +kernel) rfl ?_
  exact s_iret C rfl (by decide +kernel)
set_option maxRecDepth 20000 in
theorem b_X8_countOf_95 {Z : Zt} {d : Nat} {p : Program} {e : Env} {R : Room} {s : State} {m : MethodId} {args : Array Value} {below : List Frame} {meth : Method} {c : Code} {Rp : RT} (C : Cx Z (d + 1) jX8_countOf RX8 p R s m args meth c) : Sd Z jX8_countOf p e R s m args below meth c (MQ below (QcS Z Rp) args s 0 0 (fun a => Z.2.2.1 < a)) 95 (w_X8_countOf_95 (MS Z (d + 1)) (Gw Z 2 p e R s m args below meth c (MQ below (QcS Z Rp) args s 0 0 (fun a => Z.2.2.1 < a))) Rp) := by
  unfold w_X8_countOf_95
  refine s_aload_n (k := 0) C (by decide +kernel) ?_
  refine s_fnS C (j2 := jX8_greatestAgreed) (by decide +kernel) rfl w_6_68 w_6_69 w_1_21 w_6_70 (by decide +kernel) (fun _ _ _ _ _ h => f_X8_greatestAgreed h) ?_
  exact s_iret C rfl (by decide +kernel)
set_option maxRecDepth 20000 in
theorem b_X8_countOf_90 {Z : Zt} {d : Nat} {p : Program} {e : Env} {R : Room} {s : State} {m : MethodId} {args : Array Value} {below : List Frame} {meth : Method} {c : Code} {Rp : RT} (C : Cx Z (d + 1) jX8_countOf RX8 p R s m args meth c) : Sd Z jX8_countOf p e R s m args below meth c (MQ below (QcS Z Rp) args s 0 0 (fun a => Z.2.2.1 < a)) 90 (w_X8_countOf_90 (MS Z (d + 1)) (Gw Z 2 p e R s m args below meth c (MQ below (QcS Z Rp) args s 0 0 (fun a => Z.2.2.1 < a))) Rp) := by
  unfold w_X8_countOf_90
  refine s_aload_n (k := 0) C (by decide +kernel) ?_
  refine s_fnS C (j2 := jX8_greatestTerm) (by decide +kernel) rfl w_6_65 w_6_66 w_1_21 w_6_67 (by decide +kernel) (fun _ _ _ _ _ h => f_X8_greatestTerm h) ?_
  exact s_iret C rfl (by decide +kernel)
set_option maxRecDepth 20000 in
theorem b_X8_countOf_85 {Z : Zt} {d : Nat} {p : Program} {e : Env} {R : Room} {s : State} {m : MethodId} {args : Array Value} {below : List Frame} {meth : Method} {c : Code} {Rp : RT} (C : Cx Z (d + 1) jX8_countOf RX8 p R s m args meth c) : Sd Z jX8_countOf p e R s m args below meth c (MQ below (QcS Z Rp) args s 0 0 (fun a => Z.2.2.1 < a)) 85 (w_X8_countOf_85 (MS Z (d + 1)) (Gw Z 2 p e R s m args below meth c (MQ below (QcS Z Rp) args s 0 0 (fun a => Z.2.2.1 < a))) Rp) := by
  unfold w_X8_countOf_85
  refine s_aload_n (k := 0) C (by decide +kernel) ?_
  refine s_fnS C (j2 := jX8_leadersNow) (by decide +kernel) rfl w_6_62 w_6_63 w_1_21 w_6_64 (by decide +kernel) (fun _ _ _ _ _ h => f_X8_leadersNow h) ?_
  exact s_iret C rfl (by decide +kernel)
set_option maxRecDepth 20000 in
theorem b_X8_countOf_80 {Z : Zt} {d : Nat} {p : Program} {e : Env} {R : Room} {s : State} {m : MethodId} {args : Array Value} {below : List Frame} {meth : Method} {c : Code} {Rp : RT} (C : Cx Z (d + 1) jX8_countOf RX8 p R s m args meth c) : Sd Z jX8_countOf p e R s m args below meth c (MQ below (QcS Z Rp) args s 0 0 (fun a => Z.2.2.1 < a)) 80 (w_X8_countOf_80 (MS Z (d + 1)) (Gw Z 2 p e R s m args below meth c (MQ below (QcS Z Rp) args s 0 0 (fun a => Z.2.2.1 < a))) Rp) := by
  unfold w_X8_countOf_80
  refine s_aload_n (k := 0) C (by decide +kernel) ?_
  refine s_fnV C (j2 := jX10_whoIsUp) (cl := 10) (nf := 6) rfl rfl (by decide +kernel) rfl w_6_37 w_5_165 w_5_166 w_1_2 w_5_167 (by decide +kernel) (fun _ _ _ _ _ h => f_X10_whoIsUp h) (fun _ _ _ _ _ h => r_X10_whoIsUp h) ?_
  exact s_iret C rfl (by decide +kernel)
set_option maxRecDepth 20000 in
theorem b_X8_countOf_72 {Z : Zt} {d : Nat} {p : Program} {e : Env} {R : Room} {s : State} {m : MethodId} {args : Array Value} {below : List Frame} {meth : Method} {c : Code} {Rp : RT} (C : Cx Z (d + 1) jX8_countOf RX8 p R s m args meth c) : Sd Z jX8_countOf p e R s m args below meth c (MQ below (QcS Z Rp) args s 0 0 (fun a => Z.2.2.1 < a)) 72 (w_X8_countOf_72 (MS Z (d + 1)) (Gw Z 2 p e R s m args below meth c (MQ below (QcS Z Rp) args s 0 0 (fun a => Z.2.2.1 < a))) Rp) := by
  unfold w_X8_countOf_72
  refine s_aload_n (k := 0) C (by decide +kernel) ?_
  refine s_getR C w_2_119 (by decide +kernel) rfl ?_
  refine s_getI C w_1_133 (by decide +kernel) rfl ?_
  exact s_iret C rfl (by decide +kernel)
set_option maxRecDepth 20000 in
theorem b_X8_countOf_64 {Z : Zt} {d : Nat} {p : Program} {e : Env} {R : Room} {s : State} {m : MethodId} {args : Array Value} {below : List Frame} {meth : Method} {c : Code} {Rp : RT} (C : Cx Z (d + 1) jX8_countOf RX8 p R s m args meth c) : Sd Z jX8_countOf p e R s m args below meth c (MQ below (QcS Z Rp) args s 0 0 (fun a => Z.2.2.1 < a)) 64 (w_X8_countOf_64 (MS Z (d + 1)) (Gw Z 2 p e R s m args below meth c (MQ below (QcS Z Rp) args s 0 0 (fun a => Z.2.2.1 < a))) Rp) := by
  unfold w_X8_countOf_64
  refine s_aload_n (k := 0) C (by decide +kernel) ?_
  refine s_getR C w_2_119 (by decide +kernel) rfl ?_
  refine s_getI C w_1_130 (by decide +kernel) rfl ?_
  exact s_iret C rfl (by decide +kernel)
set_option maxRecDepth 20000 in
theorem b_X8_countOf_56 {Z : Zt} {d : Nat} {p : Program} {e : Env} {R : Room} {s : State} {m : MethodId} {args : Array Value} {below : List Frame} {meth : Method} {c : Code} {Rp : RT} (C : Cx Z (d + 1) jX8_countOf RX8 p R s m args meth c) : Sd Z jX8_countOf p e R s m args below meth c (MQ below (QcS Z Rp) args s 0 0 (fun a => Z.2.2.1 < a)) 56 (w_X8_countOf_56 (MS Z (d + 1)) (Gw Z 2 p e R s m args below meth c (MQ below (QcS Z Rp) args s 0 0 (fun a => Z.2.2.1 < a))) Rp) := by
  unfold w_X8_countOf_56
  refine s_aload_n (k := 0) C (by decide +kernel) ?_
  refine s_getR C w_2_119 (by decide +kernel) rfl ?_
  refine s_getI C w_1_125 (by decide +kernel) rfl ?_
  exact s_iret C rfl (by decide +kernel)
set_option maxRecDepth 20000 in
theorem b_X8_countOf_0 {Z : Zt} {d : Nat} {p : Program} {e : Env} {R : Room} {s : State} {m : MethodId} {args : Array Value} {below : List Frame} {meth : Method} {c : Code} {Rp : RT} (C : Cx Z (d + 1) jX8_countOf RX8 p R s m args meth c) : Sd Z jX8_countOf p e R s m args below meth c (MQ below (QcS Z Rp) args s 0 0 (fun a => Z.2.2.1 < a)) 0 (w_X8_countOf_0 (MS Z (d + 1)) (Gw Z 2 p e R s m args below meth c (MQ below (QcS Z Rp) args s 0 0 (fun a => Z.2.2.1 < a))) Rp) := by
  unfold w_X8_countOf_0
  refine s_iload_n (k := 1) C (by decide +kernel) ?_
  refine s_tsw (df := 117) (lo := 0) (hi := 9) (offs := #[55, 63, 71, 79, 84, 89, 94, 117, 99, 104]) (len := 55) (tgt := 118) C (by decide +kernel) (by decide) (b_X8_countOf_118 C) (fun i r h => ?_) (fun x h => tsw_out 10 x (fun q hq => ?_))
  · match i, h with
    | 0, h => cases h; dsimp only; exact ⟨by decide, by decide, 55, 56, by rfl, by decide, (b_X8_countOf_56 C)⟩
    | 1, h => cases h; dsimp only; exact ⟨by decide, by decide, 63, 64, by rfl, by decide, (b_X8_countOf_64 C)⟩
    | 2, h => cases h; dsimp only; exact ⟨by decide, by decide, 71, 72, by rfl, by decide, (b_X8_countOf_72 C)⟩
    | 3, h => cases h; dsimp only; exact ⟨by decide, by decide, 79, 80, by rfl, by decide, (b_X8_countOf_80 C)⟩
    | 4, h => cases h; dsimp only; exact ⟨by decide, by decide, 84, 85, by rfl, by decide, (b_X8_countOf_85 C)⟩
    | 5, h => cases h; dsimp only; exact ⟨by decide, by decide, 89, 90, by rfl, by decide, (b_X8_countOf_90 C)⟩
    | 6, h => cases h; dsimp only; exact ⟨by decide, by decide, 94, 95, by rfl, by decide, (b_X8_countOf_95 C)⟩
    | 7, h => cases h; dsimp only; exact ⟨by decide, by decide, 117, 118, by rfl, by decide, (b_X8_countOf_118 C)⟩
    | 8, h => cases h; dsimp only; exact ⟨by decide, by decide, 99, 100, by rfl, by decide, (b_X8_countOf_100 C)⟩
    | 9, h => cases h; dsimp only; exact ⟨by decide, by decide, 104, 105, by rfl, by decide, (b_X8_countOf_105 C)⟩
    | q + 10, h => simp at h
  · match q, hq with
    | 0, _ => exact h _ (List.mem_of_getElem? (i := 0) rfl)
    | 1, _ => exact h _ (List.mem_of_getElem? (i := 1) rfl)
    | 2, _ => exact h _ (List.mem_of_getElem? (i := 2) rfl)
    | 3, _ => exact h _ (List.mem_of_getElem? (i := 3) rfl)
    | 4, _ => exact h _ (List.mem_of_getElem? (i := 4) rfl)
    | 5, _ => exact h _ (List.mem_of_getElem? (i := 5) rfl)
    | 6, _ => exact h _ (List.mem_of_getElem? (i := 6) rfl)
    | 7, _ => exact h _ (List.mem_of_getElem? (i := 7) rfl)
    | 8, _ => exact h _ (List.mem_of_getElem? (i := 8) rfl)
    | 9, _ => exact h _ (List.mem_of_getElem? (i := 9) rfl)
    | q + 10, hq => exact absurd hq (by omega)
theorem ms_X8_countOf {Z : Zt} {d : Nat} {S : Sh} {μ : Mi} {ρ : Mr} {Rp : RT} (a1 : Nat) (x2 : Int32) (h : ∀ G : Nat → PT, w_X8_countOf_0 (MS Z (d + 1)) G Rp [.ref a1, .int x2] [] S (0, 0) μ ρ) : MS Z (d + 2) jX8_countOf [.ref a1, .int x2] S μ ρ Rp :=
  MS_of [.ref a1, .int x2] (by decide +kernel) rfl rfl (Nat.le_of_ble_eq_true rfl) rfl (fun p e R s m args below meth c C => b_X8_countOf_0 C _ _ _ _ _ _ (h _ ))
def F_X8_countOf : FT := fun As S μ ρ k => match As with
  | [.ref a, .int w] => S.2 a = (10, 6) ∧ ∃ A : Rw, RR A a S μ ρ ∧ ¬ w = 7 ∧ ¬ w = 10 ∧ ∀ dm tp, k (some (.int (vCount A dm tp w))) μ
  | _ => False
set_option maxHeartbeats 1000000 in
theorem f_X8_countOf {Z : Zt} {d : Nat} {As : List Value} {S : Sh} {μ : Mi} {ρ : Mr} {Rp : RT} (h : F_X8_countOf As S μ ρ (fun r μ' => Rp r S μ' ρ)) : MS Z (d + 2) jX8_countOf As S μ ρ Rp := by
  unfold F_X8_countOf at h
  split at h
  · rename_i a w
    obtain ⟨a, hNa⟩ : ∃ n : Nat, n = a := ⟨a, rfl⟩
    subst hNa
    obtain ⟨h1, A, hR, n7, n10, h⟩ := h
    have h := h 0 0
    unfold vCount at h
    refine ms_X8_countOf _ _ (fun G => ?_)
    have hW := RR_W hR
    have hM := hR.1.2.2.1.1
    have hD := hR.1.2.2.2.2
    simp only [w_X8_countOf_0, w_X8_countOf_56, w_X8_countOf_64, w_X8_countOf_72, w_X8_countOf_80, w_X8_countOf_85, w_X8_countOf_90, w_X8_countOf_95, w_X8_countOf_100, w_X8_countOf_105, w_X8_countOf_116, w_X8_countOf_117, w_X8_countOf_118, tAload, tIload, nth, tGetI, tGetR, tConst, tLconst, tBin, tUn, tI2l, tAld, tAldR, tAlen, tIast, tBast, tZast, tAast, tIret, tZret, tVret, tAret, tIf, tIf2, tGoto, tIstore, tAstore, sset, tIinc, tDup, tDup2, tPop, tPutI, tPutZ, tPutR, tCallV, tCallS, popN, tFn, tCopy, tMax, tMin, tSw, swc, tRem, tObjI, Option.toList, List.nil_append, List.cons_append, okR, true_and, and_true, true_or, or_true, Nat.zero_le, ne_eq, not_false_eq_true, Nat.reduceEqDiff, F_X10_whoIsUp, F_X8_leadersNow, F_X8_greatestTerm, F_X8_greatestAgreed, h1, hW.2.2.2.2.1, hW.2.1, hM, hD.1, hD.2.1]
    refine ⟨fun c0 => ?_, fun c0 => ⟨fun c1 => ?_, fun c1 => ⟨fun c2 => ?_, fun c2 => ⟨fun c3 => ⟨A, hR, ?_⟩, fun c3 => ⟨fun c4 => ⟨A, hR, ?_⟩, fun c4 => ⟨fun c5 => ⟨A, hR, ?_⟩, fun c5 => ⟨fun c6 => ⟨A, hR, ?_⟩, fun c6 => ⟨fun c7 => absurd c7 n7, fun c7 => ⟨fun c8 => ?_, fun c8 => ⟨fun c9 => ?_, fun c9 => ?_⟩⟩⟩⟩⟩⟩⟩⟩⟩⟩
    · rw [if_pos c0] at h; exact h
    · rw [if_neg c0, if_pos c1] at h; exact h
    · rw [if_neg c0, if_neg c1, if_pos c2] at h; exact h
    · rw [if_neg c0, if_neg c1, if_neg c2, if_pos c3] at h; exact h
    · rw [if_neg c0, if_neg c1, if_neg c2, if_neg c3, if_pos c4] at h; exact h
    · rw [if_neg c0, if_neg c1, if_neg c2, if_neg c3, if_neg c4, if_pos c5] at h; exact h
    · rw [if_neg c0, if_neg c1, if_neg c2, if_neg c3, if_neg c4, if_neg c5, if_pos c6] at h; exact h
    · rw [if_neg c0, if_neg c1, if_neg c2, if_neg c3, if_neg c4, if_neg c5, if_neg c6, if_neg c7, if_pos c8] at h; exact h
    · rw [if_neg c0, if_neg c1, if_neg c2, if_neg c3, if_neg c4, if_neg c5, if_neg c6, if_neg c7, if_neg c8, if_pos c9] at h
      refine ⟨fun z => ?_, fun z => ?_⟩
      · rw [z] at h; exact h
      · rw [hD.2.2.elim (fun y => absurd y z) id] at h; exact h
    · rw [if_neg c0, if_neg c1, if_neg c2, if_neg c3, if_neg c4, if_neg c5, if_neg c6, if_neg c7, if_neg c8, if_neg c9, if_neg n10] at h; exact h
  · exact h.elim
def w_X8_messageFact_143 (M : CT) (G : Nat → PT) (Rp : RT) : PT := tConst (-2) <| tIret Rp
def w_X8_messageFact_138 (M : CT) (G : Nat → PT) (Rp : RT) : PT := tAload 3 <| tGetI 2 10 8 <| tIret Rp
def w_X8_messageFact_137 (M : CT) (G : Nat → PT) (Rp : RT) : PT := tIret Rp
def w_X8_messageFact_136 (M : CT) (G : Nat → PT) (Rp : RT) : PT := tConst 0 <| w_X8_messageFact_137 M G Rp
def w_X8_messageFact_124 (M : CT) (G : Nat → PT) (Rp : RT) : PT := tAload 0 <| tAload 3 <| tFn 2 F_X10_canCome <| tIf (fun x => x = 0) (w_X8_messageFact_136 M G Rp) <| tConst 1 <| tGoto (w_X8_messageFact_137 M G Rp)
def w_X8_messageFact_119 (M : CT) (G : Nat → PT) (Rp : RT) : PT := tAload 3 <| tGetI 2 10 7 <| tIret Rp
def w_X8_messageFact_114 (M : CT) (G : Nat → PT) (Rp : RT) : PT := tAload 3 <| tGetI 2 10 6 <| tIret Rp
def w_X8_messageFact_109 (M : CT) (G : Nat → PT) (Rp : RT) : PT := tAload 3 <| tGetI 2 10 5 <| tIret Rp
def w_X8_messageFact_104 (M : CT) (G : Nat → PT) (Rp : RT) : PT := tAload 3 <| tGetI 2 10 4 <| tIret Rp
def w_X8_messageFact_99 (M : CT) (G : Nat → PT) (Rp : RT) : PT := tAload 3 <| tGetI 2 10 3 <| tIret Rp
def w_X8_messageFact_94 (M : CT) (G : Nat → PT) (Rp : RT) : PT := tAload 3 <| tGetI 2 10 2 <| tIret Rp
def w_X8_messageFact_89 (M : CT) (G : Nat → PT) (Rp : RT) : PT := tAload 3 <| tGetI 2 10 1 <| tIret Rp
def w_X8_messageFact_84 (M : CT) (G : Nat → PT) (Rp : RT) : PT := tAload 3 <| tGetI 2 10 0 <| tIret Rp
def w_X8_messageFact_18 (M : CT) (G : Nat → PT) (Rp : RT) : PT := tAload 0 <| tGetR 10 6 1 <| tGetR 1 6 0 <| tIload 1 <| tAldR 32 <| tAstore 3 <| tIload 2 <| tSw [(0, w_X8_messageFact_84 M G Rp), (1, w_X8_messageFact_89 M G Rp), (2, w_X8_messageFact_94 M G Rp), (3, w_X8_messageFact_99 M G Rp), (4, w_X8_messageFact_104 M G Rp), (5, w_X8_messageFact_109 M G Rp), (6, w_X8_messageFact_114 M G Rp), (7, w_X8_messageFact_119 M G Rp), (8, w_X8_messageFact_124 M G Rp), (9, w_X8_messageFact_138 M G Rp)] (w_X8_messageFact_143 M G Rp)
def w_X8_messageFact_15 (M : CT) (G : Nat → PT) (Rp : RT) : PT := tConst (-2) <| tIret Rp
def w_X8_messageFact_0 (M : CT) (G : Nat → PT) (Rp : RT) : PT := tIload 1 <| tIf (fun x => x < 0) (w_X8_messageFact_15 M G Rp) <| tIload 1 <| tAload 0 <| tGetR 10 6 1 <| tGetI 1 6 2 <| tIf2 (fun x y => x < y) (w_X8_messageFact_18 M G Rp) <| w_X8_messageFact_15 M G Rp
set_option maxRecDepth 20000 in
theorem b_X8_messageFact_143 {Z : Zt} {d : Nat} {p : Program} {e : Env} {R : Room} {s : State} {m : MethodId} {args : Array Value} {below : List Frame} {meth : Method} {c : Code} {Rp : RT} (C : Cx Z (d + 2) jX8_messageFact RX8 p R s m args meth c) : Sd Z jX8_messageFact p e R s m args below meth c (MQ below (QcS Z Rp) args s 0 0 (fun a => Z.2.2.1 < a)) 143 (w_X8_messageFact_143 (MS Z (d + 2)) (Gw Z 4 p e R s m args below meth c (MQ below (QcS Z Rp) args s 0 0 (fun a => Z.2.2.1 < a))) Rp) := by
  unfold w_X8_messageFact_143
  refine s_bipush (n := (-2)) C (by decide +kernel) (by decide) ?_
  exact s_iret C rfl (by decide +kernel)
set_option maxRecDepth 20000 in
theorem b_X8_messageFact_138 {Z : Zt} {d : Nat} {p : Program} {e : Env} {R : Room} {s : State} {m : MethodId} {args : Array Value} {below : List Frame} {meth : Method} {c : Code} {Rp : RT} (C : Cx Z (d + 2) jX8_messageFact RX8 p R s m args meth c) : Sd Z jX8_messageFact p e R s m args below meth c (MQ below (QcS Z Rp) args s 0 0 (fun a => Z.2.2.1 < a)) 138 (w_X8_messageFact_138 (MS Z (d + 2)) (Gw Z 4 p e R s m args below meth c (MQ below (QcS Z Rp) args s 0 0 (fun a => Z.2.2.1 < a))) Rp) := by
  unfold w_X8_messageFact_138
  refine s_aload_n (k := 3) C (by decide +kernel) ?_
  refine s_getI C w_1_90 (by decide +kernel) rfl ?_
  exact s_iret C rfl (by decide +kernel)
set_option maxRecDepth 20000 in
theorem b_X8_messageFact_137 {Z : Zt} {d : Nat} {p : Program} {e : Env} {R : Room} {s : State} {m : MethodId} {args : Array Value} {below : List Frame} {meth : Method} {c : Code} {Rp : RT} (C : Cx Z (d + 2) jX8_messageFact RX8 p R s m args meth c) : Sd Z jX8_messageFact p e R s m args below meth c (MQ below (QcS Z Rp) args s 0 0 (fun a => Z.2.2.1 < a)) 137 (w_X8_messageFact_137 (MS Z (d + 2)) (Gw Z 4 p e R s m args below meth c (MQ below (QcS Z Rp) args s 0 0 (fun a => Z.2.2.1 < a))) Rp) := by
  unfold w_X8_messageFact_137
  exact s_iret C rfl (by decide +kernel)
set_option maxRecDepth 20000 in
theorem b_X8_messageFact_136 {Z : Zt} {d : Nat} {p : Program} {e : Env} {R : Room} {s : State} {m : MethodId} {args : Array Value} {below : List Frame} {meth : Method} {c : Code} {Rp : RT} (C : Cx Z (d + 2) jX8_messageFact RX8 p R s m args meth c) : Sd Z jX8_messageFact p e R s m args below meth c (MQ below (QcS Z Rp) args s 0 0 (fun a => Z.2.2.1 < a)) 136 (w_X8_messageFact_136 (MS Z (d + 2)) (Gw Z 4 p e R s m args below meth c (MQ below (QcS Z Rp) args s 0 0 (fun a => Z.2.2.1 < a))) Rp) := by
  unfold w_X8_messageFact_136
  refine s_iconst (n := 0) C (by decide +kernel) (by decide) ?_
  exact (b_X8_messageFact_137 C)
set_option maxRecDepth 20000 in
theorem b_X8_messageFact_124 {Z : Zt} {d : Nat} {p : Program} {e : Env} {R : Room} {s : State} {m : MethodId} {args : Array Value} {below : List Frame} {meth : Method} {c : Code} {Rp : RT} (C : Cx Z (d + 2) jX8_messageFact RX8 p R s m args meth c) : Sd Z jX8_messageFact p e R s m args below meth c (MQ below (QcS Z Rp) args s 0 0 (fun a => Z.2.2.1 < a)) 124 (w_X8_messageFact_124 (MS Z (d + 2)) (Gw Z 4 p e R s m args below meth c (MQ below (QcS Z Rp) args s 0 0 (fun a => Z.2.2.1 < a))) Rp) := by
  unfold w_X8_messageFact_124
  refine s_aload_n (k := 0) C (by decide +kernel) ?_
  refine s_aload_n (k := 3) C (by decide +kernel) ?_
  refine s_fnV C (j2 := jX10_canCome) (cl := 10) (nf := 6) rfl rfl (by decide +kernel) rfl w_5_129 w_4_76 w_4_77 w_1_2 w_4_78 (by decide +kernel) (fun _ _ _ _ _ h => f_X10_canCome h) (fun _ _ _ _ _ h => r_X10_canCome h) ?_
  refine s_if_eq (off := 7) (tgt := 136) C (by decide +kernel) (by decide) (b_X8_messageFact_136 C) ?_
  refine s_iconst (n := 1) C (by decide +kernel) (by decide) ?_
  exact s_goto (off := 4) (tgt := 137) C (by decide +kernel) (by decide) (b_X8_messageFact_137 C)
set_option maxRecDepth 20000 in
theorem b_X8_messageFact_119 {Z : Zt} {d : Nat} {p : Program} {e : Env} {R : Room} {s : State} {m : MethodId} {args : Array Value} {below : List Frame} {meth : Method} {c : Code} {Rp : RT} (C : Cx Z (d + 2) jX8_messageFact RX8 p R s m args meth c) : Sd Z jX8_messageFact p e R s m args below meth c (MQ below (QcS Z Rp) args s 0 0 (fun a => Z.2.2.1 < a)) 119 (w_X8_messageFact_119 (MS Z (d + 2)) (Gw Z 4 p e R s m args below meth c (MQ below (QcS Z Rp) args s 0 0 (fun a => Z.2.2.1 < a))) Rp) := by
  unfold w_X8_messageFact_119
  refine s_aload_n (k := 3) C (by decide +kernel) ?_
  refine s_getI C w_1_86 (by decide +kernel) rfl ?_
  exact s_iret C rfl (by decide +kernel)
set_option maxRecDepth 20000 in
theorem b_X8_messageFact_114 {Z : Zt} {d : Nat} {p : Program} {e : Env} {R : Room} {s : State} {m : MethodId} {args : Array Value} {below : List Frame} {meth : Method} {c : Code} {Rp : RT} (C : Cx Z (d + 2) jX8_messageFact RX8 p R s m args meth c) : Sd Z jX8_messageFact p e R s m args below meth c (MQ below (QcS Z Rp) args s 0 0 (fun a => Z.2.2.1 < a)) 114 (w_X8_messageFact_114 (MS Z (d + 2)) (Gw Z 4 p e R s m args below meth c (MQ below (QcS Z Rp) args s 0 0 (fun a => Z.2.2.1 < a))) Rp) := by
  unfold w_X8_messageFact_114
  refine s_aload_n (k := 3) C (by decide +kernel) ?_
  refine s_getI C w_1_81 (by decide +kernel) rfl ?_
  exact s_iret C rfl (by decide +kernel)
set_option maxRecDepth 20000 in
theorem b_X8_messageFact_109 {Z : Zt} {d : Nat} {p : Program} {e : Env} {R : Room} {s : State} {m : MethodId} {args : Array Value} {below : List Frame} {meth : Method} {c : Code} {Rp : RT} (C : Cx Z (d + 2) jX8_messageFact RX8 p R s m args meth c) : Sd Z jX8_messageFact p e R s m args below meth c (MQ below (QcS Z Rp) args s 0 0 (fun a => Z.2.2.1 < a)) 109 (w_X8_messageFact_109 (MS Z (d + 2)) (Gw Z 4 p e R s m args below meth c (MQ below (QcS Z Rp) args s 0 0 (fun a => Z.2.2.1 < a))) Rp) := by
  unfold w_X8_messageFact_109
  refine s_aload_n (k := 3) C (by decide +kernel) ?_
  refine s_getI C w_1_76 (by decide +kernel) rfl ?_
  exact s_iret C rfl (by decide +kernel)
set_option maxRecDepth 20000 in
theorem b_X8_messageFact_104 {Z : Zt} {d : Nat} {p : Program} {e : Env} {R : Room} {s : State} {m : MethodId} {args : Array Value} {below : List Frame} {meth : Method} {c : Code} {Rp : RT} (C : Cx Z (d + 2) jX8_messageFact RX8 p R s m args meth c) : Sd Z jX8_messageFact p e R s m args below meth c (MQ below (QcS Z Rp) args s 0 0 (fun a => Z.2.2.1 < a)) 104 (w_X8_messageFact_104 (MS Z (d + 2)) (Gw Z 4 p e R s m args below meth c (MQ below (QcS Z Rp) args s 0 0 (fun a => Z.2.2.1 < a))) Rp) := by
  unfold w_X8_messageFact_104
  refine s_aload_n (k := 3) C (by decide +kernel) ?_
  refine s_getI C w_1_71 (by decide +kernel) rfl ?_
  exact s_iret C rfl (by decide +kernel)
set_option maxRecDepth 20000 in
theorem b_X8_messageFact_99 {Z : Zt} {d : Nat} {p : Program} {e : Env} {R : Room} {s : State} {m : MethodId} {args : Array Value} {below : List Frame} {meth : Method} {c : Code} {Rp : RT} (C : Cx Z (d + 2) jX8_messageFact RX8 p R s m args meth c) : Sd Z jX8_messageFact p e R s m args below meth c (MQ below (QcS Z Rp) args s 0 0 (fun a => Z.2.2.1 < a)) 99 (w_X8_messageFact_99 (MS Z (d + 2)) (Gw Z 4 p e R s m args below meth c (MQ below (QcS Z Rp) args s 0 0 (fun a => Z.2.2.1 < a))) Rp) := by
  unfold w_X8_messageFact_99
  refine s_aload_n (k := 3) C (by decide +kernel) ?_
  refine s_getI C w_1_67 (by decide +kernel) rfl ?_
  exact s_iret C rfl (by decide +kernel)
set_option maxRecDepth 20000 in
theorem b_X8_messageFact_94 {Z : Zt} {d : Nat} {p : Program} {e : Env} {R : Room} {s : State} {m : MethodId} {args : Array Value} {below : List Frame} {meth : Method} {c : Code} {Rp : RT} (C : Cx Z (d + 2) jX8_messageFact RX8 p R s m args meth c) : Sd Z jX8_messageFact p e R s m args below meth c (MQ below (QcS Z Rp) args s 0 0 (fun a => Z.2.2.1 < a)) 94 (w_X8_messageFact_94 (MS Z (d + 2)) (Gw Z 4 p e R s m args below meth c (MQ below (QcS Z Rp) args s 0 0 (fun a => Z.2.2.1 < a))) Rp) := by
  unfold w_X8_messageFact_94
  refine s_aload_n (k := 3) C (by decide +kernel) ?_
  refine s_getI C w_1_62 (by decide +kernel) rfl ?_
  exact s_iret C rfl (by decide +kernel)
set_option maxRecDepth 20000 in
theorem b_X8_messageFact_89 {Z : Zt} {d : Nat} {p : Program} {e : Env} {R : Room} {s : State} {m : MethodId} {args : Array Value} {below : List Frame} {meth : Method} {c : Code} {Rp : RT} (C : Cx Z (d + 2) jX8_messageFact RX8 p R s m args meth c) : Sd Z jX8_messageFact p e R s m args below meth c (MQ below (QcS Z Rp) args s 0 0 (fun a => Z.2.2.1 < a)) 89 (w_X8_messageFact_89 (MS Z (d + 2)) (Gw Z 4 p e R s m args below meth c (MQ below (QcS Z Rp) args s 0 0 (fun a => Z.2.2.1 < a))) Rp) := by
  unfold w_X8_messageFact_89
  refine s_aload_n (k := 3) C (by decide +kernel) ?_
  refine s_getI C w_1_57 (by decide +kernel) rfl ?_
  exact s_iret C rfl (by decide +kernel)
set_option maxRecDepth 20000 in
theorem b_X8_messageFact_84 {Z : Zt} {d : Nat} {p : Program} {e : Env} {R : Room} {s : State} {m : MethodId} {args : Array Value} {below : List Frame} {meth : Method} {c : Code} {Rp : RT} (C : Cx Z (d + 2) jX8_messageFact RX8 p R s m args meth c) : Sd Z jX8_messageFact p e R s m args below meth c (MQ below (QcS Z Rp) args s 0 0 (fun a => Z.2.2.1 < a)) 84 (w_X8_messageFact_84 (MS Z (d + 2)) (Gw Z 4 p e R s m args below meth c (MQ below (QcS Z Rp) args s 0 0 (fun a => Z.2.2.1 < a))) Rp) := by
  unfold w_X8_messageFact_84
  refine s_aload_n (k := 3) C (by decide +kernel) ?_
  refine s_getI C w_1_52 (by decide +kernel) rfl ?_
  exact s_iret C rfl (by decide +kernel)
set_option maxRecDepth 20000 in
theorem b_X8_messageFact_18 {Z : Zt} {d : Nat} {p : Program} {e : Env} {R : Room} {s : State} {m : MethodId} {args : Array Value} {below : List Frame} {meth : Method} {c : Code} {Rp : RT} (C : Cx Z (d + 2) jX8_messageFact RX8 p R s m args meth c) : Sd Z jX8_messageFact p e R s m args below meth c (MQ below (QcS Z Rp) args s 0 0 (fun a => Z.2.2.1 < a)) 18 (w_X8_messageFact_18 (MS Z (d + 2)) (Gw Z 4 p e R s m args below meth c (MQ below (QcS Z Rp) args s 0 0 (fun a => Z.2.2.1 < a))) Rp) := by
  unfold w_X8_messageFact_18
  refine s_aload_n (k := 0) C (by decide +kernel) ?_
  refine s_getR C w_2_119 (by decide +kernel) rfl ?_
  refine s_getR C w_1_119 (by decide +kernel) rfl ?_
  refine s_iload_n (k := 1) C (by decide +kernel) ?_
  refine s_aald C rfl (by decide +kernel) ?_
  refine s_astore_n (k := 3) C (by decide +kernel) ?_
  refine s_iload_n (k := 2) C (by decide +kernel) ?_
  refine s_tsw (df := 114) (lo := 0) (hi := 9) (offs := #[55, 60, 65, 70, 75, 80, 85, 90, 95, 109]) (len := 55) (tgt := 143) C (by decide +kernel) (by decide) (b_X8_messageFact_143 C) (fun i r h => ?_) (fun x h => tsw_out 10 x (fun q hq => ?_))
  · match i, h with
    | 0, h => cases h; dsimp only; exact ⟨by decide, by decide, 55, 84, by rfl, by decide, (b_X8_messageFact_84 C)⟩
    | 1, h => cases h; dsimp only; exact ⟨by decide, by decide, 60, 89, by rfl, by decide, (b_X8_messageFact_89 C)⟩
    | 2, h => cases h; dsimp only; exact ⟨by decide, by decide, 65, 94, by rfl, by decide, (b_X8_messageFact_94 C)⟩
    | 3, h => cases h; dsimp only; exact ⟨by decide, by decide, 70, 99, by rfl, by decide, (b_X8_messageFact_99 C)⟩
    | 4, h => cases h; dsimp only; exact ⟨by decide, by decide, 75, 104, by rfl, by decide, (b_X8_messageFact_104 C)⟩
    | 5, h => cases h; dsimp only; exact ⟨by decide, by decide, 80, 109, by rfl, by decide, (b_X8_messageFact_109 C)⟩
    | 6, h => cases h; dsimp only; exact ⟨by decide, by decide, 85, 114, by rfl, by decide, (b_X8_messageFact_114 C)⟩
    | 7, h => cases h; dsimp only; exact ⟨by decide, by decide, 90, 119, by rfl, by decide, (b_X8_messageFact_119 C)⟩
    | 8, h => cases h; dsimp only; exact ⟨by decide, by decide, 95, 124, by rfl, by decide, (b_X8_messageFact_124 C)⟩
    | 9, h => cases h; dsimp only; exact ⟨by decide, by decide, 109, 138, by rfl, by decide, (b_X8_messageFact_138 C)⟩
    | q + 10, h => simp at h
  · match q, hq with
    | 0, _ => exact h _ (List.mem_of_getElem? (i := 0) rfl)
    | 1, _ => exact h _ (List.mem_of_getElem? (i := 1) rfl)
    | 2, _ => exact h _ (List.mem_of_getElem? (i := 2) rfl)
    | 3, _ => exact h _ (List.mem_of_getElem? (i := 3) rfl)
    | 4, _ => exact h _ (List.mem_of_getElem? (i := 4) rfl)
    | 5, _ => exact h _ (List.mem_of_getElem? (i := 5) rfl)
    | 6, _ => exact h _ (List.mem_of_getElem? (i := 6) rfl)
    | 7, _ => exact h _ (List.mem_of_getElem? (i := 7) rfl)
    | 8, _ => exact h _ (List.mem_of_getElem? (i := 8) rfl)
    | 9, _ => exact h _ (List.mem_of_getElem? (i := 9) rfl)
    | q + 10, hq => exact absurd hq (by omega)
set_option maxRecDepth 20000 in
theorem b_X8_messageFact_15 {Z : Zt} {d : Nat} {p : Program} {e : Env} {R : Room} {s : State} {m : MethodId} {args : Array Value} {below : List Frame} {meth : Method} {c : Code} {Rp : RT} (C : Cx Z (d + 2) jX8_messageFact RX8 p R s m args meth c) : Sd Z jX8_messageFact p e R s m args below meth c (MQ below (QcS Z Rp) args s 0 0 (fun a => Z.2.2.1 < a)) 15 (w_X8_messageFact_15 (MS Z (d + 2)) (Gw Z 4 p e R s m args below meth c (MQ below (QcS Z Rp) args s 0 0 (fun a => Z.2.2.1 < a))) Rp) := by
  unfold w_X8_messageFact_15
  refine s_bipush (n := (-2)) C (by decide +kernel) (by decide) ?_
  exact s_iret C rfl (by decide +kernel)
set_option maxRecDepth 20000 in
theorem b_X8_messageFact_0 {Z : Zt} {d : Nat} {p : Program} {e : Env} {R : Room} {s : State} {m : MethodId} {args : Array Value} {below : List Frame} {meth : Method} {c : Code} {Rp : RT} (C : Cx Z (d + 2) jX8_messageFact RX8 p R s m args meth c) : Sd Z jX8_messageFact p e R s m args below meth c (MQ below (QcS Z Rp) args s 0 0 (fun a => Z.2.2.1 < a)) 0 (w_X8_messageFact_0 (MS Z (d + 2)) (Gw Z 4 p e R s m args below meth c (MQ below (QcS Z Rp) args s 0 0 (fun a => Z.2.2.1 < a))) Rp) := by
  unfold w_X8_messageFact_0
  refine s_iload_n (k := 1) C (by decide +kernel) ?_
  refine s_if_lt (off := 14) (tgt := 15) C (by decide +kernel) (by decide) (b_X8_messageFact_15 C) ?_
  refine s_iload_n (k := 1) C (by decide +kernel) ?_
  refine s_aload_n (k := 0) C (by decide +kernel) ?_
  refine s_getR C w_2_119 (by decide +kernel) rfl ?_
  refine s_getI C w_1_125 (by decide +kernel) rfl ?_
  refine s_icmp_lt (off := 6) (tgt := 18) C (by decide +kernel) (by decide) (b_X8_messageFact_18 C) ?_
  exact (b_X8_messageFact_15 C)
theorem ms_X8_messageFact {Z : Zt} {d : Nat} {S : Sh} {μ : Mi} {ρ : Mr} {Rp : RT} (a1 : Nat) (x2 : Int32) (x3 : Int32) (h : ∀ G : Nat → PT, w_X8_messageFact_0 (MS Z (d + 2)) G Rp [.ref a1, .int x2, .int x3, .null] [] S (0, 0) μ ρ) : MS Z (d + 3) jX8_messageFact [.ref a1, .int x2, .int x3] S μ ρ Rp :=
  MS_of [.ref a1, .int x2, .int x3, .null] (by decide +kernel) rfl rfl (Nat.le_of_ble_eq_true rfl) rfl (fun p e R s m args below meth c C => b_X8_messageFact_0 C _ _ _ _ _ _ (h _ ))
def F_X8_messageFact : FT := fun As S μ ρ k => match As with
  | [.ref a, .int i, .int w] => S.2 a = (10, 6) ∧ ∃ A : Rw, RR A a S μ ρ ∧ k (some (.int (vMessage A i w))) μ
  | _ => False
set_option maxHeartbeats 1000000 in
theorem f_X8_messageFact {Z : Zt} {d : Nat} {As : List Value} {S : Sh} {μ : Mi} {ρ : Mr} {Rp : RT} (h : F_X8_messageFact As S μ ρ (fun r μ' => Rp r S μ' ρ)) : MS Z (d + 3) jX8_messageFact As S μ ρ Rp := by
  unfold F_X8_messageFact at h
  split at h
  · rename_i a i w
    obtain ⟨a, hNa⟩ : ∃ n : Nat, n = a := ⟨a, rfl⟩
    subst hNa
    obtain ⟨h1, A, hR, h⟩ := h
    unfold vMessage at h
    refine ms_X8_messageFact _ _ _ (fun G => ?_)
    have hW := RR_W hR
    have hM := hR.1.2.2.1
    obtain ⟨wn, w1, w2, -, w3⟩ := rg_ex hM.2.1.1
    have ec : (A 4510).toNatClampNeg = wn := by rw [w1, nI_clamp w2]
    have e2 : μ (a + 2) 2 = A 4510 := hM.1.1
    have e : (¬ i < 0 ∧ i < A 4510) ↔ isMsg A i := by
      rw [Int32.lt_iff_toInt_lt, Int32.lt_iff_toInt_lt]
      have : Int32.toInt 0 = 0 := by decide
      unfold isMsg
      omega
    simp only [w_X8_messageFact_0, w_X8_messageFact_15, tAload, tIload, nth, tGetI, tGetR, tConst, tLconst, tBin, tUn, tI2l, tAld, tAldR, tAlen, tIast, tBast, tZast, tAast, tIret, tZret, tVret, tAret, tIf, tIf2, tGoto, tIstore, tAstore, sset, tIinc, tDup, tDup2, tPop, tPutI, tPutZ, tPutR, tCallV, tCallS, popN, tFn, tCopy, tMax, tMin, tSw, swc, tRem, tObjI, Option.toList, List.nil_append, List.cons_append, okR, true_and, and_true, true_or, or_true, Nat.zero_le, ne_eq, not_false_eq_true, Nat.reduceEqDiff, h1, hW.2.2.2.2.1, hW.2.1, e2]
    refine ⟨fun c => ?_, fun c => ⟨fun c2 => ?_, fun c2 => ?_⟩⟩
    · rw [if_pos (fun z => (e.mpr z).1 c)] at h; exact h
    rotate_left
    · rw [if_pos (fun z => c2 (e.mpr z).2)] at h; exact h
    have ci := e.mp ⟨c, c2⟩
    rw [if_neg (not_not_intro ci)] at h
    unfold isMsg at ci
    rw [w1, nI_toInt w2] at ci
    obtain ⟨i, rfl, hi2, -, ci2⟩ := rg_ex (x := i) (lo := 0) (hi := wn - 1) ⟨ci.1, by omega⟩
    rw [nI_clamp hi2] at h
    obtain ⟨j, j1, j2, j3, j4, j5⟩ := WOK_box hW (i := i) (by omega)
    have hms := hM.2.2 i (by omega)
    have hm := hms.1
    obtain ⟨f, f1, f2, -, f3⟩ := rg_ex hms.2.1.1
    obtain ⟨s, s1, s2, -, s3⟩ := rg_ex hms.2.1.2.1
    have f1' : A (2570 + 21 * i) = nI f := f1
    have s1' : A (2570 + 21 * i + 1) = nI s := s1
    rw [f1', s1', nI_clamp s2] at h
    simp only [w_X8_messageFact_18, w_X8_messageFact_84, w_X8_messageFact_89, w_X8_messageFact_94, w_X8_messageFact_99, w_X8_messageFact_104, w_X8_messageFact_109, w_X8_messageFact_114, w_X8_messageFact_119, w_X8_messageFact_124, w_X8_messageFact_136, w_X8_messageFact_137, w_X8_messageFact_138, w_X8_messageFact_143, tAload, tIload, nth, tGetI, tGetR, tConst, tLconst, tBin, tUn, tI2l, tAld, tAldR, tAlen, tIast, tBast, tZast, tAast, tIret, tZret, tVret, tAret, tIf, tIf2, tGoto, tIstore, tAstore, sset, tIinc, tDup, tDup2, tPop, tPutI, tPutZ, tPutR, tCallV, tCallS, popN, tFn, tCopy, tMax, tMin, tSw, swc, tRem, tObjI, Option.toList, List.nil_append, List.cons_append, okR, true_and, and_true, true_or, or_true, Nat.zero_le, ne_eq, not_false_eq_true, Nat.reduceEqDiff, F_X10_canCome, b2_z, h1, hW.2.2.2.2.1, hW.2.1, nI_clamp hi2, j3, hm]
    refine ⟨inb_nI (by omega) (by decide), by omega, fun c0 => ?_, fun c0 => ⟨fun c1 => ?_, fun c1 => ⟨fun c2 => ?_, fun c2 => ⟨fun c3 => ?_, fun c3 => ⟨fun c4 => ?_, fun c4 => ⟨fun c5 => ?_, fun c5 => ⟨fun c6 => ?_, fun c6 => ⟨fun c7 => ?_, fun c7 => ⟨fun c8 => ⟨s, f, A, hR, f1, s1, by omega, by omega, fun z => ?_, fun z => ?_⟩, fun c8 => ⟨fun c9 => ?_, fun c9 => ?_⟩⟩⟩⟩⟩⟩⟩⟩⟩⟩
    · subst c0; rw [if_pos (by decide)] at h; rw [f1]; rw [show (0 : Int32).toNatClampNeg = 0 from rfl, Nat.add_zero, f1'] at h; exact h
    · subst c1; rw [if_pos (by decide)] at h; rw [s1]; rw [show (1 : Int32).toNatClampNeg = 1 from rfl, s1'] at h; exact h
    · subst c2; rw [if_neg (by decide), if_pos rfl] at h; exact h
    · subst c3; rw [if_neg (by decide), if_neg (by decide), if_pos rfl] at h; exact h
    · subst c4; rw [if_pos (by decide)] at h; exact h
    · subst c5; rw [if_pos (by decide)] at h; exact h
    · subst c6; rw [if_pos (by decide)] at h; exact h
    · subst c7; rw [if_pos (by decide)] at h; exact h
    · subst c8; rw [if_neg (by decide), if_neg (by decide), if_neg (by decide), if_pos rfl, if_neg z] at h; exact h
    · subst c8; rw [if_neg (by decide), if_neg (by decide), if_neg (by decide), if_pos rfl, if_pos (Decidable.not_not.mp z)] at h; exact h
    · subst c9; rw [if_neg (by decide), if_neg (by decide), if_neg (by decide), if_neg (by decide), if_pos rfl] at h; exact h
    · rw [if_neg (fun z => by rcases z with z | z | z | z | z | z <;> contradiction), if_neg c2, if_neg c3, if_neg c8, if_neg c9] at h; exact h
  · exact h.elim
def w_X8_storeFact_229 (M : CT) (G : Nat → PT) (Rp : RT) : PT := tConst (-2) <| tIret Rp
def w_X8_storeFact_221 (M : CT) (G : Nat → PT) (Rp : RT) : PT := tAload 3 <| tGetR 7 18 17 <| tGetI 5 4 3 <| tIret Rp
def w_X8_storeFact_216 (M : CT) (G : Nat → PT) (Rp : RT) : PT := tAload 3 <| tGetI 7 18 6 <| tIret Rp
def w_X8_storeFact_208 (M : CT) (G : Nat → PT) (Rp : RT) : PT := tAload 3 <| tGetR 7 18 17 <| tGetI 5 4 2 <| tIret Rp
def w_X8_storeFact_207 (M : CT) (G : Nat → PT) (Rp : RT) : PT := tIret Rp
def w_X8_storeFact_200 (M : CT) (G : Nat → PT) (Rp : RT) : PT := tAload 3 <| tGetR 7 18 17 <| tGetI 5 4 1 <| w_X8_storeFact_207 M G Rp
def w_X8_storeFact_186 (M : CT) (G : Nat → PT) (Rp : RT) : PT := tAload 3 <| tGetR 7 18 17 <| tGetI 5 4 0 <| tIf (fun x => x ≠ 0) (w_X8_storeFact_200 M G Rp) <| tConst (-1) <| tGoto (w_X8_storeFact_207 M G Rp)
def w_X8_storeFact_178 (M : CT) (G : Nat → PT) (Rp : RT) : PT := tAload 3 <| tGetR 7 18 17 <| tGetI 5 4 0 <| tIret Rp
def w_X8_storeFact_173 (M : CT) (G : Nat → PT) (Rp : RT) : PT := tAload 3 <| tGetI 7 18 5 <| tIret Rp
def w_X8_storeFact_168 (M : CT) (G : Nat → PT) (Rp : RT) : PT := tAload 3 <| tGetI 7 18 11 <| tIret Rp
def w_X8_storeFact_163 (M : CT) (G : Nat → PT) (Rp : RT) : PT := tAload 3 <| tGetI 7 18 10 <| tIret Rp
def w_X8_storeFact_158 (M : CT) (G : Nat → PT) (Rp : RT) : PT := tAload 3 <| tGetI 7 18 8 <| tIret Rp
def w_X8_storeFact_150 (M : CT) (G : Nat → PT) (Rp : RT) : PT := tAload 3 <| tGetR 7 18 16 <| tGetI 6 5 1 <| tIret Rp
def w_X8_storeFact_142 (M : CT) (G : Nat → PT) (Rp : RT) : PT := tAload 3 <| tGetR 7 18 16 <| tGetI 6 5 0 <| tIret Rp
def w_X8_storeFact_133 (M : CT) (G : Nat → PT) (Rp : RT) : PT := tAload 3 <| tAload 3 <| tGetI 7 18 7 <| tFn 2 F_X7_termAt <| tIret Rp
def w_X8_storeFact_128 (M : CT) (G : Nat → PT) (Rp : RT) : PT := tAload 3 <| tGetI 7 18 7 <| tIret Rp
def w_X8_storeFact_123 (M : CT) (G : Nat → PT) (Rp : RT) : PT := tAload 3 <| tGetI 7 18 4 <| tIret Rp
def w_X8_storeFact_118 (M : CT) (G : Nat → PT) (Rp : RT) : PT := tAload 3 <| tGetI 7 18 3 <| tIret Rp
def w_X8_storeFact_113 (M : CT) (G : Nat → PT) (Rp : RT) : PT := tAload 3 <| tGetI 7 18 2 <| tIret Rp
def w_X8_storeFact_112 (M : CT) (G : Nat → PT) (Rp : RT) : PT := tIret Rp
def w_X8_storeFact_111 (M : CT) (G : Nat → PT) (Rp : RT) : PT := tConst 0 <| w_X8_storeFact_112 M G Rp
def w_X8_storeFact_100 (M : CT) (G : Nat → PT) (Rp : RT) : PT := tAload 3 <| tGetI 7 18 1 <| tIf (fun x => x = 0) (w_X8_storeFact_111 M G Rp) <| tConst 1 <| tGoto (w_X8_storeFact_112 M G Rp)
def w_X8_storeFact_10 (M : CT) (G : Nat → PT) (Rp : RT) : PT := tAload 0 <| tGetR 10 6 0 <| tIload 1 <| tAldR 37 <| tAstore 3 <| tIload 2 <| tSw [(0, w_X8_storeFact_100 M G Rp), (1, w_X8_storeFact_113 M G Rp), (2, w_X8_storeFact_118 M G Rp), (3, w_X8_storeFact_123 M G Rp), (4, w_X8_storeFact_128 M G Rp), (5, w_X8_storeFact_133 M G Rp), (6, w_X8_storeFact_142 M G Rp), (7, w_X8_storeFact_150 M G Rp), (8, w_X8_storeFact_158 M G Rp), (9, w_X8_storeFact_163 M G Rp), (10, w_X8_storeFact_168 M G Rp), (11, w_X8_storeFact_173 M G Rp), (12, w_X8_storeFact_178 M G Rp), (13, w_X8_storeFact_186 M G Rp), (14, w_X8_storeFact_208 M G Rp), (15, w_X8_storeFact_216 M G Rp), (16, w_X8_storeFact_221 M G Rp)] (w_X8_storeFact_229 M G Rp)
def w_X8_storeFact_0 (M : CT) (G : Nat → PT) (Rp : RT) : PT := tIload 1 <| tFn 1 F_X11_isNoStore <| tIf (fun x => x = 0) (w_X8_storeFact_10 M G Rp) <| tConst (-2) <| tIret Rp
set_option maxRecDepth 20000 in
theorem b_X8_storeFact_229 {Z : Zt} {d : Nat} {p : Program} {e : Env} {R : Room} {s : State} {m : MethodId} {args : Array Value} {below : List Frame} {meth : Method} {c : Code} {Rp : RT} (C : Cx Z (d + 1) jX8_storeFact RX8 p R s m args meth c) : Sd Z jX8_storeFact p e R s m args below meth c (MQ below (QcS Z Rp) args s 0 0 (fun a => Z.2.2.1 < a)) 229 (w_X8_storeFact_229 (MS Z (d + 1)) (Gw Z 4 p e R s m args below meth c (MQ below (QcS Z Rp) args s 0 0 (fun a => Z.2.2.1 < a))) Rp) := by
  unfold w_X8_storeFact_229
  refine s_bipush (n := (-2)) C (by decide +kernel) (by decide) ?_
  exact s_iret C rfl (by decide +kernel)
set_option maxRecDepth 20000 in
theorem b_X8_storeFact_221 {Z : Zt} {d : Nat} {p : Program} {e : Env} {R : Room} {s : State} {m : MethodId} {args : Array Value} {below : List Frame} {meth : Method} {c : Code} {Rp : RT} (C : Cx Z (d + 1) jX8_storeFact RX8 p R s m args meth c) : Sd Z jX8_storeFact p e R s m args below meth c (MQ below (QcS Z Rp) args s 0 0 (fun a => Z.2.2.1 < a)) 221 (w_X8_storeFact_221 (MS Z (d + 1)) (Gw Z 4 p e R s m args below meth c (MQ below (QcS Z Rp) args s 0 0 (fun a => Z.2.2.1 < a))) Rp) := by
  unfold w_X8_storeFact_221
  refine s_aload_n (k := 3) C (by decide +kernel) ?_
  refine s_getR C w_2_36 (by decide +kernel) rfl ?_
  refine s_getI C w_1_207 (by decide +kernel) rfl ?_
  exact s_iret C rfl (by decide +kernel)
set_option maxRecDepth 20000 in
theorem b_X8_storeFact_216 {Z : Zt} {d : Nat} {p : Program} {e : Env} {R : Room} {s : State} {m : MethodId} {args : Array Value} {below : List Frame} {meth : Method} {c : Code} {Rp : RT} (C : Cx Z (d + 1) jX8_storeFact RX8 p R s m args meth c) : Sd Z jX8_storeFact p e R s m args below meth c (MQ below (QcS Z Rp) args s 0 0 (fun a => Z.2.2.1 < a)) 216 (w_X8_storeFact_216 (MS Z (d + 1)) (Gw Z 4 p e R s m args below meth c (MQ below (QcS Z Rp) args s 0 0 (fun a => Z.2.2.1 < a))) Rp) := by
  unfold w_X8_storeFact_216
  refine s_aload_n (k := 3) C (by decide +kernel) ?_
  refine s_getI C w_2_0 (by decide +kernel) rfl ?_
  exact s_iret C rfl (by decide +kernel)
set_option maxRecDepth 20000 in
theorem b_X8_storeFact_208 {Z : Zt} {d : Nat} {p : Program} {e : Env} {R : Room} {s : State} {m : MethodId} {args : Array Value} {below : List Frame} {meth : Method} {c : Code} {Rp : RT} (C : Cx Z (d + 1) jX8_storeFact RX8 p R s m args meth c) : Sd Z jX8_storeFact p e R s m args below meth c (MQ below (QcS Z Rp) args s 0 0 (fun a => Z.2.2.1 < a)) 208 (w_X8_storeFact_208 (MS Z (d + 1)) (Gw Z 4 p e R s m args below meth c (MQ below (QcS Z Rp) args s 0 0 (fun a => Z.2.2.1 < a))) Rp) := by
  unfold w_X8_storeFact_208
  refine s_aload_n (k := 3) C (by decide +kernel) ?_
  refine s_getR C w_2_36 (by decide +kernel) rfl ?_
  refine s_getI C w_1_203 (by decide +kernel) rfl ?_
  exact s_iret C rfl (by decide +kernel)
set_option maxRecDepth 20000 in
theorem b_X8_storeFact_207 {Z : Zt} {d : Nat} {p : Program} {e : Env} {R : Room} {s : State} {m : MethodId} {args : Array Value} {below : List Frame} {meth : Method} {c : Code} {Rp : RT} (C : Cx Z (d + 1) jX8_storeFact RX8 p R s m args meth c) : Sd Z jX8_storeFact p e R s m args below meth c (MQ below (QcS Z Rp) args s 0 0 (fun a => Z.2.2.1 < a)) 207 (w_X8_storeFact_207 (MS Z (d + 1)) (Gw Z 4 p e R s m args below meth c (MQ below (QcS Z Rp) args s 0 0 (fun a => Z.2.2.1 < a))) Rp) := by
  unfold w_X8_storeFact_207
  exact s_iret C rfl (by decide +kernel)
set_option maxRecDepth 20000 in
theorem b_X8_storeFact_200 {Z : Zt} {d : Nat} {p : Program} {e : Env} {R : Room} {s : State} {m : MethodId} {args : Array Value} {below : List Frame} {meth : Method} {c : Code} {Rp : RT} (C : Cx Z (d + 1) jX8_storeFact RX8 p R s m args meth c) : Sd Z jX8_storeFact p e R s m args below meth c (MQ below (QcS Z Rp) args s 0 0 (fun a => Z.2.2.1 < a)) 200 (w_X8_storeFact_200 (MS Z (d + 1)) (Gw Z 4 p e R s m args below meth c (MQ below (QcS Z Rp) args s 0 0 (fun a => Z.2.2.1 < a))) Rp) := by
  unfold w_X8_storeFact_200
  refine s_aload_n (k := 3) C (by decide +kernel) ?_
  refine s_getR C w_2_36 (by decide +kernel) rfl ?_
  refine s_getI C w_1_199 (by decide +kernel) rfl ?_
  exact (b_X8_storeFact_207 C)
set_option maxRecDepth 20000 in
theorem b_X8_storeFact_186 {Z : Zt} {d : Nat} {p : Program} {e : Env} {R : Room} {s : State} {m : MethodId} {args : Array Value} {below : List Frame} {meth : Method} {c : Code} {Rp : RT} (C : Cx Z (d + 1) jX8_storeFact RX8 p R s m args meth c) : Sd Z jX8_storeFact p e R s m args below meth c (MQ below (QcS Z Rp) args s 0 0 (fun a => Z.2.2.1 < a)) 186 (w_X8_storeFact_186 (MS Z (d + 1)) (Gw Z 4 p e R s m args below meth c (MQ below (QcS Z Rp) args s 0 0 (fun a => Z.2.2.1 < a))) Rp) := by
  unfold w_X8_storeFact_186
  refine s_aload_n (k := 3) C (by decide +kernel) ?_
  refine s_getR C w_2_36 (by decide +kernel) rfl ?_
  refine s_getI C w_1_195 (by decide +kernel) rfl ?_
  refine s_if_ne (off := 7) (tgt := 200) C (by decide +kernel) (by decide) (b_X8_storeFact_200 C) ?_
  refine s_iconst (n := (-1)) C (by decide +kernel) (by decide) ?_
  exact s_goto (off := 10) (tgt := 207) C (by decide +kernel) (by decide) (b_X8_storeFact_207 C)
set_option maxRecDepth 20000 in
theorem b_X8_storeFact_178 {Z : Zt} {d : Nat} {p : Program} {e : Env} {R : Room} {s : State} {m : MethodId} {args : Array Value} {below : List Frame} {meth : Method} {c : Code} {Rp : RT} (C : Cx Z (d + 1) jX8_storeFact RX8 p R s m args meth c) : Sd Z jX8_storeFact p e R s m args below meth c (MQ below (QcS Z Rp) args s 0 0 (fun a => Z.2.2.1 < a)) 178 (w_X8_storeFact_178 (MS Z (d + 1)) (Gw Z 4 p e R s m args below meth c (MQ below (QcS Z Rp) args s 0 0 (fun a => Z.2.2.1 < a))) Rp) := by
  unfold w_X8_storeFact_178
  refine s_aload_n (k := 3) C (by decide +kernel) ?_
  refine s_getR C w_2_36 (by decide +kernel) rfl ?_
  refine s_getI C w_1_195 (by decide +kernel) rfl ?_
  exact s_iret C rfl (by decide +kernel)
set_option maxRecDepth 20000 in
theorem b_X8_storeFact_173 {Z : Zt} {d : Nat} {p : Program} {e : Env} {R : Room} {s : State} {m : MethodId} {args : Array Value} {below : List Frame} {meth : Method} {c : Code} {Rp : RT} (C : Cx Z (d + 1) jX8_storeFact RX8 p R s m args meth c) : Sd Z jX8_storeFact p e R s m args below meth c (MQ below (QcS Z Rp) args s 0 0 (fun a => Z.2.2.1 < a)) 173 (w_X8_storeFact_173 (MS Z (d + 1)) (Gw Z 4 p e R s m args below meth c (MQ below (QcS Z Rp) args s 0 0 (fun a => Z.2.2.1 < a))) Rp) := by
  unfold w_X8_storeFact_173
  refine s_aload_n (k := 3) C (by decide +kernel) ?_
  refine s_getI C w_1_237 (by decide +kernel) rfl ?_
  exact s_iret C rfl (by decide +kernel)
set_option maxRecDepth 20000 in
theorem b_X8_storeFact_168 {Z : Zt} {d : Nat} {p : Program} {e : Env} {R : Room} {s : State} {m : MethodId} {args : Array Value} {below : List Frame} {meth : Method} {c : Code} {Rp : RT} (C : Cx Z (d + 1) jX8_storeFact RX8 p R s m args meth c) : Sd Z jX8_storeFact p e R s m args below meth c (MQ below (QcS Z Rp) args s 0 0 (fun a => Z.2.2.1 < a)) 168 (w_X8_storeFact_168 (MS Z (d + 1)) (Gw Z 4 p e R s m args below meth c (MQ below (QcS Z Rp) args s 0 0 (fun a => Z.2.2.1 < a))) Rp) := by
  unfold w_X8_storeFact_168
  refine s_aload_n (k := 3) C (by decide +kernel) ?_
  refine s_getI C w_2_16 (by decide +kernel) rfl ?_
  exact s_iret C rfl (by decide +kernel)
set_option maxRecDepth 20000 in
theorem b_X8_storeFact_163 {Z : Zt} {d : Nat} {p : Program} {e : Env} {R : Room} {s : State} {m : MethodId} {args : Array Value} {below : List Frame} {meth : Method} {c : Code} {Rp : RT} (C : Cx Z (d + 1) jX8_storeFact RX8 p R s m args meth c) : Sd Z jX8_storeFact p e R s m args below meth c (MQ below (QcS Z Rp) args s 0 0 (fun a => Z.2.2.1 < a)) 163 (w_X8_storeFact_163 (MS Z (d + 1)) (Gw Z 4 p e R s m args below meth c (MQ below (QcS Z Rp) args s 0 0 (fun a => Z.2.2.1 < a))) Rp) := by
  unfold w_X8_storeFact_163
  refine s_aload_n (k := 3) C (by decide +kernel) ?_
  refine s_getI C w_2_12 (by decide +kernel) rfl ?_
  exact s_iret C rfl (by decide +kernel)
set_option maxRecDepth 20000 in
theorem b_X8_storeFact_158 {Z : Zt} {d : Nat} {p : Program} {e : Env} {R : Room} {s : State} {m : MethodId} {args : Array Value} {below : List Frame} {meth : Method} {c : Code} {Rp : RT} (C : Cx Z (d + 1) jX8_storeFact RX8 p R s m args meth c) : Sd Z jX8_storeFact p e R s m args below meth c (MQ below (QcS Z Rp) args s 0 0 (fun a => Z.2.2.1 < a)) 158 (w_X8_storeFact_158 (MS Z (d + 1)) (Gw Z 4 p e R s m args below meth c (MQ below (QcS Z Rp) args s 0 0 (fun a => Z.2.2.1 < a))) Rp) := by
  unfold w_X8_storeFact_158
  refine s_aload_n (k := 3) C (by decide +kernel) ?_
  refine s_getI C w_2_7 (by decide +kernel) rfl ?_
  exact s_iret C rfl (by decide +kernel)
set_option maxRecDepth 20000 in
theorem b_X8_storeFact_150 {Z : Zt} {d : Nat} {p : Program} {e : Env} {R : Room} {s : State} {m : MethodId} {args : Array Value} {below : List Frame} {meth : Method} {c : Code} {Rp : RT} (C : Cx Z (d + 1) jX8_storeFact RX8 p R s m args meth c) : Sd Z jX8_storeFact p e R s m args below meth c (MQ below (QcS Z Rp) args s 0 0 (fun a => Z.2.2.1 < a)) 150 (w_X8_storeFact_150 (MS Z (d + 1)) (Gw Z 4 p e R s m args below meth c (MQ below (QcS Z Rp) args s 0 0 (fun a => Z.2.2.1 < a))) Rp) := by
  unfold w_X8_storeFact_150
  refine s_aload_n (k := 3) C (by decide +kernel) ?_
  refine s_getR C w_2_33 (by decide +kernel) rfl ?_
  refine s_getI C w_1_165 (by decide +kernel) rfl ?_
  exact s_iret C rfl (by decide +kernel)
set_option maxRecDepth 20000 in
theorem b_X8_storeFact_142 {Z : Zt} {d : Nat} {p : Program} {e : Env} {R : Room} {s : State} {m : MethodId} {args : Array Value} {below : List Frame} {meth : Method} {c : Code} {Rp : RT} (C : Cx Z (d + 1) jX8_storeFact RX8 p R s m args meth c) : Sd Z jX8_storeFact p e R s m args below meth c (MQ below (QcS Z Rp) args s 0 0 (fun a => Z.2.2.1 < a)) 142 (w_X8_storeFact_142 (MS Z (d + 1)) (Gw Z 4 p e R s m args below meth c (MQ below (QcS Z Rp) args s 0 0 (fun a => Z.2.2.1 < a))) Rp) := by
  unfold w_X8_storeFact_142
  refine s_aload_n (k := 3) C (by decide +kernel) ?_
  refine s_getR C w_2_33 (by decide +kernel) rfl ?_
  refine s_getI C w_1_161 (by decide +kernel) rfl ?_
  exact s_iret C rfl (by decide +kernel)
set_option maxRecDepth 20000 in
theorem b_X8_storeFact_133 {Z : Zt} {d : Nat} {p : Program} {e : Env} {R : Room} {s : State} {m : MethodId} {args : Array Value} {below : List Frame} {meth : Method} {c : Code} {Rp : RT} (C : Cx Z (d + 1) jX8_storeFact RX8 p R s m args meth c) : Sd Z jX8_storeFact p e R s m args below meth c (MQ below (QcS Z Rp) args s 0 0 (fun a => Z.2.2.1 < a)) 133 (w_X8_storeFact_133 (MS Z (d + 1)) (Gw Z 4 p e R s m args below meth c (MQ below (QcS Z Rp) args s 0 0 (fun a => Z.2.2.1 < a))) Rp) := by
  unfold w_X8_storeFact_133
  refine s_aload_n (k := 3) C (by decide +kernel) ?_
  refine s_aload_n (k := 3) C (by decide +kernel) ?_
  refine s_getI C w_2_3 (by decide +kernel) rfl ?_
  refine s_fnV C (j2 := jX7_termAt) (cl := 7) (nf := 18) rfl rfl (by decide +kernel) rfl w_5_95 w_3_130 w_3_131 w_1_5 w_3_132 (by decide +kernel) (fun _ _ _ _ _ h => f_X7_termAt h) (fun _ _ _ _ _ h => r_X7_termAt h) ?_
  exact s_iret C rfl (by decide +kernel)
set_option maxRecDepth 20000 in
theorem b_X8_storeFact_128 {Z : Zt} {d : Nat} {p : Program} {e : Env} {R : Room} {s : State} {m : MethodId} {args : Array Value} {below : List Frame} {meth : Method} {c : Code} {Rp : RT} (C : Cx Z (d + 1) jX8_storeFact RX8 p R s m args meth c) : Sd Z jX8_storeFact p e R s m args below meth c (MQ below (QcS Z Rp) args s 0 0 (fun a => Z.2.2.1 < a)) 128 (w_X8_storeFact_128 (MS Z (d + 1)) (Gw Z 4 p e R s m args below meth c (MQ below (QcS Z Rp) args s 0 0 (fun a => Z.2.2.1 < a))) Rp) := by
  unfold w_X8_storeFact_128
  refine s_aload_n (k := 3) C (by decide +kernel) ?_
  refine s_getI C w_2_3 (by decide +kernel) rfl ?_
  exact s_iret C rfl (by decide +kernel)
set_option maxRecDepth 20000 in
theorem b_X8_storeFact_123 {Z : Zt} {d : Nat} {p : Program} {e : Env} {R : Room} {s : State} {m : MethodId} {args : Array Value} {below : List Frame} {meth : Method} {c : Code} {Rp : RT} (C : Cx Z (d + 1) jX8_storeFact RX8 p R s m args meth c) : Sd Z jX8_storeFact p e R s m args below meth c (MQ below (QcS Z Rp) args s 0 0 (fun a => Z.2.2.1 < a)) 123 (w_X8_storeFact_123 (MS Z (d + 1)) (Gw Z 4 p e R s m args below meth c (MQ below (QcS Z Rp) args s 0 0 (fun a => Z.2.2.1 < a))) Rp) := by
  unfold w_X8_storeFact_123
  refine s_aload_n (k := 3) C (by decide +kernel) ?_
  refine s_getI C w_1_232 (by decide +kernel) rfl ?_
  exact s_iret C rfl (by decide +kernel)
set_option maxRecDepth 20000 in
theorem b_X8_storeFact_118 {Z : Zt} {d : Nat} {p : Program} {e : Env} {R : Room} {s : State} {m : MethodId} {args : Array Value} {below : List Frame} {meth : Method} {c : Code} {Rp : RT} (C : Cx Z (d + 1) jX8_storeFact RX8 p R s m args meth c) : Sd Z jX8_storeFact p e R s m args below meth c (MQ below (QcS Z Rp) args s 0 0 (fun a => Z.2.2.1 < a)) 118 (w_X8_storeFact_118 (MS Z (d + 1)) (Gw Z 4 p e R s m args below meth c (MQ below (QcS Z Rp) args s 0 0 (fun a => Z.2.2.1 < a))) Rp) := by
  unfold w_X8_storeFact_118
  refine s_aload_n (k := 3) C (by decide +kernel) ?_
  refine s_getI C w_1_229 (by decide +kernel) rfl ?_
  exact s_iret C rfl (by decide +kernel)
set_option maxRecDepth 20000 in
theorem b_X8_storeFact_113 {Z : Zt} {d : Nat} {p : Program} {e : Env} {R : Room} {s : State} {m : MethodId} {args : Array Value} {below : List Frame} {meth : Method} {c : Code} {Rp : RT} (C : Cx Z (d + 1) jX8_storeFact RX8 p R s m args meth c) : Sd Z jX8_storeFact p e R s m args below meth c (MQ below (QcS Z Rp) args s 0 0 (fun a => Z.2.2.1 < a)) 113 (w_X8_storeFact_113 (MS Z (d + 1)) (Gw Z 4 p e R s m args below meth c (MQ below (QcS Z Rp) args s 0 0 (fun a => Z.2.2.1 < a))) Rp) := by
  unfold w_X8_storeFact_113
  refine s_aload_n (k := 3) C (by decide +kernel) ?_
  refine s_getI C w_1_226 (by decide +kernel) rfl ?_
  exact s_iret C rfl (by decide +kernel)
set_option maxRecDepth 20000 in
theorem b_X8_storeFact_112 {Z : Zt} {d : Nat} {p : Program} {e : Env} {R : Room} {s : State} {m : MethodId} {args : Array Value} {below : List Frame} {meth : Method} {c : Code} {Rp : RT} (C : Cx Z (d + 1) jX8_storeFact RX8 p R s m args meth c) : Sd Z jX8_storeFact p e R s m args below meth c (MQ below (QcS Z Rp) args s 0 0 (fun a => Z.2.2.1 < a)) 112 (w_X8_storeFact_112 (MS Z (d + 1)) (Gw Z 4 p e R s m args below meth c (MQ below (QcS Z Rp) args s 0 0 (fun a => Z.2.2.1 < a))) Rp) := by
  unfold w_X8_storeFact_112
  exact s_iret C rfl (by decide +kernel)
set_option maxRecDepth 20000 in
theorem b_X8_storeFact_111 {Z : Zt} {d : Nat} {p : Program} {e : Env} {R : Room} {s : State} {m : MethodId} {args : Array Value} {below : List Frame} {meth : Method} {c : Code} {Rp : RT} (C : Cx Z (d + 1) jX8_storeFact RX8 p R s m args meth c) : Sd Z jX8_storeFact p e R s m args below meth c (MQ below (QcS Z Rp) args s 0 0 (fun a => Z.2.2.1 < a)) 111 (w_X8_storeFact_111 (MS Z (d + 1)) (Gw Z 4 p e R s m args below meth c (MQ below (QcS Z Rp) args s 0 0 (fun a => Z.2.2.1 < a))) Rp) := by
  unfold w_X8_storeFact_111
  refine s_iconst (n := 0) C (by decide +kernel) (by decide) ?_
  exact (b_X8_storeFact_112 C)
set_option maxRecDepth 20000 in
theorem b_X8_storeFact_100 {Z : Zt} {d : Nat} {p : Program} {e : Env} {R : Room} {s : State} {m : MethodId} {args : Array Value} {below : List Frame} {meth : Method} {c : Code} {Rp : RT} (C : Cx Z (d + 1) jX8_storeFact RX8 p R s m args meth c) : Sd Z jX8_storeFact p e R s m args below meth c (MQ below (QcS Z Rp) args s 0 0 (fun a => Z.2.2.1 < a)) 100 (w_X8_storeFact_100 (MS Z (d + 1)) (Gw Z 4 p e R s m args below meth c (MQ below (QcS Z Rp) args s 0 0 (fun a => Z.2.2.1 < a))) Rp) := by
  unfold w_X8_storeFact_100
  refine s_aload_n (k := 3) C (by decide +kernel) ?_
  refine s_getI C w_1_223 (by decide +kernel) rfl ?_
  refine s_if_eq (off := 7) (tgt := 111) C (by decide +kernel) (by decide) (b_X8_storeFact_111 C) ?_
  refine s_iconst (n := 1) C (by decide +kernel) (by decide) ?_
  exact s_goto (off := 4) (tgt := 112) C (by decide +kernel) (by decide) (b_X8_storeFact_112 C)
set_option maxRecDepth 20000 in
theorem b_X8_storeFact_10 {Z : Zt} {d : Nat} {p : Program} {e : Env} {R : Room} {s : State} {m : MethodId} {args : Array Value} {below : List Frame} {meth : Method} {c : Code} {Rp : RT} (C : Cx Z (d + 1) jX8_storeFact RX8 p R s m args meth c) : Sd Z jX8_storeFact p e R s m args below meth c (MQ below (QcS Z Rp) args s 0 0 (fun a => Z.2.2.1 < a)) 10 (w_X8_storeFact_10 (MS Z (d + 1)) (Gw Z 4 p e R s m args below meth c (MQ below (QcS Z Rp) args s 0 0 (fun a => Z.2.2.1 < a))) Rp) := by
  unfold w_X8_storeFact_10
  refine s_aload_n (k := 0) C (by decide +kernel) ?_
  refine s_getR C w_2_114 (by decide +kernel) rfl ?_
  refine s_iload_n (k := 1) C (by decide +kernel) ?_
  refine s_aald C rfl (by decide +kernel) ?_
  refine s_astore_n (k := 3) C (by decide +kernel) ?_
  refine s_iload_n (k := 2) C (by decide +kernel) ?_
  refine s_tsw (df := 211) (lo := 0) (hi := 16) (offs := #[82, 95, 100, 105, 110, 115, 124, 132, 140, 145, 150, 155, 160, 168, 190, 198, 203]) (len := 82) (tgt := 229) C (by decide +kernel) (by decide) (b_X8_storeFact_229 C) (fun i r h => ?_) (fun x h => tsw_out 17 x (fun q hq => ?_))
  · match i, h with
    | 0, h => cases h; dsimp only; exact ⟨by decide, by decide, 82, 100, by rfl, by decide, (b_X8_storeFact_100 C)⟩
    | 1, h => cases h; dsimp only; exact ⟨by decide, by decide, 95, 113, by rfl, by decide, (b_X8_storeFact_113 C)⟩
    | 2, h => cases h; dsimp only; exact ⟨by decide, by decide, 100, 118, by rfl, by decide, (b_X8_storeFact_118 C)⟩
    | 3, h => cases h; dsimp only; exact ⟨by decide, by decide, 105, 123, by rfl, by decide, (b_X8_storeFact_123 C)⟩
    | 4, h => cases h; dsimp only; exact ⟨by decide, by decide, 110, 128, by rfl, by decide, (b_X8_storeFact_128 C)⟩
    | 5, h => cases h; dsimp only; exact ⟨by decide, by decide, 115, 133, by rfl, by decide, (b_X8_storeFact_133 C)⟩
    | 6, h => cases h; dsimp only; exact ⟨by decide, by decide, 124, 142, by rfl, by decide, (b_X8_storeFact_142 C)⟩
    | 7, h => cases h; dsimp only; exact ⟨by decide, by decide, 132, 150, by rfl, by decide, (b_X8_storeFact_150 C)⟩
    | 8, h => cases h; dsimp only; exact ⟨by decide, by decide, 140, 158, by rfl, by decide, (b_X8_storeFact_158 C)⟩
    | 9, h => cases h; dsimp only; exact ⟨by decide, by decide, 145, 163, by rfl, by decide, (b_X8_storeFact_163 C)⟩
    | 10, h => cases h; dsimp only; exact ⟨by decide, by decide, 150, 168, by rfl, by decide, (b_X8_storeFact_168 C)⟩
    | 11, h => cases h; dsimp only; exact ⟨by decide, by decide, 155, 173, by rfl, by decide, (b_X8_storeFact_173 C)⟩
    | 12, h => cases h; dsimp only; exact ⟨by decide, by decide, 160, 178, by rfl, by decide, (b_X8_storeFact_178 C)⟩
    | 13, h => cases h; dsimp only; exact ⟨by decide, by decide, 168, 186, by rfl, by decide, (b_X8_storeFact_186 C)⟩
    | 14, h => cases h; dsimp only; exact ⟨by decide, by decide, 190, 208, by rfl, by decide, (b_X8_storeFact_208 C)⟩
    | 15, h => cases h; dsimp only; exact ⟨by decide, by decide, 198, 216, by rfl, by decide, (b_X8_storeFact_216 C)⟩
    | 16, h => cases h; dsimp only; exact ⟨by decide, by decide, 203, 221, by rfl, by decide, (b_X8_storeFact_221 C)⟩
    | q + 17, h => simp at h
  · match q, hq with
    | 0, _ => exact h _ (List.mem_of_getElem? (i := 0) rfl)
    | 1, _ => exact h _ (List.mem_of_getElem? (i := 1) rfl)
    | 2, _ => exact h _ (List.mem_of_getElem? (i := 2) rfl)
    | 3, _ => exact h _ (List.mem_of_getElem? (i := 3) rfl)
    | 4, _ => exact h _ (List.mem_of_getElem? (i := 4) rfl)
    | 5, _ => exact h _ (List.mem_of_getElem? (i := 5) rfl)
    | 6, _ => exact h _ (List.mem_of_getElem? (i := 6) rfl)
    | 7, _ => exact h _ (List.mem_of_getElem? (i := 7) rfl)
    | 8, _ => exact h _ (List.mem_of_getElem? (i := 8) rfl)
    | 9, _ => exact h _ (List.mem_of_getElem? (i := 9) rfl)
    | 10, _ => exact h _ (List.mem_of_getElem? (i := 10) rfl)
    | 11, _ => exact h _ (List.mem_of_getElem? (i := 11) rfl)
    | 12, _ => exact h _ (List.mem_of_getElem? (i := 12) rfl)
    | 13, _ => exact h _ (List.mem_of_getElem? (i := 13) rfl)
    | 14, _ => exact h _ (List.mem_of_getElem? (i := 14) rfl)
    | 15, _ => exact h _ (List.mem_of_getElem? (i := 15) rfl)
    | 16, _ => exact h _ (List.mem_of_getElem? (i := 16) rfl)
    | q + 17, hq => exact absurd hq (by omega)
set_option maxRecDepth 20000 in
theorem b_X8_storeFact_0 {Z : Zt} {d : Nat} {p : Program} {e : Env} {R : Room} {s : State} {m : MethodId} {args : Array Value} {below : List Frame} {meth : Method} {c : Code} {Rp : RT} (C : Cx Z (d + 1) jX8_storeFact RX8 p R s m args meth c) : Sd Z jX8_storeFact p e R s m args below meth c (MQ below (QcS Z Rp) args s 0 0 (fun a => Z.2.2.1 < a)) 0 (w_X8_storeFact_0 (MS Z (d + 1)) (Gw Z 4 p e R s m args below meth c (MQ below (QcS Z Rp) args s 0 0 (fun a => Z.2.2.1 < a))) Rp) := by
  unfold w_X8_storeFact_0
  refine s_iload_n (k := 1) C (by decide +kernel) ?_
  refine s_fnSN C (j2 := jX11_isNoStore) (by decide +kernel) rfl w_5_94 w_3_103 w_1_1 w_3_104 (by decide +kernel) (fun _ _ _ _ _ h => f_X11_isNoStore h) ?_
  refine s_if_eq (off := 6) (tgt := 10) C (by decide +kernel) (by decide) (b_X8_storeFact_10 C) ?_
  refine s_bipush (n := (-2)) C (by decide +kernel) (by decide) ?_
  exact s_iret C rfl (by decide +kernel)
theorem ms_X8_storeFact {Z : Zt} {d : Nat} {S : Sh} {μ : Mi} {ρ : Mr} {Rp : RT} (a1 : Nat) (x2 : Int32) (x3 : Int32) (h : ∀ G : Nat → PT, w_X8_storeFact_0 (MS Z (d + 1)) G Rp [.ref a1, .int x2, .int x3, .null] [] S (0, 0) μ ρ) : MS Z (d + 2) jX8_storeFact [.ref a1, .int x2, .int x3] S μ ρ Rp :=
  MS_of [.ref a1, .int x2, .int x3, .null] (by decide +kernel) rfl rfl (Nat.le_of_ble_eq_true rfl) rfl (fun p e R s m args below meth c C => b_X8_storeFact_0 C _ _ _ _ _ _ (h _ ))
def F_X8_storeFact : FT := fun As S μ ρ k => match As with
  | [.ref a, .int n, .int w] => S.2 a = (10, 6) ∧ ∃ A : Rw, RR A a S μ ρ ∧ k (some (.int (vStore A n w))) μ
  | _ => False
set_option maxHeartbeats 1000000 in
theorem f_X8_storeFact {Z : Zt} {d : Nat} {As : List Value} {S : Sh} {μ : Mi} {ρ : Mr} {Rp : RT} (h : F_X8_storeFact As S μ ρ (fun r μ' => Rp r S μ' ρ)) : MS Z (d + 2) jX8_storeFact As S μ ρ Rp := by
  unfold F_X8_storeFact at h
  split at h
  · rename_i a n w
    obtain ⟨a, hNa⟩ : ∃ n : Nat, n = a := ⟨a, rfl⟩
    subst hNa
    obtain ⟨h1, A, hR, h⟩ := h
    unfold vStore at h
    refine ms_X8_storeFact _ _ _ (fun G => ?_)
    have hW := RR_W hR
    simp only [w_X8_storeFact_0, tAload, tIload, nth, tGetI, tGetR, tConst, tLconst, tBin, tUn, tI2l, tAld, tAldR, tAlen, tIast, tBast, tZast, tAast, tIret, tZret, tVret, tAret, tIf, tIf2, tGoto, tIstore, tAstore, sset, tIinc, tDup, tDup2, tPop, tPutI, tPutZ, tPutR, tCallV, tCallS, popN, tFn, tCopy, tMax, tMin, tSw, swc, tRem, tObjI, Option.toList, List.nil_append, List.cons_append, okR, true_and, and_true, true_or, or_true, Nat.zero_le, ne_eq, not_false_eq_true, Nat.reduceEqDiff, F_X11_isNoStore, b2_z, h1, Decidable.not_not]
    refine ⟨fun c => ?_, fun c => ?_⟩
    rotate_left
    · rw [if_pos (fun z => c z.1)] at h; exact h
    obtain ⟨s, rfl, s0, -, s5⟩ := rg_ex (lo := 0) (hi := 4) c
    have hs : s < 5 := by omega
    rw [nI_clamp s0] at h
    obtain ⟨x1, x2, x3⟩ := W_st hW hs
    have x2' := x2
    unfold StS at x2
    have hSt := RR_st hR hs
    have hA := hSt.1
    unfold StA at hA
    simp only [w_X8_storeFact_10, w_X8_storeFact_100, w_X8_storeFact_111, w_X8_storeFact_112, w_X8_storeFact_113, w_X8_storeFact_118, w_X8_storeFact_123, w_X8_storeFact_128, w_X8_storeFact_133, w_X8_storeFact_142, w_X8_storeFact_150, w_X8_storeFact_158, w_X8_storeFact_163, w_X8_storeFact_168, w_X8_storeFact_173, w_X8_storeFact_178, w_X8_storeFact_186, w_X8_storeFact_200, w_X8_storeFact_207, w_X8_storeFact_208, w_X8_storeFact_216, w_X8_storeFact_221, w_X8_storeFact_229, tAload, tIload, nth, tGetI, tGetR, tConst, tLconst, tBin, tUn, tI2l, tAld, tAldR, tAlen, tIast, tBast, tZast, tAast, tIret, tZret, tVret, tAret, tIf, tIf2, tGoto, tIstore, tAstore, sset, tIinc, tDup, tDup2, tPop, tPutI, tPutZ, tPutR, tCallV, tCallS, popN, tFn, tCopy, tMax, tMin, tSw, swc, tRem, tObjI, Option.toList, List.nil_append, List.cons_append, okR, true_and, and_true, true_or, or_true, Nat.zero_le, ne_eq, not_false_eq_true, Nat.reduceEqDiff, F_X7_termAt, h1, hW.2.2.2.2.1, hW.2.1, nI_clamp s0, x3, x1, x2, x2', inb_nI hs (show (5 : Nat) < 2 ^ 31 by decide), hA, hSt.2.2.2.2.1, hSt.2.2.2.2.2.1, hSt.2.2.2.2.2.2]
    have bad : ¬ rgd w 0 16 → Rp (some (.int (-2))) S μ ρ := fun z => by rw [if_pos (fun y => z y.2)] at h; exact h
    have ok : rgd w 0 16 → Rp (some (.int (vTold A s w))) S μ ρ := fun z => by rw [if_neg (not_not_intro ⟨c, z⟩)] at h; exact h
    clear h
    unfold vTold at ok
    refine ⟨by omega, fun c0 => ⟨fun z => ?_, fun z => ?_⟩, fun c0 => ⟨fun c1 => ?_, fun c1 => ⟨fun c2 => ?_, fun c2 => ⟨fun c3 => ?_, fun c3 => ⟨fun c4 => ?_, fun c4 => ⟨fun c5 => ⟨hSt.2.1.2.2.1.1, hSt.2.1.2.1.2, ?_⟩, fun c5 => ⟨fun c6 => ?_, fun c6 => ⟨fun c7 => ?_, fun c7 => ⟨fun c8 => ?_, fun c8 => ⟨fun c9 => ?_, fun c9 => ⟨fun c10 => ?_, fun c10 => ⟨fun c11 => ?_, fun c11 => ⟨fun c12 => ?_, fun c12 => ⟨fun c13 => ⟨fun z => ?_, fun z => ?_⟩, fun c13 => ⟨fun c14 => ?_, fun c14 => ⟨fun c15 => ?_, fun c15 => ⟨fun c16 => ?_, fun c16 => ?_⟩⟩⟩⟩⟩⟩⟩⟩⟩⟩⟩⟩⟩⟩⟩⟩⟩
    · subst c0
      have := ok ⟨by decide, by decide⟩
      rw [if_pos (by decide), show 514 * s + (0 : Int32).toNatClampNeg = 514 * s from rfl, z] at this; exact this
    · subst c0
      have := ok ⟨by decide, by decide⟩
      rw [if_pos (by decide), show 514 * s + (0 : Int32).toNatClampNeg = 514 * s from rfl, hSt.2.1.1.elim (fun y => absurd y z) id] at this; exact this
    · subst c1
      have := ok ⟨by decide, by decide⟩
      rw [if_pos (by decide)] at this; exact this
    · subst c2
      have := ok ⟨by decide, by decide⟩
      rw [if_pos (by decide)] at this; exact this
    · subst c3
      have := ok ⟨by decide, by decide⟩
      rw [if_pos (by decide)] at this; exact this
    · subst c4
      have := ok ⟨by decide, by decide⟩
      rw [if_pos (by decide)] at this; exact this
    · subst c5
      have := ok ⟨by decide, by decide⟩
      rw [if_neg (by decide), if_pos rfl, ← St_termAt hSt] at this; exact this
    · subst c6
      have := ok ⟨by decide, by decide⟩
      rw [if_neg (by decide), if_neg (by decide), if_pos rfl] at this; exact this
    · subst c7
      have := ok ⟨by decide, by decide⟩
      rw [if_neg (by decide), if_neg (by decide), if_neg (by decide), if_pos rfl] at this; exact this
    · subst c8
      have := ok ⟨by decide, by decide⟩
      rw [if_neg (by decide), if_neg (by decide), if_neg (by decide), if_neg (by decide), if_pos rfl] at this; exact this
    · subst c9
      have := ok ⟨by decide, by decide⟩
      rw [if_neg (by decide), if_neg (by decide), if_neg (by decide), if_neg (by decide), if_neg (by decide), if_pos rfl] at this; exact this
    · subst c10
      have := ok ⟨by decide, by decide⟩
      rw [if_neg (by decide), if_neg (by decide), if_neg (by decide), if_neg (by decide), if_neg (by decide), if_neg (by decide), if_pos rfl] at this; exact this
    · subst c11
      have := ok ⟨by decide, by decide⟩
      rw [if_neg (by decide), if_neg (by decide), if_neg (by decide), if_neg (by decide), if_neg (by decide), if_neg (by decide), if_neg (by decide), if_pos rfl] at this; exact this
    · subst c12
      have := ok ⟨by decide, by decide⟩
      rw [if_neg (by decide), if_neg (by decide), if_neg (by decide), if_neg (by decide), if_neg (by decide), if_neg (by decide), if_neg (by decide), if_neg (by decide), if_pos rfl] at this; exact this
    · subst c13
      have := ok ⟨by decide, by decide⟩
      rw [if_neg (by decide), if_neg (by decide), if_neg (by decide), if_neg (by decide), if_neg (by decide), if_neg (by decide), if_neg (by decide), if_neg (by decide), if_neg (by decide), if_pos rfl, if_neg z] at this; exact this
    · subst c13
      have := ok ⟨by decide, by decide⟩
      rw [if_neg (by decide), if_neg (by decide), if_neg (by decide), if_neg (by decide), if_neg (by decide), if_neg (by decide), if_neg (by decide), if_neg (by decide), if_neg (by decide), if_pos rfl, if_pos (Classical.not_not.mp z)] at this; exact this
    · subst c14
      have := ok ⟨by decide, by decide⟩
      rw [if_neg (by decide), if_neg (by decide), if_neg (by decide), if_neg (by decide), if_neg (by decide), if_neg (by decide), if_neg (by decide), if_neg (by decide), if_neg (by decide), if_neg (by decide), if_pos rfl] at this; exact this
    · subst c15
      have := ok ⟨by decide, by decide⟩
      rw [if_neg (by decide), if_neg (by decide), if_neg (by decide), if_neg (by decide), if_neg (by decide), if_neg (by decide), if_neg (by decide), if_neg (by decide), if_neg (by decide), if_neg (by decide), if_neg (by decide), if_pos rfl] at this; exact this
    · subst c16
      have := ok ⟨by decide, by decide⟩
      rw [if_neg (by decide), if_neg (by decide), if_neg (by decide), if_neg (by decide), if_neg (by decide), if_neg (by decide), if_neg (by decide), if_neg (by decide), if_neg (by decide), if_neg (by decide), if_neg (by decide), if_neg (by decide)] at this; exact this
    · refine bad (fun z => ?_)
      obtain ⟨m, m1, m2, -, m3⟩ := rg_ex (lo := 0) (hi := 16) z
      subst m1
      rcases (by omega : m = 0 ∨ m = 1 ∨ m = 2 ∨ m = 3 ∨ m = 4 ∨ m = 5 ∨ m = 6 ∨ m = 7 ∨ m = 8 ∨ m = 9 ∨ m = 10 ∨ m = 11 ∨ m = 12 ∨ m = 13 ∨ m = 14 ∨ m = 15 ∨ m = 16) with y | y | y | y | y | y | y | y | y | y | y | y | y | y | y | y | y <;> subst y
      · exact c0 rfl
      · exact c1 rfl
      · exact c2 rfl
      · exact c3 rfl
      · exact c4 rfl
      · exact c5 rfl
      · exact c6 rfl
      · exact c7 rfl
      · exact c8 rfl
      · exact c9 rfl
      · exact c10 rfl
      · exact c11 rfl
      · exact c12 rfl
      · exact c13 rfl
      · exact c14 rfl
      · exact c15 rfl
      · exact c16 rfl
  · exact h.elim
