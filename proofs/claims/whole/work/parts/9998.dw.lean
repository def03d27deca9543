/-! ===== the class: back, images, on paper ===== -/
def KP (μ μ' : Mi) : Prop := ∀ y : Nat, (y < 176 ∨ 856 ≤ y) → μ' y = μ y
def KPr (ρ ρ' : Mr) : Prop := ∀ y : Nat, (y < 176 ∨ 856 ≤ y) → ρ' y = ρ y
theorem TC_pap {A : Rw} {u : Nat} {D : Nat → Rw} {S : Sh} {μ μ' : Mi} {ρ ρ' : Mr} (h : TC A u D S μ ρ) (hn : anyW 176 S μ' ρ') (ho : Ot 176 μ μ') (hr : Orf 176 ρ ρ') : TC A u D S μ' ρ' := by
  obtain ⟨hT, hR, sp, e6, hsp, e7, hu, hD⟩ := h
  have e1 : μ' 1 = μ 1 := ho 1 (by omega)
  exact ⟨TW_v hT (Or.inr (Or.inl rfl)) hn ho hr, RR_far hR (by unfold apW; omega) ho hr, sp, by rw [e1]; exact e6, hsp, by rw [e1]; exact e7, hu, fun j hj => RR_far (hD j hj) (by unfold apW; omega) ho hr⟩
def w_X11_then_0 (M : CT) (G : Nat → PT) (Rp : RT) : PT := tAload 0 <| tGetR 11 11 3 <| tAload 0 <| tGetR 11 11 0 <| tIload 1 <| tIload 2 <| tFn2 4 F_X3_factThen <| tIret Rp
set_option maxRecDepth 20000 in
theorem b_X11_then_0 {Z : Zt} {d : Nat} {p : Program} {e : Env} {R : Room} {s : State} {m : MethodId} {args : Array Value} {below : List Frame} {meth : Method} {c : Code} {Rp : RT} (C : Cx Z (d + 7) jX11_then RX11 p R s m args meth c) : Sd Z jX11_then p e R s m args below meth c (MQ below (QcS Z Rp) args s 0 0 (fun a => Z.2.2.1 < a)) 0 (w_X11_then_0 (MS Z (d + 7)) (Gw Z 3 p e R s m args below meth c (MQ below (QcS Z Rp) args s 0 0 (fun a => Z.2.2.1 < a))) Rp) := by
  unfold w_X11_then_0
  refine s_aload_n (k := 0) C (by decide +kernel) ?_
  refine s_getR C w_2_237 (by decide +kernel) rfl ?_
  refine s_aload_n (k := 0) C (by decide +kernel) ?_
  refine s_getR C w_2_234 (by decide +kernel) rfl ?_
  refine s_iload_n (k := 1) C (by decide +kernel) ?_
  refine s_iload_n (k := 2) C (by decide +kernel) ?_
  refine s_fnV2 C (j2 := jX3_factThen) (cl := 3) (nf := 2) rfl rfl (by decide +kernel) rfl w_5_226 w_5_227 w_5_228 w_1_10 w_5_229 (by decide +kernel) (fun _ _ _ _ _ h => f_X3_factThen h) (fun _ _ _ _ _ h => r_X3_factThen h) ?_
  exact s_iret C rfl (by decide +kernel)
theorem ms_X11_then {Z : Zt} {d : Nat} {S : Sh} {μ : Mi} {ρ : Mr} {Rp : RT} (a0 : Nat) (x1 : Int32) (x2 : Int32) (h : ∀ G : Nat → PT, w_X11_then_0 (MS Z (d + 7)) G Rp [.ref a0, .int x1, .int x2] [] S (0, 0) μ ρ) : MS Z (d + 8) jX11_then [.ref a0, .int x1, .int x2] S μ ρ Rp :=
  MS_of [.ref a0, .int x1, .int x2] (by decide +kernel) rfl rfl (Nat.le_of_ble_eq_true rfl) rfl (fun p e R s m args below meth c C => b_X11_then_0 C _ _ _ _ _ _ (h _ ))
def F_X11_then : FT2 := fun As S μ ρ k => match As with
  | [.ref a, .int s, .int x] => S.2 a = (11, 11) ∧ a = 1 ∧ ∃ (A : Rw) (u : Nat) (D : Nat → Rw), TC A u D S μ ρ ∧ Gd A ∧ ∀ (μ' : Mi) (ρ' : Mr), TC A u D S μ' ρ' → KP μ μ' → KPr ρ ρ' → k (some (.int (vThen A s x))) μ' ρ'
  | _ => False
theorem r_X11_then {As S μ ρ k} (h : F_X11_then As S μ ρ k) : ∃ a As', As = Value.ref a :: As' ∧ S.2 a = (11, 11) := by
  unfold F_X11_then at h
  split at h
  · exact ⟨_, _, rfl, h.1⟩
  · exact h.elim
set_option maxHeartbeats 1000000 in
theorem f_X11_then {Z : Zt} {d : Nat} {As : List Value} {S : Sh} {μ : Mi} {ρ : Mr} {Rp : RT} (h : F_X11_then As S μ ρ (fun r μ' ρ' => Rp r S μ' ρ')) : MS Z (d + 8) jX11_then As S μ ρ Rp := by
  unfold F_X11_then at h
  split at h
  · rename_i a s x
    obtain ⟨h1, rfl, A, u, D, hT, hG, h⟩ := h
    refine ms_X11_then _ _ _ (fun G => ?_)
    have hr := hT.1.2.1
    have hR := hT.2.1
    have i1 := (RR_W hR).2.1.1
    have hP := hT.1.2.2.2.2.1
    have hp1 := hP.1
    have hS : Sht 174 S μ ρ := hT.1.2.2.2.2.2.1
    have hap : apP 174 2 := by unfold apP; omega
    simp only [w_X11_then_0, tAload, tIload, nth, tGetI, tGetR, tConst, tLconst, tBin, tUn, tI2l, tAld, tAldR, tAlen, tIast, tBast, tZast, tAast, tIret, tZret, tVret, tAret, tIf, tIf2, tGoto, tIstore, tAstore, sset, tIinc, tDup, tDup2, tPop, tPutI, tPutZ, tPutR, tCallV, tCallS, popN, tFn, tCopy, tMax, tMin, tSw, swc, tRem, tObjI, Option.toList, List.nil_append, List.cons_append, okR, true_and, and_true, true_or, or_true, Nat.zero_le, ne_eq, not_false_eq_true, Nat.reduceEqDiff, tFn2, F_X3_factThen, h1, hr, i1, hp1]
    exact ⟨hP, hS, hap, A, hR, hG, fun μ' ρ' q o f => h μ' ρ' (TC_pap hT q o f) (fun y hy => o y (by omega)) (fun y hy => f y (by omega))⟩
  · exact h.elim
def w_X11_rounds_0 (M : CT) (G : Nat → PT) (Rp : RT) : PT := tAload 0 <| tGetR 11 11 3 <| tAload 0 <| tGetR 11 11 0 <| tFn2 2 F_X3_roundsNeeded <| tIret Rp
set_option maxRecDepth 20000 in
theorem b_X11_rounds_0 {Z : Zt} {d : Nat} {p : Program} {e : Env} {R : Room} {s : State} {m : MethodId} {args : Array Value} {below : List Frame} {meth : Method} {c : Code} {Rp : RT} (C : Cx Z (d + 7) jX11_rounds RX11 p R s m args meth c) : Sd Z jX11_rounds p e R s m args below meth c (MQ below (QcS Z Rp) args s 0 0 (fun a => Z.2.2.1 < a)) 0 (w_X11_rounds_0 (MS Z (d + 7)) (Gw Z 1 p e R s m args below meth c (MQ below (QcS Z Rp) args s 0 0 (fun a => Z.2.2.1 < a))) Rp) := by
  unfold w_X11_rounds_0
  refine s_aload_n (k := 0) C (by decide +kernel) ?_
  refine s_getR C w_2_237 (by decide +kernel) rfl ?_
  refine s_aload_n (k := 0) C (by decide +kernel) ?_
  refine s_getR C w_2_234 (by decide +kernel) rfl ?_
  refine s_fnV2 C (j2 := jX3_roundsNeeded) (cl := 3) (nf := 2) rfl rfl (by decide +kernel) rfl w_6_3 w_6_4 w_6_5 w_1_10 w_6_6 (by decide +kernel) (fun _ _ _ _ _ h => f_X3_roundsNeeded h) (fun _ _ _ _ _ h => r_X3_roundsNeeded h) ?_
  exact s_iret C rfl (by decide +kernel)
theorem ms_X11_rounds {Z : Zt} {d : Nat} {S : Sh} {μ : Mi} {ρ : Mr} {Rp : RT} (a0 : Nat) (h : ∀ G : Nat → PT, w_X11_rounds_0 (MS Z (d + 7)) G Rp [.ref a0] [] S (0, 0) μ ρ) : MS Z (d + 8) jX11_rounds [.ref a0] S μ ρ Rp :=
  MS_of [.ref a0] (by decide +kernel) rfl rfl (Nat.le_of_ble_eq_true rfl) rfl (fun p e R s m args below meth c C => b_X11_rounds_0 C _ _ _ _ _ _ (h _ ))
def F_X11_rounds : FT2 := fun As S μ ρ k => match As with
  | [.ref a] => S.2 a = (11, 11) ∧ a = 1 ∧ ∃ (A : Rw) (u : Nat) (D : Nat → Rw), TC A u D S μ ρ ∧ Gd A ∧ ∀ (μ' : Mi) (ρ' : Mr), TC A u D S μ' ρ' → KP μ μ' → KPr ρ ρ' → k (some (.int (vRounds A))) μ' ρ'
  | _ => False
theorem r_X11_rounds {As S μ ρ k} (h : F_X11_rounds As S μ ρ k) : ∃ a As', As = Value.ref a :: As' ∧ S.2 a = (11, 11) := by
  unfold F_X11_rounds at h
  split at h
  · exact ⟨_, _, rfl, h.1⟩
  · exact h.elim
set_option maxHeartbeats 1000000 in
theorem f_X11_rounds {Z : Zt} {d : Nat} {As : List Value} {S : Sh} {μ : Mi} {ρ : Mr} {Rp : RT} (h : F_X11_rounds As S μ ρ (fun r μ' ρ' => Rp r S μ' ρ')) : MS Z (d + 8) jX11_rounds As S μ ρ Rp := by
  unfold F_X11_rounds at h
  split at h
  · rename_i a
    obtain ⟨h1, rfl, A, u, D, hT, hG, h⟩ := h
    refine ms_X11_rounds _ (fun G => ?_)
    have hr := hT.1.2.1
    have hR := hT.2.1
    have i1 := (RR_W hR).2.1.1
    have hP := hT.1.2.2.2.2.1
    have hp1 := hP.1
    have hS : Sht 174 S μ ρ := hT.1.2.2.2.2.2.1
    have hap : apP 174 2 := by unfold apP; omega
    simp only [w_X11_rounds_0, tAload, tIload, nth, tGetI, tGetR, tConst, tLconst, tBin, tUn, tI2l, tAld, tAldR, tAlen, tIast, tBast, tZast, tAast, tIret, tZret, tVret, tAret, tIf, tIf2, tGoto, tIstore, tAstore, sset, tIinc, tDup, tDup2, tPop, tPutI, tPutZ, tPutR, tCallV, tCallS, popN, tFn, tCopy, tMax, tMin, tSw, swc, tRem, tObjI, Option.toList, List.nil_append, List.cons_append, okR, true_and, and_true, true_or, or_true, Nat.zero_le, ne_eq, not_false_eq_true, Nat.reduceEqDiff, tFn2, F_X3_roundsNeeded, h1, hr, i1, hp1]
    exact ⟨hP, hS, hap, A, hR, hG, fun μ' ρ' q o f => h μ' ρ' (TC_pap hT q o f) (fun y hy => o y (by omega)) (fun y hy => f y (by omega))⟩
  · exact h.elim
def w_X11_storm_26 (M : CT) (G : Nat → PT) (Rp : RT) : PT := tIret Rp
def w_X11_storm_14 (M : CT) (G : Nat → PT) (Rp : RT) : PT := tAload 0 <| tGetR 11 11 3 <| tAload 0 <| tGetR 11 11 0 <| tIload 1 <| tFn2 3 F_X3_stormOf <| w_X11_storm_26 M G Rp
def w_X11_storm_9 (M : CT) (G : Nat → PT) (Rp : RT) : PT := tConst (-2) <| tGoto (w_X11_storm_26 M G Rp)
def w_X11_storm_0 (M : CT) (G : Nat → PT) (Rp : RT) : PT := tIload 1 <| tIf (fun x => x < 0) (w_X11_storm_9 M G Rp) <| tIload 1 <| tConst 1 <| tIf2 (fun x y => x ≤ y) (w_X11_storm_14 M G Rp) <| w_X11_storm_9 M G Rp
set_option maxRecDepth 20000 in
theorem b_X11_storm_26 {Z : Zt} {d : Nat} {p : Program} {e : Env} {R : Room} {s : State} {m : MethodId} {args : Array Value} {below : List Frame} {meth : Method} {c : Code} {Rp : RT} (C : Cx Z (d + 7) jX11_storm RX11 p R s m args meth c) : Sd Z jX11_storm p e R s m args below meth c (MQ below (QcS Z Rp) args s 0 0 (fun a => Z.2.2.1 < a)) 26 (w_X11_storm_26 (MS Z (d + 7)) (Gw Z 2 p e R s m args below meth c (MQ below (QcS Z Rp) args s 0 0 (fun a => Z.2.2.1 < a))) Rp) := by
  unfold w_X11_storm_26
  exact s_iret C rfl (by decide +kernel)
set_option maxRecDepth 20000 in
theorem b_X11_storm_14 {Z : Zt} {d : Nat} {p : Program} {e : Env} {R : Room} {s : State} {m : MethodId} {args : Array Value} {below : List Frame} {meth : Method} {c : Code} {Rp : RT} (C : Cx Z (d + 7) jX11_storm RX11 p R s m args meth c) : Sd Z jX11_storm p e R s m args below meth c (MQ below (QcS Z Rp) args s 0 0 (fun a => Z.2.2.1 < a)) 14 (w_X11_storm_14 (MS Z (d + 7)) (Gw Z 2 p e R s m args below meth c (MQ below (QcS Z Rp) args s 0 0 (fun a => Z.2.2.1 < a))) Rp) := by
  unfold w_X11_storm_14
  refine s_aload_n (k := 0) C (by decide +kernel) ?_
  refine s_getR C w_2_237 (by decide +kernel) rfl ?_
  refine s_aload_n (k := 0) C (by decide +kernel) ?_
  refine s_getR C w_2_234 (by decide +kernel) rfl ?_
  refine s_iload_n (k := 1) C (by decide +kernel) ?_
  refine s_fnV2 C (j2 := jX3_stormOf) (cl := 3) (nf := 2) rfl rfl (by decide +kernel) rfl w_5_235 w_5_236 w_5_237 w_1_10 w_5_238 (by decide +kernel) (fun _ _ _ _ _ h => f_X3_stormOf h) (fun _ _ _ _ _ h => r_X3_stormOf h) ?_
  exact (b_X11_storm_26 C)
set_option maxRecDepth 20000 in
theorem b_X11_storm_9 {Z : Zt} {d : Nat} {p : Program} {e : Env} {R : Room} {s : State} {m : MethodId} {args : Array Value} {below : List Frame} {meth : Method} {c : Code} {Rp : RT} (C : Cx Z (d + 7) jX11_storm RX11 p R s m args meth c) : Sd Z jX11_storm p e R s m args below meth c (MQ below (QcS Z Rp) args s 0 0 (fun a => Z.2.2.1 < a)) 9 (w_X11_storm_9 (MS Z (d + 7)) (Gw Z 2 p e R s m args below meth c (MQ below (QcS Z Rp) args s 0 0 (fun a => Z.2.2.1 < a))) Rp) := by
  unfold w_X11_storm_9
  refine s_bipush (n := (-2)) C (by decide +kernel) (by decide) ?_
  exact s_goto (off := 15) (tgt := 26) C (by decide +kernel) (by decide) (b_X11_storm_26 C)
set_option maxRecDepth 20000 in
theorem b_X11_storm_0 {Z : Zt} {d : Nat} {p : Program} {e : Env} {R : Room} {s : State} {m : MethodId} {args : Array Value} {below : List Frame} {meth : Method} {c : Code} {Rp : RT} (C : Cx Z (d + 7) jX11_storm RX11 p R s m args meth c) : Sd Z jX11_storm p e R s m args below meth c (MQ below (QcS Z Rp) args s 0 0 (fun a => Z.2.2.1 < a)) 0 (w_X11_storm_0 (MS Z (d + 7)) (Gw Z 2 p e R s m args below meth c (MQ below (QcS Z Rp) args s 0 0 (fun a => Z.2.2.1 < a))) Rp) := by
  unfold w_X11_storm_0
  refine s_iload_n (k := 1) C (by decide +kernel) ?_
  refine s_if_lt (off := 8) (tgt := 9) C (by decide +kernel) (by decide) (b_X11_storm_9 C) ?_
  refine s_iload_n (k := 1) C (by decide +kernel) ?_
  refine s_iconst (n := 1) C (by decide +kernel) (by decide) ?_
  refine s_icmp_le (off := 8) (tgt := 14) C (by decide +kernel) (by decide) (b_X11_storm_14 C) ?_
  exact (b_X11_storm_9 C)
theorem ms_X11_storm {Z : Zt} {d : Nat} {S : Sh} {μ : Mi} {ρ : Mr} {Rp : RT} (a0 : Nat) (x1 : Int32) (h : ∀ G : Nat → PT, w_X11_storm_0 (MS Z (d + 7)) G Rp [.ref a0, .int x1] [] S (0, 0) μ ρ) : MS Z (d + 8) jX11_storm [.ref a0, .int x1] S μ ρ Rp :=
  MS_of [.ref a0, .int x1] (by decide +kernel) rfl rfl (Nat.le_of_ble_eq_true rfl) rfl (fun p e R s m args below meth c C => b_X11_storm_0 C _ _ _ _ _ _ (h _ ))
def F_X11_storm : FT2 := fun As S μ ρ k => match As with
  | [.ref a, .int x] => S.2 a = (11, 11) ∧ a = 1 ∧ ∃ (A : Rw) (u : Nat) (D : Nat → Rw), TC A u D S μ ρ ∧ Gd A ∧ ∀ (μ' : Mi) (ρ' : Mr), TC A u D S μ' ρ' → KP μ μ' → KPr ρ ρ' → k (some (.int (vStorm A x))) μ' ρ'
  | _ => False
theorem r_X11_storm {As S μ ρ k} (h : F_X11_storm As S μ ρ k) : ∃ a As', As = Value.ref a :: As' ∧ S.2 a = (11, 11) := by
  unfold F_X11_storm at h
  split at h
  · exact ⟨_, _, rfl, h.1⟩
  · exact h.elim
set_option maxHeartbeats 1000000 in
theorem f_X11_storm {Z : Zt} {d : Nat} {As : List Value} {S : Sh} {μ : Mi} {ρ : Mr} {Rp : RT} (h : F_X11_storm As S μ ρ (fun r μ' ρ' => Rp r S μ' ρ')) : MS Z (d + 8) jX11_storm As S μ ρ Rp := by
  unfold F_X11_storm at h
  split at h
  · rename_i a x
    obtain ⟨h1, rfl, A, u, D, hT, hG, h⟩ := h
    refine ms_X11_storm _ _ (fun G => ?_)
    have hr := hT.1.2.1
    have hR := hT.2.1
    have i1 := (RR_W hR).2.1.1
    have hP := hT.1.2.2.2.2.1
    have hp1 := hP.1
    have hS : Sht 174 S μ ρ := hT.1.2.2.2.2.2.1
    have hap : apP 174 2 := by unfold apP; omega
    have e := rg_05 (x := x) (lo := 0) (hi := 1) (l := 0) (h := 1) (by decide) (by decide)
    have bad : ¬ rgd x 0 1 → Rp (some (.int (-2))) S μ ρ := fun z => by
      have := h μ ρ hT (fun _ _ => rfl) (fun _ _ => rfl)
      unfold vStorm at this
      rw [if_pos z] at this
      exact this
    simp only [w_X11_storm_0, w_X11_storm_9, w_X11_storm_14, w_X11_storm_26, tAload, tIload, nth, tGetI, tGetR, tConst, tLconst, tBin, tUn, tI2l, tAld, tAldR, tAlen, tIast, tBast, tZast, tAast, tIret, tZret, tVret, tAret, tIf, tIf2, tGoto, tIstore, tAstore, sset, tIinc, tDup, tDup2, tPop, tPutI, tPutZ, tPutR, tCallV, tCallS, popN, tFn, tCopy, tMax, tMin, tSw, swc, tRem, tObjI, Option.toList, List.nil_append, List.cons_append, okR, true_and, and_true, true_or, or_true, Nat.zero_le, ne_eq, not_false_eq_true, Nat.reduceEqDiff, tFn2, F_X3_stormOf, h1, hr, i1, hp1]
    exact ⟨fun c => bad (fun z => (e.mpr z).1 c), fun c => ⟨fun c2 => ⟨hP, hS, hap, A, hR, hG, e.mp ⟨c, c2⟩, fun μ' ρ' q o f => h μ' ρ' (TC_pap hT q o f) (fun y hy => o y (by omega)) (fun y hy => f y (by omega))⟩, fun c2 => bad (fun z => c2 (e.mpr z).2)⟩⟩
  · exact h.elim
def w_X11_wins_24 (M : CT) (G : Nat → PT) (Rp : RT) : PT := tIret Rp
def w_X11_wins_12 (M : CT) (G : Nat → PT) (Rp : RT) : PT := tAload 0 <| tGetR 11 11 3 <| tAload 0 <| tGetR 11 11 0 <| tIload 1 <| tFn2 3 F_X3_wouldWin <| w_X11_wins_24 M G Rp
def w_X11_wins_0 (M : CT) (G : Nat → PT) (Rp : RT) : PT := tIload 1 <| tFn 1 F_X11_isNoStore <| tIf (fun x => x = 0) (w_X11_wins_12 M G Rp) <| tConst (-2) <| tGoto (w_X11_wins_24 M G Rp)
set_option maxRecDepth 20000 in
theorem b_X11_wins_24 {Z : Zt} {d : Nat} {p : Program} {e : Env} {R : Room} {s : State} {m : MethodId} {args : Array Value} {below : List Frame} {meth : Method} {c : Code} {Rp : RT} (C : Cx Z (d + 7) jX11_wins RX11 p R s m args meth c) : Sd Z jX11_wins p e R s m args below meth c (MQ below (QcS Z Rp) args s 0 0 (fun a => Z.2.2.1 < a)) 24 (w_X11_wins_24 (MS Z (d + 7)) (Gw Z 2 p e R s m args below meth c (MQ below (QcS Z Rp) args s 0 0 (fun a => Z.2.2.1 < a))) Rp) := by
  unfold w_X11_wins_24
  exact s_iret C rfl (by decide +kernel)
set_option maxRecDepth 20000 in
theorem b_X11_wins_12 {Z : Zt} {d : Nat} {p : Program} {e : Env} {R : Room} {s : State} {m : MethodId} {args : Array Value} {below : List Frame} {meth : Method} {c : Code} {Rp : RT} (C : Cx Z (d + 7) jX11_wins RX11 p R s m args meth c) : Sd Z jX11_wins p e R s m args below meth c (MQ below (QcS Z Rp) args s 0 0 (fun a => Z.2.2.1 < a)) 12 (w_X11_wins_12 (MS Z (d + 7)) (Gw Z 2 p e R s m args below meth c (MQ below (QcS Z Rp) args s 0 0 (fun a => Z.2.2.1 < a))) Rp) := by
  unfold w_X11_wins_12
  refine s_aload_n (k := 0) C (by decide +kernel) ?_
  refine s_getR C w_2_237 (by decide +kernel) rfl ?_
  refine s_aload_n (k := 0) C (by decide +kernel) ?_
  refine s_getR C w_2_234 (by decide +kernel) rfl ?_
  refine s_iload_n (k := 1) C (by decide +kernel) ?_
  refine s_fnV2 C (j2 := jX3_wouldWin) (cl := 3) (nf := 2) rfl rfl (by decide +kernel) rfl w_5_211 w_5_212 w_5_213 w_1_10 w_5_214 (by decide +kernel) (fun _ _ _ _ _ h => f_X3_wouldWin h) (fun _ _ _ _ _ h => r_X3_wouldWin h) ?_
  exact (b_X11_wins_24 C)
set_option maxRecDepth 20000 in
theorem b_X11_wins_0 {Z : Zt} {d : Nat} {p : Program} {e : Env} {R : Room} {s : State} {m : MethodId} {args : Array Value} {below : List Frame} {meth : Method} {c : Code} {Rp : RT} (C : Cx Z (d + 7) jX11_wins RX11 p R s m args meth c) : Sd Z jX11_wins p e R s m args below meth c (MQ below (QcS Z Rp) args s 0 0 (fun a => Z.2.2.1 < a)) 0 (w_X11_wins_0 (MS Z (d + 7)) (Gw Z 2 p e R s m args below meth c (MQ below (QcS Z Rp) args s 0 0 (fun a => Z.2.2.1 < a))) Rp) := by
  unfold w_X11_wins_0
  refine s_iload_n (k := 1) C (by decide +kernel) ?_
  refine s_fnS C (j2 := jX11_isNoStore) (by decide +kernel) rfl w_5_100 w_3_103 w_1_1 w_3_104 (by decide +kernel) (fun _ _ _ _ _ h => f_X11_isNoStore h) ?_
  refine s_if_eq (off := 8) (tgt := 12) C (by decide +kernel) (by decide) (b_X11_wins_12 C) ?_
  refine s_bipush (n := (-2)) C (by decide +kernel) (by decide) ?_
  exact s_goto (off := 15) (tgt := 24) C (by decide +kernel) (by decide) (b_X11_wins_24 C)
theorem ms_X11_wins {Z : Zt} {d : Nat} {S : Sh} {μ : Mi} {ρ : Mr} {Rp : RT} (a0 : Nat) (x1 : Int32) (h : ∀ G : Nat → PT, w_X11_wins_0 (MS Z (d + 7)) G Rp [.ref a0, .int x1] [] S (0, 0) μ ρ) : MS Z (d + 8) jX11_wins [.ref a0, .int x1] S μ ρ Rp :=
  MS_of [.ref a0, .int x1] (by decide +kernel) rfl rfl (Nat.le_of_ble_eq_true rfl) rfl (fun p e R s m args below meth c C => b_X11_wins_0 C _ _ _ _ _ _ (h _ ))
def F_X11_wins : FT2 := fun As S μ ρ k => match As with
  | [.ref a, .int s] => S.2 a = (11, 11) ∧ a = 1 ∧ ∃ (A : Rw) (u : Nat) (D : Nat → Rw), TC A u D S μ ρ ∧ Gd A ∧ ∀ (μ' : Mi) (ρ' : Mr), TC A u D S μ' ρ' → KP μ μ' → KPr ρ ρ' → k (some (.int (vWins A s))) μ' ρ'
  | _ => False
theorem r_X11_wins {As S μ ρ k} (h : F_X11_wins As S μ ρ k) : ∃ a As', As = Value.ref a :: As' ∧ S.2 a = (11, 11) := by
  unfold F_X11_wins at h
  split at h
  · exact ⟨_, _, rfl, h.1⟩
  · exact h.elim
set_option maxHeartbeats 1000000 in
theorem f_X11_wins {Z : Zt} {d : Nat} {As : List Value} {S : Sh} {μ : Mi} {ρ : Mr} {Rp : RT} (h : F_X11_wins As S μ ρ (fun r μ' ρ' => Rp r S μ' ρ')) : MS Z (d + 8) jX11_wins As S μ ρ Rp := by
  unfold F_X11_wins at h
  split at h
  · rename_i a s
    obtain ⟨h1, rfl, A, u, D, hT, hG, h⟩ := h
    refine ms_X11_wins _ _ (fun G => ?_)
    have hr := hT.1.2.1
    have hR := hT.2.1
    have i1 := (RR_W hR).2.1.1
    have hP := hT.1.2.2.2.2.1
    have hp1 := hP.1
    have hS : Sht 174 S μ ρ := hT.1.2.2.2.2.2.1
    have hap : apP 174 2 := by unfold apP; omega
    unfold vWins at h
    simp only [w_X11_wins_0, w_X11_wins_12, w_X11_wins_24, tAload, tIload, nth, tGetI, tGetR, tConst, tLconst, tBin, tUn, tI2l, tAld, tAldR, tAlen, tIast, tBast, tZast, tAast, tIret, tZret, tVret, tAret, tIf, tIf2, tGoto, tIstore, tAstore, sset, tIinc, tDup, tDup2, tPop, tPutI, tPutZ, tPutR, tCallV, tCallS, popN, tFn, tCopy, tMax, tMin, tSw, swc, tRem, tObjI, Option.toList, List.nil_append, List.cons_append, okR, true_and, and_true, true_or, or_true, Nat.zero_le, ne_eq, not_false_eq_true, Nat.reduceEqDiff, tFn2, F_X11_isNoStore, F_X3_wouldWin, b2_z, h1, hr, i1, hp1, Decidable.not_not]
    refine ⟨fun c => ?_, fun c => ?_⟩
    rotate_left
    · rw [if_pos c] at h
      exact h μ ρ hT (fun _ _ => rfl) (fun _ _ => rfl)
    rw [if_neg (not_not_intro c)] at h
    obtain ⟨s, rfl, s0, -, s5⟩ := rg_ex (lo := 0) (hi := 4) c
    rw [nI_clamp s0] at h
    exact ⟨hP, hS, hap, A, hR, hG, s, rfl, by omega, fun μ' ρ' q o f => h μ' ρ' (TC_pap hT q o f) (fun y hy => o y (by omega)) (fun y hy => f y (by omega))⟩
  · exact h.elim
def w_X11_count_41 (M : CT) (G : Nat → PT) (Rp : RT) : PT := tAload 0 <| tGetR 11 11 0 <| tIload 1 <| tFn 2 F_X8_countOf <| tIret Rp
def w_X11_count_33 (M : CT) (G : Nat → PT) (Rp : RT) : PT := tAload 0 <| tGetR 11 11 4 <| tGetI 9 7 2 <| tIret Rp
def w_X11_count_28 (M : CT) (G : Nat → PT) (Rp : RT) : PT := tAload 0 <| tGetI 11 11 7 <| tIret Rp
def w_X11_count_0 (M : CT) (G : Nat → PT) (Rp : RT) : PT := tIload 1 <| tSw [(7, w_X11_count_28 M G Rp), (10, w_X11_count_33 M G Rp)] (w_X11_count_41 M G Rp)
set_option maxRecDepth 20000 in
theorem b_X11_count_41 {Z : Zt} {d : Nat} {p : Program} {e : Env} {R : Room} {s : State} {m : MethodId} {args : Array Value} {below : List Frame} {meth : Method} {c : Code} {Rp : RT} (C : Cx Z (d + 2) jX11_count RX11 p R s m args meth c) : Sd Z jX11_count p e R s m args below meth c (MQ below (QcS Z Rp) args s 0 0 (fun a => Z.2.2.1 < a)) 41 (w_X11_count_41 (MS Z (d + 2)) (Gw Z 2 p e R s m args below meth c (MQ below (QcS Z Rp) args s 0 0 (fun a => Z.2.2.1 < a))) Rp) := by
  unfold w_X11_count_41
  refine s_aload_n (k := 0) C (by decide +kernel) ?_
  refine s_getR C w_2_234 (by decide +kernel) rfl ?_
  refine s_iload_n (k := 1) C (by decide +kernel) ?_
  refine s_fnS C (j2 := jX8_countOf) (by decide +kernel) rfl w_6_59 w_6_60 w_1_21 w_6_61 (by decide +kernel) (fun _ _ _ _ _ h => f_X8_countOf h) ?_
  exact s_iret C rfl (by decide +kernel)
set_option maxRecDepth 20000 in
theorem b_X11_count_33 {Z : Zt} {d : Nat} {p : Program} {e : Env} {R : Room} {s : State} {m : MethodId} {args : Array Value} {below : List Frame} {meth : Method} {c : Code} {Rp : RT} (C : Cx Z (d + 2) jX11_count RX11 p R s m args meth c) : Sd Z jX11_count p e R s m args below meth c (MQ below (QcS Z Rp) args s 0 0 (fun a => Z.2.2.1 < a)) 33 (w_X11_count_33 (MS Z (d + 2)) (Gw Z 2 p e R s m args below meth c (MQ below (QcS Z Rp) args s 0 0 (fun a => Z.2.2.1 < a))) Rp) := by
  unfold w_X11_count_33
  refine s_aload_n (k := 0) C (by decide +kernel) ?_
  refine s_getR C w_2_238 (by decide +kernel) rfl ?_
  refine s_getI C w_2_168 (by decide +kernel) rfl ?_
  exact s_iret C rfl (by decide +kernel)
set_option maxRecDepth 20000 in
theorem b_X11_count_28 {Z : Zt} {d : Nat} {p : Program} {e : Env} {R : Room} {s : State} {m : MethodId} {args : Array Value} {below : List Frame} {meth : Method} {c : Code} {Rp : RT} (C : Cx Z (d + 2) jX11_count RX11 p R s m args meth c) : Sd Z jX11_count p e R s m args below meth c (MQ below (QcS Z Rp) args s 0 0 (fun a => Z.2.2.1 < a)) 28 (w_X11_count_28 (MS Z (d + 2)) (Gw Z 2 p e R s m args below meth c (MQ below (QcS Z Rp) args s 0 0 (fun a => Z.2.2.1 < a))) Rp) := by
  unfold w_X11_count_28
  refine s_aload_n (k := 0) C (by decide +kernel) ?_
  refine s_getI C w_3_1 (by decide +kernel) rfl ?_
  exact s_iret C rfl (by decide +kernel)
set_option maxRecDepth 20000 in
theorem b_X11_count_0 {Z : Zt} {d : Nat} {p : Program} {e : Env} {R : Room} {s : State} {m : MethodId} {args : Array Value} {below : List Frame} {meth : Method} {c : Code} {Rp : RT} (C : Cx Z (d + 2) jX11_count RX11 p R s m args meth c) : Sd Z jX11_count p e R s m args below meth c (MQ below (QcS Z Rp) args s 0 0 (fun a => Z.2.2.1 < a)) 0 (w_X11_count_0 (MS Z (d + 2)) (Gw Z 2 p e R s m args below meth c (MQ below (QcS Z Rp) args s 0 0 (fun a => Z.2.2.1 < a))) Rp) := by
  unfold w_X11_count_0
  refine s_iload_n (k := 1) C (by decide +kernel) ?_
  refine s_lsw (df := 40) (ps := #[(7, 27), (10, 32)]) (len := 27) C (by decide +kernel) (by decide) 41 (by decide) (b_X11_count_41 C) (fun i r h => ?_) (fun x h => ?_)
  · match i, h with
    | 0, h => cases h; dsimp only; exact ⟨27, 28, by decide, by decide, (b_X11_count_28 C)⟩
    | 1, h => cases h; dsimp only; exact ⟨32, 33, by decide, by decide, (b_X11_count_33 C)⟩
    | q + 2, h => simp at h
  · refine lsw_out _ _ x (fun a ha => ?_)
    simp at ha h
    rcases ha with ⟨rfl, _⟩ | ⟨rfl, _⟩
    · exact fun z => h.1 (Int32.toInt_inj.mp (by rw [z]; rfl))
    · exact fun z => h.2 (Int32.toInt_inj.mp (by rw [z]; rfl))
theorem ms_X11_count {Z : Zt} {d : Nat} {S : Sh} {μ : Mi} {ρ : Mr} {Rp : RT} (a0 : Nat) (x1 : Int32) (h : ∀ G : Nat → PT, w_X11_count_0 (MS Z (d + 2)) G Rp [.ref a0, .int x1] [] S (0, 0) μ ρ) : MS Z (d + 3) jX11_count [.ref a0, .int x1] S μ ρ Rp :=
  MS_of [.ref a0, .int x1] (by decide +kernel) rfl rfl (Nat.le_of_ble_eq_true rfl) rfl (fun p e R s m args below meth c C => b_X11_count_0 C _ _ _ _ _ _ (h _ ))
def F_X11_count : FT := fun As S μ ρ k => match As with
  | [.ref a, .int x] => S.2 a = (11, 11) ∧ a = 1 ∧ ∃ (A : Rw) (u : Nat) (D : Nat → Rw), TC A u D S μ ρ ∧ Gd A ∧ S.2 856 = (9, 7) ∧ k (some (.int (vCount A (nI u) (μ 856 2) x))) μ
  | _ => False
theorem r_X11_count {As S μ ρ k} (h : F_X11_count As S μ ρ k) : ∃ a As', As = Value.ref a :: As' ∧ S.2 a = (11, 11) := by
  unfold F_X11_count at h
  split at h
  · exact ⟨_, _, rfl, h.1⟩
  · exact h.elim
set_option maxHeartbeats 1000000 in
theorem f_X11_count {Z : Zt} {d : Nat} {As : List Value} {S : Sh} {μ : Mi} {ρ : Mr} {Rp : RT} (h : F_X11_count As S μ ρ (fun r μ' => Rp r S μ' ρ)) : MS Z (d + 3) jX11_count As S μ ρ Rp := by
  unfold F_X11_count at h
  split at h
  · rename_i a x
    obtain ⟨h1, rfl, A, u, D, hT, hG, h9, h⟩ := h
    refine ms_X11_count _ _ (fun G => ?_)
    have hr := hT.1.2.1
    have hR := hT.2.1
    have i1 := (RR_W hR).2.1.1
    obtain ⟨sp, e6, hsp, e7, hu, hD⟩ := hT.2.2
    simp only [w_X11_count_0, w_X11_count_28, w_X11_count_33, w_X11_count_41, tAload, tIload, nth, tGetI, tGetR, tConst, tLconst, tBin, tUn, tI2l, tAld, tAldR, tAlen, tIast, tBast, tZast, tAast, tIret, tZret, tVret, tAret, tIf, tIf2, tGoto, tIstore, tAstore, sset, tIinc, tDup, tDup2, tPop, tPutI, tPutZ, tPutR, tCallV, tCallS, popN, tFn, tCopy, tMax, tMin, tSw, swc, tRem, tObjI, Option.toList, List.nil_append, List.cons_append, okR, true_and, and_true, true_or, or_true, Nat.zero_le, ne_eq, not_false_eq_true, Nat.reduceEqDiff, tFn2, F_X8_countOf, h1, hr, i1, h9, e7]
    refine ⟨fun c => ?_, fun c => ⟨fun c2 => ?_, fun c2 => ⟨A, hR, c, c2, fun dm tp => ?_⟩⟩⟩
    · subst c
      exact h
    · subst c2
      exact h
    · have : vCount A dm tp x = vCount A (nI u) (μ 856 2) x := by unfold vCount; simp only [if_neg c, if_neg c2]
      rw [this]
      exact h
  · exact h.elim
def w_X11_undo_16 (M : CT) (G : Nat → PT) (Rp : RT) : PT := tAload 0 <| tAload 0 <| tGetI 11 11 6 <| tConst 9 <| tBin (fun x y => x + y) <| tIload 1 <| tBin (fun x y => x - y) <| tConst 9 <| tRem <| tPutI 11 11 6 <| tAload 0 <| tDup <| tGetI 11 11 7 <| tIload 1 <| tBin (fun x y => x - y) <| tPutI 11 11 7 <| tAload 0 <| tGetR 11 11 0 <| tAload 0 <| tGetR 11 11 1 <| tAload 0 <| tGetI 11 11 6 <| tAldR 40 <| tFn 2 F_X10_copyFrom <| tAload 0 <| tGetI 11 11 7 <| tIret Rp
def w_X11_undo_13 (M : CT) (G : Nat → PT) (Rp : RT) : PT := tConst (-3) <| tIret Rp
def w_X11_undo_0 (M : CT) (G : Nat → PT) (Rp : RT) : PT := tIload 1 <| tConst 1 <| tIf2 (fun x y => x < y) (w_X11_undo_13 M G Rp) <| tIload 1 <| tAload 0 <| tGetI 11 11 7 <| tIf2 (fun x y => x ≤ y) (w_X11_undo_16 M G Rp) <| w_X11_undo_13 M G Rp
set_option maxRecDepth 20000 in
theorem b_X11_undo_16 {Z : Zt} {d : Nat} {p : Program} {e : Env} {R : Room} {s : State} {m : MethodId} {args : Array Value} {below : List Frame} {meth : Method} {c : Code} {Rp : RT} (C : Cx Z (d + 3) jX11_undo RX11 p R s m args meth c) : Sd Z jX11_undo p e R s m args below meth c (MQ below (QcS Z Rp) args s 0 0 (fun a => Z.2.2.1 < a)) 16 (w_X11_undo_16 (MS Z (d + 3)) (Gw Z 2 p e R s m args below meth c (MQ below (QcS Z Rp) args s 0 0 (fun a => Z.2.2.1 < a))) Rp) := by
  unfold w_X11_undo_16
  refine s_aload_n (k := 0) C (by decide +kernel) ?_
  refine s_aload_n (k := 0) C (by decide +kernel) ?_
  refine s_getI C w_3_0 (by decide +kernel) rfl ?_
  refine s_bipush (n := 9) C (by decide +kernel) (by decide) ?_
  refine s_iadd C (by decide +kernel) ?_
  refine s_iload_n (k := 1) C (by decide +kernel) ?_
  refine s_isub C (by decide +kernel) ?_
  refine s_bipush (n := 9) C (by decide +kernel) (by decide) ?_
  refine s_irem C (by decide +kernel) ?_
  refine s_putI C w_3_0 (by decide +kernel) rfl (Or.inl rfl) ?_
  refine s_aload_n (k := 0) C (by decide +kernel) ?_
  refine s_dup C (by decide +kernel) ?_
  refine s_getI C w_3_1 (by decide +kernel) rfl ?_
  refine s_iload_n (k := 1) C (by decide +kernel) ?_
  refine s_isub C (by decide +kernel) ?_
  refine s_putI C w_3_1 (by decide +kernel) rfl (Or.inl rfl) ?_
  refine s_aload_n (k := 0) C (by decide +kernel) ?_
  refine s_getR C w_2_234 (by decide +kernel) rfl ?_
  refine s_aload_n (k := 0) C (by decide +kernel) ?_
  refine s_getR C w_2_235 (by decide +kernel) rfl ?_
  refine s_aload_n (k := 0) C (by decide +kernel) ?_
  refine s_getI C w_3_0 (by decide +kernel) rfl ?_
  refine s_aald C rfl (by decide +kernel) ?_
  refine s_fnV C (j2 := jX10_copyFrom) (cl := 10) (nf := 6) rfl rfl (by decide +kernel) rfl w_3_36 w_3_37 w_3_38 w_1_2 w_3_39 (by decide +kernel) (fun _ _ _ _ _ h => f_X10_copyFrom h) (fun _ _ _ _ _ h => r_X10_copyFrom h) ?_
  refine s_aload_n (k := 0) C (by decide +kernel) ?_
  refine s_getI C w_3_1 (by decide +kernel) rfl ?_
  exact s_iret C rfl (by decide +kernel)
set_option maxRecDepth 20000 in
theorem b_X11_undo_13 {Z : Zt} {d : Nat} {p : Program} {e : Env} {R : Room} {s : State} {m : MethodId} {args : Array Value} {below : List Frame} {meth : Method} {c : Code} {Rp : RT} (C : Cx Z (d + 3) jX11_undo RX11 p R s m args meth c) : Sd Z jX11_undo p e R s m args below meth c (MQ below (QcS Z Rp) args s 0 0 (fun a => Z.2.2.1 < a)) 13 (w_X11_undo_13 (MS Z (d + 3)) (Gw Z 2 p e R s m args below meth c (MQ below (QcS Z Rp) args s 0 0 (fun a => Z.2.2.1 < a))) Rp) := by
  unfold w_X11_undo_13
  refine s_bipush (n := (-3)) C (by decide +kernel) (by decide) ?_
  exact s_iret C rfl (by decide +kernel)
set_option maxRecDepth 20000 in
theorem b_X11_undo_0 {Z : Zt} {d : Nat} {p : Program} {e : Env} {R : Room} {s : State} {m : MethodId} {args : Array Value} {below : List Frame} {meth : Method} {c : Code} {Rp : RT} (C : Cx Z (d + 3) jX11_undo RX11 p R s m args meth c) : Sd Z jX11_undo p e R s m args below meth c (MQ below (QcS Z Rp) args s 0 0 (fun a => Z.2.2.1 < a)) 0 (w_X11_undo_0 (MS Z (d + 3)) (Gw Z 2 p e R s m args below meth c (MQ below (QcS Z Rp) args s 0 0 (fun a => Z.2.2.1 < a))) Rp) := by
  unfold w_X11_undo_0
  refine s_iload_n (k := 1) C (by decide +kernel) ?_
  refine s_iconst (n := 1) C (by decide +kernel) (by decide) ?_
  refine s_icmp_lt (off := 11) (tgt := 13) C (by decide +kernel) (by decide) (b_X11_undo_13 C) ?_
  refine s_iload_n (k := 1) C (by decide +kernel) ?_
  refine s_aload_n (k := 0) C (by decide +kernel) ?_
  refine s_getI C w_3_1 (by decide +kernel) rfl ?_
  refine s_icmp_le (off := 6) (tgt := 16) C (by decide +kernel) (by decide) (b_X11_undo_16 C) ?_
  exact (b_X11_undo_13 C)
theorem ms_X11_undo {Z : Zt} {d : Nat} {S : Sh} {μ : Mi} {ρ : Mr} {Rp : RT} (a0 : Nat) (x1 : Int32) (h : ∀ G : Nat → PT, w_X11_undo_0 (MS Z (d + 3)) G Rp [.ref a0, .int x1] [] S (0, 0) μ ρ) : MS Z (d + 4) jX11_undo [.ref a0, .int x1] S μ ρ Rp :=
  MS_of [.ref a0, .int x1] (by decide +kernel) rfl rfl (Nat.le_of_ble_eq_true rfl) rfl (fun p e R s m args below meth c C => b_X11_undo_0 C _ _ _ _ _ _ (h _ ))
def F_X11_undo : FT := fun As S μ ρ k => match As with
  | [.ref a, .int n] => S.2 a = (11, 11) ∧ a = 1 ∧ ∃ (A : Rw) (u : Nat) (D : Nat → Rw), TC A u D S μ ρ ∧ (¬ (1 ≤ n.toInt ∧ n.toInt ≤ u) → k (some (.int (-3))) μ) ∧ ∀ m : Nat, n = nI m → 1 ≤ m → m ≤ u → ∀ μ', TC (D (u - m)) (u - m) D S μ' ρ → KT μ μ' → k (some (.int (nI (u - m)))) μ'
  | _ => False
theorem r_X11_undo {As S μ ρ k} (h : F_X11_undo As S μ ρ k) : ∃ a As', As = Value.ref a :: As' ∧ S.2 a = (11, 11) := by
  unfold F_X11_undo at h
  split at h
  · exact ⟨_, _, rfl, h.1⟩
  · exact h.elim
set_option maxHeartbeats 1000000 in
theorem f_X11_undo {Z : Zt} {d : Nat} {As : List Value} {S : Sh} {μ : Mi} {ρ : Mr} {Rp : RT} (h : F_X11_undo As S μ ρ (fun r μ' => Rp r S μ' ρ)) : MS Z (d + 4) jX11_undo As S μ ρ Rp := by
  unfold F_X11_undo at h
  split at h
  · rename_i a n
    obtain ⟨h1, rfl, A, u, D, hT, hn, hy⟩ := h
    refine ms_X11_undo _ _ (fun G => ?_)
    obtain ⟨hT0, hR, sp, e6, hsp, e7, hu, hD⟩ := hT
    have hT' := hT0
    obtain ⟨h0, r, s2, r3, hP, w5, w6, w7, w8⟩ := hT0
    have i1 := (RR_W hR).2.1.1
    have iI : WI 2 μ := fun s hs => (RR_st hR hs).1.1
    simp only [w_X11_undo_0, w_X11_undo_13, tAload, tIload, nth, tGetI, tGetR, tConst, tLconst, tBin, tUn, tI2l, tAld, tAldR, tAlen, tIast, tBast, tZast, tAast, tIret, tZret, tVret, tAret, tIf, tIf2, tGoto, tIstore, tAstore, sset, tIinc, tDup, tDup2, tPop, tPutI, tPutZ, tPutR, tCallV, tCallS, popN, tFn, tCopy, tMax, tMin, tSw, swc, tRem, tObjI, Option.toList, List.nil_append, List.cons_append, okR, true_and, and_true, true_or, or_true, Nat.zero_le, ne_eq, not_false_eq_true, Nat.reduceEqDiff, h1, e7]
    have o1 : Int32.toInt 1 = 1 := by decide
    refine ⟨fun c => hn (fun z => ?_), fun c => ⟨fun c2 => ?_, fun c2 => hn (fun z => ?_)⟩⟩
    · rw [Int32.lt_iff_toInt_lt, o1] at c; omega
    rotate_left
    · rw [Int32.le_iff_toInt_le, nI_toInt (by omega)] at c2; exact c2 z.2
    rw [Int32.lt_iff_toInt_lt, o1] at c
    rw [Int32.le_iff_toInt_le, nI_toInt (by omega)] at c2
    obtain ⟨m, rfl, m0, m1, m2⟩ := rg_ex (x := n) (lo := 1) (hi := u) ⟨by omega, c2⟩ (by decide)
    have hm1 : 1 ≤ m := by omega
    have hmu : m ≤ u := by omega
    have e9 : nI sp + 9 - nI m = nI (sp + 9 - m) := by rw [show (9 : Int32) = nI 9 from rfl, nI_add, pk_sub (by omega)]
    have er : nI (sp + 9 - m) - nI (sp + 9 - m) / 9 * 9 = nI ((sp + 9 - m) % 9) := rem9 ⟨sp + 9 - m, by omega⟩
    have eu : nI u - nI m = nI (u - m) := by rw [pk_sub (by omega)]
    have hq : (sp + 9 - m) % 9 < 9 := by omega
    obtain ⟨j1, j2, j3⟩ := any_I (w7 _ hq)
    have hsrc : RR (D (u - m)) (867 + 170 * ((sp + 9 - m) % 9)) S μ ρ := by
      have := hD (u - m) (by omega)
      rw [show sp + 9 - u + (u - m) = sp + 9 - m by omega] at this
      exact this
    simp only [w_X11_undo_16, tAload, tIload, nth, tGetI, tGetR, tConst, tLconst, tBin, tUn, tI2l, tAld, tAldR, tAlen, tIast, tBast, tZast, tAast, tIret, tZret, tVret, tAret, tIf, tIf2, tGoto, tIstore, tAstore, sset, tIinc, tDup, tDup2, tPop, tPutI, tPutZ, tPutR, tCallV, tCallS, popN, tFn, tCopy, tMax, tMin, tSw, swc, tRem, tObjI, Option.toList, List.nil_append, List.cons_append, okR, true_and, and_true, true_or, or_true, Nat.zero_le, ne_eq, not_false_eq_true, Nat.reduceEqDiff, F_X10_copyFrom, h1, e6, e9, er, r, s2, i1]
    simp (disch := omega) only [upI_k, upI_at, e7, eu, nI_clamp, r3.1 _ hq, j1]
    have hW2 : WI 2 (upI (upI μ 1 6 (nI ((sp + 9 - m) % 9))) 1 7 (nI (u - m))) := fun s hs => by rw [upI_ne (by omega), upI_ne (by omega)]; exact iI s hs
    have fr : ∀ {C : Rw} {w : Nat}, 2 ≤ w → RR C w S μ ρ → RR C w S (upI (upI μ 1 6 (nI ((sp + 9 - m) % 9))) 1 7 (nI (u - m))) ρ := fun hw h => RR_in h (fun y y1 y2 => by rw [upI_ne (by omega), upI_ne (by omega)])
    refine ⟨by decide, inb_nI hq (by decide), by omega, trivial, RR_W hR, hW2, by unfold apW; omega, _, fr (by omega) hsrc, fun μ' q o => ?_⟩
    have e1 : ∀ i, μ' 1 i = upI (upI μ 1 6 (nI ((sp + 9 - m) % 9))) 1 7 (nI (u - m)) 1 i := fun i => by rw [o 1 (by omega)]
    rw [e1, upI_at]
    refine hy m rfl hm1 hmu μ' ⟨TW_v (TW_1 (TW_1 hT')) (Or.inl rfl) ⟨_, q⟩ o (fun _ _ => rfl), q, (sp + 9 - m) % 9, by rw [e1, upI_k (by omega), upI_at], hq, by rw [e1, upI_at], by omega, fun j hj => ?_⟩ ⟨fun y hy => by rw [o y (by omega), upI_ne (by omega), upI_ne (by omega)], fun i i6 i7 => by rw [e1, upI_k i7, upI_k i6]⟩
    rw [show ((sp + 9 - m) % 9 + 9 - (u - m) + j) % 9 = (sp + 9 - u + j) % 9 by omega]
    exact RR_far (fr (by omega) (hD j (by omega))) (by unfold apW; omega) o (fun _ _ => rfl)
  · exact h.elim
