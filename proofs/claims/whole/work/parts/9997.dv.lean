/-! ===== the class: what the whole object is asked ===== -/
def w_X11_store_0 (M : CT) (G : Nat → PT) (Rp : RT) : PT := tAload 0 <| tGetR 11 11 0 <| tIload 1 <| tIload 2 <| tFn 3 F_X8_storeFact <| tIret Rp
set_option maxRecDepth 20000 in
theorem b_X11_store_0 {Z : Zt} {d : Nat} {p : Program} {e : Env} {R : Room} {s : State} {m : MethodId} {args : Array Value} {below : List Frame} {meth : Method} {c : Code} {Rp : RT} (C : Cx Z (d + 2) jX11_store RX11 p R s m args meth c) : Sd Z jX11_store p e R s m args below meth c (MQ below (QcS Z Rp) args s 0 0 (fun a => Z.2.2.1 < a)) 0 (w_X11_store_0 (MS Z (d + 2)) (Gw Z 3 p e R s m args below meth c (MQ below (QcS Z Rp) args s 0 0 (fun a => Z.2.2.1 < a))) Rp) := by
  unfold w_X11_store_0
  refine s_aload_n (k := 0) C (by decide +kernel) ?_
  refine s_getR C w_2_234 (by decide +kernel) rfl ?_
  refine s_iload_n (k := 1) C (by decide +kernel) ?_
  refine s_iload_n (k := 2) C (by decide +kernel) ?_
  refine s_fnS C (j2 := jX8_storeFact) (by decide +kernel) rfl w_5_91 w_5_92 w_1_21 w_5_93 (by decide +kernel) (fun _ _ _ _ _ h => f_X8_storeFact h) ?_
  exact s_iret C rfl (by decide +kernel)
theorem ms_X11_store {Z : Zt} {d : Nat} {S : Sh} {μ : Mi} {ρ : Mr} {Rp : RT} (a0 : Nat) (x1 : Int32) (x2 : Int32) (h : ∀ G : Nat → PT, w_X11_store_0 (MS Z (d + 2)) G Rp [.ref a0, .int x1, .int x2] [] S (0, 0) μ ρ) : MS Z (d + 3) jX11_store [.ref a0, .int x1, .int x2] S μ ρ Rp :=
  MS_of [.ref a0, .int x1, .int x2] (by decide +kernel) rfl rfl (Nat.le_of_ble_eq_true rfl) rfl (fun p e R s m args below meth c C => b_X11_store_0 C _ _ _ _ _ _ (h _ ))
def F_X11_store : FT := fun As S μ ρ k => match As with
  | [.ref a, .int s, .int x] => S.2 a = (11, 11) ∧ a = 1 ∧ ∃ (A : Rw) (u : Nat) (D : Nat → Rw), TC A u D S μ ρ ∧ Gd A ∧ k (some (.int (vStore A s x))) μ
  | _ => False
theorem r_X11_store {As S μ ρ k} (h : F_X11_store As S μ ρ k) : ∃ a As', As = Value.ref a :: As' ∧ S.2 a = (11, 11) := by
  unfold F_X11_store at h
  split at h
  · exact ⟨_, _, rfl, h.1⟩
  · exact h.elim
set_option maxHeartbeats 1000000 in
theorem f_X11_store {Z : Zt} {d : Nat} {As : List Value} {S : Sh} {μ : Mi} {ρ : Mr} {Rp : RT} (h : F_X11_store As S μ ρ (fun r μ' => Rp r S μ' ρ)) : MS Z (d + 3) jX11_store As S μ ρ Rp := by
  unfold F_X11_store at h
  split at h
  · rename_i a s x
    obtain ⟨h1, rfl, A, u, D, hT, hG, h⟩ := h
    refine ms_X11_store _ _ _ (fun G => ?_)
    have hr := hT.1.2.1
    have hR := hT.2.1
    have hW := RR_W hR
    have i1 := hW.2.1.1
    have hq := hW.2.2.2.2.1
    have hw := hW.2.1
    simp only [w_X11_store_0, tAload, tIload, nth, tGetI, tGetR, tConst, tLconst, tBin, tUn, tI2l, tAld, tAldR, tAlen, tIast, tBast, tZast, tAast, tIret, tZret, tVret, tAret, tIf, tIf2, tGoto, tIstore, tAstore, sset, tIinc, tDup, tDup2, tPop, tPutI, tPutZ, tPutR, tCallV, tCallS, popN, tFn, tCopy, tMax, tMin, tSw, swc, tRem, tObjI, Option.toList, List.nil_append, List.cons_append, okR, true_and, and_true, true_or, or_true, Nat.zero_le, ne_eq, not_false_eq_true, Nat.reduceEqDiff, F_X8_storeFact, h1, hr, i1]
    exact ⟨A, hR, h⟩
  · exact h.elim
def w_X11_message_0 (M : CT) (G : Nat → PT) (Rp : RT) : PT := tAload 0 <| tGetR 11 11 0 <| tIload 1 <| tIload 2 <| tFn 3 F_X8_messageFact <| tIret Rp
set_option maxRecDepth 20000 in
theorem b_X11_message_0 {Z : Zt} {d : Nat} {p : Program} {e : Env} {R : Room} {s : State} {m : MethodId} {args : Array Value} {below : List Frame} {meth : Method} {c : Code} {Rp : RT} (C : Cx Z (d + 3) jX11_message RX11 p R s m args meth c) : Sd Z jX11_message p e R s m args below meth c (MQ below (QcS Z Rp) args s 0 0 (fun a => Z.2.2.1 < a)) 0 (w_X11_message_0 (MS Z (d + 3)) (Gw Z 3 p e R s m args below meth c (MQ below (QcS Z Rp) args s 0 0 (fun a => Z.2.2.1 < a))) Rp) := by
  unfold w_X11_message_0
  refine s_aload_n (k := 0) C (by decide +kernel) ?_
  refine s_getR C w_2_234 (by decide +kernel) rfl ?_
  refine s_iload_n (k := 1) C (by decide +kernel) ?_
  refine s_iload_n (k := 2) C (by decide +kernel) ?_
  refine s_fnS C (j2 := jX8_messageFact) (by decide +kernel) rfl w_5_126 w_5_127 w_1_21 w_5_128 (by decide +kernel) (fun _ _ _ _ _ h => f_X8_messageFact h) ?_
  exact s_iret C rfl (by decide +kernel)
theorem ms_X11_message {Z : Zt} {d : Nat} {S : Sh} {μ : Mi} {ρ : Mr} {Rp : RT} (a0 : Nat) (x1 : Int32) (x2 : Int32) (h : ∀ G : Nat → PT, w_X11_message_0 (MS Z (d + 3)) G Rp [.ref a0, .int x1, .int x2] [] S (0, 0) μ ρ) : MS Z (d + 4) jX11_message [.ref a0, .int x1, .int x2] S μ ρ Rp :=
  MS_of [.ref a0, .int x1, .int x2] (by decide +kernel) rfl rfl (Nat.le_of_ble_eq_true rfl) rfl (fun p e R s m args below meth c C => b_X11_message_0 C _ _ _ _ _ _ (h _ ))
def F_X11_message : FT := fun As S μ ρ k => match As with
  | [.ref a, .int i, .int x] => S.2 a = (11, 11) ∧ a = 1 ∧ ∃ (A : Rw) (u : Nat) (D : Nat → Rw), TC A u D S μ ρ ∧ Gd A ∧ k (some (.int (vMessage A i x))) μ
  | _ => False
theorem r_X11_message {As S μ ρ k} (h : F_X11_message As S μ ρ k) : ∃ a As', As = Value.ref a :: As' ∧ S.2 a = (11, 11) := by
  unfold F_X11_message at h
  split at h
  · exact ⟨_, _, rfl, h.1⟩
  · exact h.elim
set_option maxHeartbeats 1000000 in
theorem f_X11_message {Z : Zt} {d : Nat} {As : List Value} {S : Sh} {μ : Mi} {ρ : Mr} {Rp : RT} (h : F_X11_message As S μ ρ (fun r μ' => Rp r S μ' ρ)) : MS Z (d + 4) jX11_message As S μ ρ Rp := by
  unfold F_X11_message at h
  split at h
  · rename_i a i x
    obtain ⟨h1, rfl, A, u, D, hT, hG, h⟩ := h
    refine ms_X11_message _ _ _ (fun G => ?_)
    have hr := hT.1.2.1
    have hR := hT.2.1
    have hW := RR_W hR
    have i1 := hW.2.1.1
    have hq := hW.2.2.2.2.1
    have hw := hW.2.1
    simp only [w_X11_message_0, tAload, tIload, nth, tGetI, tGetR, tConst, tLconst, tBin, tUn, tI2l, tAld, tAldR, tAlen, tIast, tBast, tZast, tAast, tIret, tZret, tVret, tAret, tIf, tIf2, tGoto, tIstore, tAstore, sset, tIinc, tDup, tDup2, tPop, tPutI, tPutZ, tPutR, tCallV, tCallS, popN, tFn, tCopy, tMax, tMin, tSw, swc, tRem, tObjI, Option.toList, List.nil_append, List.cons_append, okR, true_and, and_true, true_or, or_true, Nat.zero_le, ne_eq, not_false_eq_true, Nat.reduceEqDiff, F_X8_messageFact, h1, hr, i1]
    exact ⟨A, hR, h⟩
  · exact h.elim
def w_X11_leader_0 (M : CT) (G : Nat → PT) (Rp : RT) : PT := tAload 0 <| tGetR 11 11 0 <| tFn 1 F_X8_leaderNow <| tIret Rp
set_option maxRecDepth 20000 in
theorem b_X11_leader_0 {Z : Zt} {d : Nat} {p : Program} {e : Env} {R : Room} {s : State} {m : MethodId} {args : Array Value} {below : List Frame} {meth : Method} {c : Code} {Rp : RT} (C : Cx Z (d + 1) jX11_leader RX11 p R s m args meth c) : Sd Z jX11_leader p e R s m args below meth c (MQ below (QcS Z Rp) args s 0 0 (fun a => Z.2.2.1 < a)) 0 (w_X11_leader_0 (MS Z (d + 1)) (Gw Z 1 p e R s m args below meth c (MQ below (QcS Z Rp) args s 0 0 (fun a => Z.2.2.1 < a))) Rp) := by
  unfold w_X11_leader_0
  refine s_aload_n (k := 0) C (by decide +kernel) ?_
  refine s_getR C w_2_234 (by decide +kernel) rfl ?_
  refine s_fnS C (j2 := jX8_leaderNow) (by decide +kernel) rfl w_5_204 w_5_205 w_1_21 w_5_206 (by decide +kernel) (fun _ _ _ _ _ h => f_X8_leaderNow h) ?_
  exact s_iret C rfl (by decide +kernel)
theorem ms_X11_leader {Z : Zt} {d : Nat} {S : Sh} {μ : Mi} {ρ : Mr} {Rp : RT} (a0 : Nat) (h : ∀ G : Nat → PT, w_X11_leader_0 (MS Z (d + 1)) G Rp [.ref a0] [] S (0, 0) μ ρ) : MS Z (d + 2) jX11_leader [.ref a0] S μ ρ Rp :=
  MS_of [.ref a0] (by decide +kernel) rfl rfl (Nat.le_of_ble_eq_true rfl) rfl (fun p e R s m args below meth c C => b_X11_leader_0 C _ _ _ _ _ _ (h _ ))
def F_X11_leader : FT := fun As S μ ρ k => match As with
  | [.ref a] => S.2 a = (11, 11) ∧ a = 1 ∧ ∃ (A : Rw) (u : Nat) (D : Nat → Rw), TC A u D S μ ρ ∧ Gd A ∧ k (some (.int (qLeader A ))) μ
  | _ => False
theorem r_X11_leader {As S μ ρ k} (h : F_X11_leader As S μ ρ k) : ∃ a As', As = Value.ref a :: As' ∧ S.2 a = (11, 11) := by
  unfold F_X11_leader at h
  split at h
  · exact ⟨_, _, rfl, h.1⟩
  · exact h.elim
set_option maxHeartbeats 1000000 in
theorem f_X11_leader {Z : Zt} {d : Nat} {As : List Value} {S : Sh} {μ : Mi} {ρ : Mr} {Rp : RT} (h : F_X11_leader As S μ ρ (fun r μ' => Rp r S μ' ρ)) : MS Z (d + 2) jX11_leader As S μ ρ Rp := by
  unfold F_X11_leader at h
  split at h
  · rename_i a
    obtain ⟨h1, rfl, A, u, D, hT, hG, h⟩ := h
    refine ms_X11_leader _ (fun G => ?_)
    have hr := hT.1.2.1
    have hR := hT.2.1
    have hW := RR_W hR
    have i1 := hW.2.1.1
    have hq := hW.2.2.2.2.1
    have hw := hW.2.1
    simp only [w_X11_leader_0, tAload, tIload, nth, tGetI, tGetR, tConst, tLconst, tBin, tUn, tI2l, tAld, tAldR, tAlen, tIast, tBast, tZast, tAast, tIret, tZret, tVret, tAret, tIf, tIf2, tGoto, tIstore, tAstore, sset, tIinc, tDup, tDup2, tPop, tPutI, tPutZ, tPutR, tCallV, tCallS, popN, tFn, tCopy, tMax, tMin, tSw, swc, tRem, tObjI, Option.toList, List.nil_append, List.cons_append, okR, true_and, and_true, true_or, or_true, Nat.zero_le, ne_eq, not_false_eq_true, Nat.reduceEqDiff, F_X8_leaderNow, h1, hr, i1]
    exact ⟨A, hR, h⟩
  · exact h.elim
def w_X11_fragile_0 (M : CT) (G : Nat → PT) (Rp : RT) : PT := tAload 0 <| tGetR 11 11 0 <| tFn 1 F_X8_fewestStops <| tIret Rp
set_option maxRecDepth 20000 in
theorem b_X11_fragile_0 {Z : Zt} {d : Nat} {p : Program} {e : Env} {R : Room} {s : State} {m : MethodId} {args : Array Value} {below : List Frame} {meth : Method} {c : Code} {Rp : RT} (C : Cx Z (d + 6) jX11_fragile RX11 p R s m args meth c) : Sd Z jX11_fragile p e R s m args below meth c (MQ below (QcS Z Rp) args s 0 0 (fun a => Z.2.2.1 < a)) 0 (w_X11_fragile_0 (MS Z (d + 6)) (Gw Z 1 p e R s m args below meth c (MQ below (QcS Z Rp) args s 0 0 (fun a => Z.2.2.1 < a))) Rp) := by
  unfold w_X11_fragile_0
  refine s_aload_n (k := 0) C (by decide +kernel) ?_
  refine s_getR C w_2_234 (by decide +kernel) rfl ?_
  refine s_fnS C (j2 := jX8_fewestStops) (by decide +kernel) rfl w_6_34 w_6_35 w_1_21 w_6_36 (by decide +kernel) (fun _ _ _ _ _ h => f_X8_fewestStops h) ?_
  exact s_iret C rfl (by decide +kernel)
theorem ms_X11_fragile {Z : Zt} {d : Nat} {S : Sh} {μ : Mi} {ρ : Mr} {Rp : RT} (a0 : Nat) (h : ∀ G : Nat → PT, w_X11_fragile_0 (MS Z (d + 6)) G Rp [.ref a0] [] S (0, 0) μ ρ) : MS Z (d + 7) jX11_fragile [.ref a0] S μ ρ Rp :=
  MS_of [.ref a0] (by decide +kernel) rfl rfl (Nat.le_of_ble_eq_true rfl) rfl (fun p e R s m args below meth c C => b_X11_fragile_0 C _ _ _ _ _ _ (h _ ))
def F_X11_fragile : FT := fun As S μ ρ k => match As with
  | [.ref a] => S.2 a = (11, 11) ∧ a = 1 ∧ ∃ (A : Rw) (u : Nat) (D : Nat → Rw), TC A u D S μ ρ ∧ Gd A ∧ k (some (.int (vFragile A ))) μ
  | _ => False
theorem r_X11_fragile {As S μ ρ k} (h : F_X11_fragile As S μ ρ k) : ∃ a As', As = Value.ref a :: As' ∧ S.2 a = (11, 11) := by
  unfold F_X11_fragile at h
  split at h
  · exact ⟨_, _, rfl, h.1⟩
  · exact h.elim
set_option maxHeartbeats 1000000 in
theorem f_X11_fragile {Z : Zt} {d : Nat} {As : List Value} {S : Sh} {μ : Mi} {ρ : Mr} {Rp : RT} (h : F_X11_fragile As S μ ρ (fun r μ' => Rp r S μ' ρ)) : MS Z (d + 7) jX11_fragile As S μ ρ Rp := by
  unfold F_X11_fragile at h
  split at h
  · rename_i a
    obtain ⟨h1, rfl, A, u, D, hT, hG, h⟩ := h
    refine ms_X11_fragile _ (fun G => ?_)
    have hr := hT.1.2.1
    have hR := hT.2.1
    have hW := RR_W hR
    have i1 := hW.2.1.1
    have hq := hW.2.2.2.2.1
    have hw := hW.2.1
    simp only [w_X11_fragile_0, tAload, tIload, nth, tGetI, tGetR, tConst, tLconst, tBin, tUn, tI2l, tAld, tAldR, tAlen, tIast, tBast, tZast, tAast, tIret, tZret, tVret, tAret, tIf, tIf2, tGoto, tIstore, tAstore, sset, tIinc, tDup, tDup2, tPop, tPutI, tPutZ, tPutR, tCallV, tCallS, popN, tFn, tCopy, tMax, tMin, tSw, swc, tRem, tObjI, Option.toList, List.nil_append, List.cons_append, okR, true_and, and_true, true_or, or_true, Nat.zero_le, ne_eq, not_false_eq_true, Nat.reduceEqDiff, F_X8_fewestStops, h1, hr, i1]
    exact ⟨A, hR, h⟩
  · exact h.elim
def w_X11_leaders_26 (M : CT) (G : Nat → PT) (Rp : RT) : PT := tIret Rp
def w_X11_leaders_17 (M : CT) (G : Nat → PT) (Rp : RT) : PT := tAload 0 <| tGetR 11 11 0 <| tGetR 10 6 3 <| tIload 1 <| tAld 20 <| w_X11_leaders_26 M G Rp
def w_X11_leaders_12 (M : CT) (G : Nat → PT) (Rp : RT) : PT := tConst (-3) <| tGoto (w_X11_leaders_26 M G Rp)
def w_X11_leaders_0 (M : CT) (G : Nat → PT) (Rp : RT) : PT := tIload 1 <| tConst 1 <| tIf2 (fun x y => x < y) (w_X11_leaders_12 M G Rp) <| tIload 1 <| tConst 200 <| tIf2 (fun x y => x ≤ y) (w_X11_leaders_17 M G Rp) <| w_X11_leaders_12 M G Rp
set_option maxRecDepth 20000 in
theorem b_X11_leaders_26 {Z : Zt} {d : Nat} {p : Program} {e : Env} {R : Room} {s : State} {m : MethodId} {args : Array Value} {below : List Frame} {meth : Method} {c : Code} {Rp : RT} (C : Cx Z d jX11_leaders RX11 p R s m args meth c) : Sd Z jX11_leaders p e R s m args below meth c (MQ below (QcS Z Rp) args s 0 0 (fun a => Z.2.2.1 < a)) 26 (w_X11_leaders_26 (MS Z d) (Gw Z 2 p e R s m args below meth c (MQ below (QcS Z Rp) args s 0 0 (fun a => Z.2.2.1 < a))) Rp) := by
  unfold w_X11_leaders_26
  exact s_iret C rfl (by decide +kernel)
set_option maxRecDepth 20000 in
theorem b_X11_leaders_17 {Z : Zt} {d : Nat} {p : Program} {e : Env} {R : Room} {s : State} {m : MethodId} {args : Array Value} {below : List Frame} {meth : Method} {c : Code} {Rp : RT} (C : Cx Z d jX11_leaders RX11 p R s m args meth c) : Sd Z jX11_leaders p e R s m args below meth c (MQ below (QcS Z Rp) args s 0 0 (fun a => Z.2.2.1 < a)) 17 (w_X11_leaders_17 (MS Z d) (Gw Z 2 p e R s m args below meth c (MQ below (QcS Z Rp) args s 0 0 (fun a => Z.2.2.1 < a))) Rp) := by
  unfold w_X11_leaders_17
  refine s_aload_n (k := 0) C (by decide +kernel) ?_
  refine s_getR C w_2_234 (by decide +kernel) rfl ?_
  refine s_getR C w_2_125 (by decide +kernel) rfl ?_
  refine s_iload_n (k := 1) C (by decide +kernel) ?_
  refine s_iald C (by decide +kernel) ?_
  exact (b_X11_leaders_26 C)
set_option maxRecDepth 20000 in
theorem b_X11_leaders_12 {Z : Zt} {d : Nat} {p : Program} {e : Env} {R : Room} {s : State} {m : MethodId} {args : Array Value} {below : List Frame} {meth : Method} {c : Code} {Rp : RT} (C : Cx Z d jX11_leaders RX11 p R s m args meth c) : Sd Z jX11_leaders p e R s m args below meth c (MQ below (QcS Z Rp) args s 0 0 (fun a => Z.2.2.1 < a)) 12 (w_X11_leaders_12 (MS Z d) (Gw Z 2 p e R s m args below meth c (MQ below (QcS Z Rp) args s 0 0 (fun a => Z.2.2.1 < a))) Rp) := by
  unfold w_X11_leaders_12
  refine s_bipush (n := (-3)) C (by decide +kernel) (by decide) ?_
  exact s_goto (off := 12) (tgt := 26) C (by decide +kernel) (by decide) (b_X11_leaders_26 C)
set_option maxRecDepth 20000 in
theorem b_X11_leaders_0 {Z : Zt} {d : Nat} {p : Program} {e : Env} {R : Room} {s : State} {m : MethodId} {args : Array Value} {below : List Frame} {meth : Method} {c : Code} {Rp : RT} (C : Cx Z d jX11_leaders RX11 p R s m args meth c) : Sd Z jX11_leaders p e R s m args below meth c (MQ below (QcS Z Rp) args s 0 0 (fun a => Z.2.2.1 < a)) 0 (w_X11_leaders_0 (MS Z d) (Gw Z 2 p e R s m args below meth c (MQ below (QcS Z Rp) args s 0 0 (fun a => Z.2.2.1 < a))) Rp) := by
  unfold w_X11_leaders_0
  refine s_iload_n (k := 1) C (by decide +kernel) ?_
  refine s_iconst (n := 1) C (by decide +kernel) (by decide) ?_
  refine s_icmp_lt (off := 10) (tgt := 12) C (by decide +kernel) (by decide) (b_X11_leaders_12 C) ?_
  refine s_iload_n (k := 1) C (by decide +kernel) ?_
  refine s_sipush (n := 200) C (by decide +kernel) (by decide) ?_
  refine s_icmp_le (off := 8) (tgt := 17) C (by decide +kernel) (by decide) (b_X11_leaders_17 C) ?_
  exact (b_X11_leaders_12 C)
theorem ms_X11_leaders {Z : Zt} {d : Nat} {S : Sh} {μ : Mi} {ρ : Mr} {Rp : RT} (a0 : Nat) (x1 : Int32) (h : ∀ G : Nat → PT, w_X11_leaders_0 (MS Z d) G Rp [.ref a0, .int x1] [] S (0, 0) μ ρ) : MS Z (d + 1) jX11_leaders [.ref a0, .int x1] S μ ρ Rp :=
  MS_of [.ref a0, .int x1] (by decide +kernel) rfl rfl (Nat.le_of_ble_eq_true rfl) rfl (fun p e R s m args below meth c C => b_X11_leaders_0 C _ _ _ _ _ _ (h _ ))
def F_X11_leaders : FT := fun As S μ ρ k => match As with
  | [.ref a, .int t] => S.2 a = (11, 11) ∧ a = 1 ∧ ∃ (A : Rw) (u : Nat) (D : Nat → Rw), TC A u D S μ ρ ∧ Gd A ∧ k (some (.int (vLeaders A t))) μ
  | _ => False
theorem r_X11_leaders {As S μ ρ k} (h : F_X11_leaders As S μ ρ k) : ∃ a As', As = Value.ref a :: As' ∧ S.2 a = (11, 11) := by
  unfold F_X11_leaders at h
  split at h
  · exact ⟨_, _, rfl, h.1⟩
  · exact h.elim
set_option maxHeartbeats 1000000 in
theorem f_X11_leaders {Z : Zt} {d : Nat} {As : List Value} {S : Sh} {μ : Mi} {ρ : Mr} {Rp : RT} (h : F_X11_leaders As S μ ρ (fun r μ' => Rp r S μ' ρ)) : MS Z (d + 1) jX11_leaders As S μ ρ Rp := by
  unfold F_X11_leaders at h
  split at h
  · rename_i a t
    obtain ⟨h1, rfl, A, u, D, hT, hG, h⟩ := h
    refine ms_X11_leaders _ _ (fun G => ?_)
    have hr := hT.1.2.1
    have hR := hT.2.1
    have hW := RR_W hR
    have i1 := hW.2.1.1
    have hq := hW.2.2.2.2.1
    have hw := hW.2.1
    unfold vLeaders at h
    have e := rg_05 (x := t) (lo := 1) (hi := 200) (l := 1) (h := 200) (by decide) (by decide)
    simp only [w_X11_leaders_0, w_X11_leaders_12, w_X11_leaders_17, w_X11_leaders_26, tAload, tIload, nth, tGetI, tGetR, tConst, tLconst, tBin, tUn, tI2l, tAld, tAldR, tAlen, tIast, tBast, tZast, tAast, tIret, tZret, tVret, tAret, tIf, tIf2, tGoto, tIstore, tAstore, sset, tIinc, tDup, tDup2, tPop, tPutI, tPutZ, tPutR, tCallV, tCallS, popN, tFn, tCopy, tMax, tMin, tSw, swc, tRem, tObjI, Option.toList, List.nil_append, List.cons_append, okR, true_and, and_true, true_or, or_true, Nat.zero_le, ne_eq, not_false_eq_true, Nat.reduceEqDiff, h1, hr, i1, hq, hw]
    refine ⟨fun c => ?_, fun c => ⟨fun c2 => ?_, fun c2 => ?_⟩⟩
    · rw [if_pos (fun z => (e.mpr z).1 c)] at h; exact h
    · have ct := e.mp ⟨c, c2⟩
      rw [if_neg (not_not_intro ct)] at h
      obtain ⟨t, rfl, t0, t1, t2⟩ := rg_ex (lo := 1) (hi := 200) ct
      rw [nI_clamp t0] at h ⊢
      rw [hR.1.2.2.2.1.2 t (by omega) (by omega)]
      exact ⟨inb_nI (by omega) (by decide), h⟩
    · rw [if_pos (fun z => c2 (e.mpr z).2)] at h; exact h
  · exact h.elim
def w_X11_cell_17 (M : CT) (G : Nat → PT) (Rp : RT) : PT := tAload 0 <| tGetR 11 11 0 <| tGetR 10 6 0 <| tIload 1 <| tAldR 37 <| tGetR 7 18 13 <| tIload 2 <| tAld 20 <| tIret Rp
def w_X11_cell_14 (M : CT) (G : Nat → PT) (Rp : RT) : PT := tConst (-2147483648) <| tIret Rp
def w_X11_cell_0 (M : CT) (G : Nat → PT) (Rp : RT) : PT := tIload 1 <| tFn 1 F_X11_isNoStore <| tIf (fun x => x ≠ 0) (w_X11_cell_14 M G Rp) <| tIload 2 <| tFn 1 F_X11_isNoCell <| tIf (fun x => x = 0) (w_X11_cell_17 M G Rp) <| w_X11_cell_14 M G Rp
set_option maxRecDepth 20000 in
theorem b_X11_cell_17 {Z : Zt} {d : Nat} {p : Program} {e : Env} {R : Room} {s : State} {m : MethodId} {args : Array Value} {below : List Frame} {meth : Method} {c : Code} {Rp : RT} (C : Cx Z (d + 1) jX11_cell RX11 p R s m args meth c) : Sd Z jX11_cell p e R s m args below meth c (MQ below (QcS Z Rp) args s 0 0 (fun a => Z.2.2.1 < a)) 17 (w_X11_cell_17 (MS Z (d + 1)) (Gw Z 3 p e R s m args below meth c (MQ below (QcS Z Rp) args s 0 0 (fun a => Z.2.2.1 < a))) Rp) := by
  unfold w_X11_cell_17
  refine s_aload_n (k := 0) C (by decide +kernel) ?_
  refine s_getR C w_2_234 (by decide +kernel) rfl ?_
  refine s_getR C w_2_116 (by decide +kernel) rfl ?_
  refine s_iload_n (k := 1) C (by decide +kernel) ?_
  refine s_aald C rfl (by decide +kernel) ?_
  refine s_getR C w_2_24 (by decide +kernel) rfl ?_
  refine s_iload_n (k := 2) C (by decide +kernel) ?_
  refine s_iald C (by decide +kernel) ?_
  exact s_iret C rfl (by decide +kernel)
set_option maxRecDepth 20000 in
theorem b_X11_cell_14 {Z : Zt} {d : Nat} {p : Program} {e : Env} {R : Room} {s : State} {m : MethodId} {args : Array Value} {below : List Frame} {meth : Method} {c : Code} {Rp : RT} (C : Cx Z (d + 1) jX11_cell RX11 p R s m args meth c) : Sd Z jX11_cell p e R s m args below meth c (MQ below (QcS Z Rp) args s 0 0 (fun a => Z.2.2.1 < a)) 14 (w_X11_cell_14 (MS Z (d + 1)) (Gw Z 3 p e R s m args below meth c (MQ below (QcS Z Rp) args s 0 0 (fun a => Z.2.2.1 < a))) Rp) := by
  unfold w_X11_cell_14
  refine s_ldc C w_5_102 (by decide +kernel) ?_
  exact s_iret C rfl (by decide +kernel)
set_option maxRecDepth 20000 in
theorem b_X11_cell_0 {Z : Zt} {d : Nat} {p : Program} {e : Env} {R : Room} {s : State} {m : MethodId} {args : Array Value} {below : List Frame} {meth : Method} {c : Code} {Rp : RT} (C : Cx Z (d + 1) jX11_cell RX11 p R s m args meth c) : Sd Z jX11_cell p e R s m args below meth c (MQ below (QcS Z Rp) args s 0 0 (fun a => Z.2.2.1 < a)) 0 (w_X11_cell_0 (MS Z (d + 1)) (Gw Z 3 p e R s m args below meth c (MQ below (QcS Z Rp) args s 0 0 (fun a => Z.2.2.1 < a))) Rp) := by
  unfold w_X11_cell_0
  refine s_iload_n (k := 1) C (by decide +kernel) ?_
  refine s_fnS C (j2 := jX11_isNoStore) (by decide +kernel) rfl w_5_100 w_3_103 w_1_1 w_3_104 (by decide +kernel) (fun _ _ _ _ _ h => f_X11_isNoStore h) ?_
  refine s_if_ne (off := 10) (tgt := 14) C (by decide +kernel) (by decide) (b_X11_cell_14 C) ?_
  refine s_iload_n (k := 2) C (by decide +kernel) ?_
  refine s_fnS C (j2 := jX11_isNoCell) (by decide +kernel) rfl w_5_101 w_3_211 w_1_1 w_3_212 (by decide +kernel) (fun _ _ _ _ _ h => f_X11_isNoCell h) ?_
  refine s_if_eq (off := 6) (tgt := 17) C (by decide +kernel) (by decide) (b_X11_cell_17 C) ?_
  exact (b_X11_cell_14 C)
theorem ms_X11_cell {Z : Zt} {d : Nat} {S : Sh} {μ : Mi} {ρ : Mr} {Rp : RT} (a0 : Nat) (x1 : Int32) (x2 : Int32) (h : ∀ G : Nat → PT, w_X11_cell_0 (MS Z (d + 1)) G Rp [.ref a0, .int x1, .int x2] [] S (0, 0) μ ρ) : MS Z (d + 2) jX11_cell [.ref a0, .int x1, .int x2] S μ ρ Rp :=
  MS_of [.ref a0, .int x1, .int x2] (by decide +kernel) rfl rfl (Nat.le_of_ble_eq_true rfl) rfl (fun p e R s m args below meth c C => b_X11_cell_0 C _ _ _ _ _ _ (h _ ))
def F_X11_cell : FT := fun As S μ ρ k => match As with
  | [.ref a, .int s, .int x] => S.2 a = (11, 11) ∧ a = 1 ∧ ∃ (A : Rw) (u : Nat) (D : Nat → Rw), TC A u D S μ ρ ∧ Gd A ∧ k (some (.int (vCell A s x))) μ
  | _ => False
theorem r_X11_cell {As S μ ρ k} (h : F_X11_cell As S μ ρ k) : ∃ a As', As = Value.ref a :: As' ∧ S.2 a = (11, 11) := by
  unfold F_X11_cell at h
  split at h
  · exact ⟨_, _, rfl, h.1⟩
  · exact h.elim
set_option maxHeartbeats 1000000 in
theorem f_X11_cell {Z : Zt} {d : Nat} {As : List Value} {S : Sh} {μ : Mi} {ρ : Mr} {Rp : RT} (h : F_X11_cell As S μ ρ (fun r μ' => Rp r S μ' ρ)) : MS Z (d + 2) jX11_cell As S μ ρ Rp := by
  unfold F_X11_cell at h
  split at h
  · rename_i a s x
    obtain ⟨h1, rfl, A, u, D, hT, hG, h⟩ := h
    refine ms_X11_cell _ _ _ (fun G => ?_)
    have hr := hT.1.2.1
    have hR := hT.2.1
    have hW := RR_W hR
    have i1 := hW.2.1.1
    have hq := hW.2.2.2.2.1
    have hw := hW.2.1
    unfold vCell at h
    simp only [w_X11_cell_0, w_X11_cell_14, tAload, tIload, nth, tGetI, tGetR, tConst, tLconst, tBin, tUn, tI2l, tAld, tAldR, tAlen, tIast, tBast, tZast, tAast, tIret, tZret, tVret, tAret, tIf, tIf2, tGoto, tIstore, tAstore, sset, tIinc, tDup, tDup2, tPop, tPutI, tPutZ, tPutR, tCallV, tCallS, popN, tFn, tCopy, tMax, tMin, tSw, swc, tRem, tObjI, Option.toList, List.nil_append, List.cons_append, okR, true_and, and_true, true_or, or_true, Nat.zero_le, ne_eq, not_false_eq_true, Nat.reduceEqDiff, F_X11_isNoStore, F_X11_isNoCell, b2_z, Decidable.not_not]
    refine ⟨fun c => ?_, fun c => ⟨fun cc => ?_, fun cc => ?_⟩⟩
    · rw [if_pos (fun z => c z.1)] at h; exact h
    rotate_left
    · rw [if_pos (fun z => cc z.2)] at h; exact h
    rw [if_neg (not_not_intro ⟨c, cc⟩)] at h
    obtain ⟨s, rfl, s0, -, s5⟩ := rg_ex (lo := 0) (hi := 4) c
    have hs : s < 5 := by omega
    obtain ⟨x1, x2, x3⟩ := W_st hW hs
    have x2' := x2
    unfold StS at x2
    have hSt := RR_st hR hs
    have hi5 := inb_nI hs (show (5 : Nat) < 2 ^ 31 by decide)
    obtain ⟨x, rfl, y0, -, y5⟩ := rg_ex (lo := 0) (hi := 3) cc
    rw [nI_clamp s0, nI_clamp y0] at h
    simp only [w_X11_cell_17, tAload, tIload, nth, tGetI, tGetR, tConst, tLconst, tBin, tUn, tI2l, tAld, tAldR, tAlen, tIast, tBast, tZast, tAast, tIret, tZret, tVret, tAret, tIf, tIf2, tGoto, tIstore, tAstore, sset, tIinc, tDup, tDup2, tPop, tPutI, tPutZ, tPutR, tCallV, tCallS, popN, tFn, tCopy, tMax, tMin, tSw, swc, tRem, tObjI, Option.toList, List.nil_append, List.cons_append, okR, true_and, and_true, true_or, or_true, Nat.zero_le, ne_eq, not_false_eq_true, Nat.reduceEqDiff, h1, hr, i1, hq, hw, nI_clamp s0, nI_clamp y0, x3, x1, x2, hi5]
    rw [hSt.2.2.1.1 x (by omega)]
    exact ⟨by omega, inb_nI (by omega) (by decide), h⟩
  · exact h.elim
def w_X11_linked_45 (M : CT) (G : Nat → PT) (Rp : RT) : PT := tIret Rp
def w_X11_linked_44 (M : CT) (G : Nat → PT) (Rp : RT) : PT := tConst 1 <| w_X11_linked_45 M G Rp
def w_X11_linked_25 (M : CT) (G : Nat → PT) (Rp : RT) : PT := tAload 0 <| tGetR 11 11 0 <| tGetR 10 6 1 <| tIload 1 <| tIload 2 <| tFn 3 F_X1_isCut <| tIf (fun x => x = 0) (w_X11_linked_44 M G Rp) <| tConst 0 <| tGoto (w_X11_linked_45 M G Rp)
def w_X11_linked_17 (M : CT) (G : Nat → PT) (Rp : RT) : PT := tIload 1 <| tIload 2 <| tIf2 (fun x y => x ≠ y) (w_X11_linked_25 M G Rp) <| tConst (-3) <| tIret Rp
def w_X11_linked_14 (M : CT) (G : Nat → PT) (Rp : RT) : PT := tConst (-2) <| tIret Rp
def w_X11_linked_0 (M : CT) (G : Nat → PT) (Rp : RT) : PT := tIload 1 <| tFn 1 F_X11_isNoStore <| tIf (fun x => x ≠ 0) (w_X11_linked_14 M G Rp) <| tIload 2 <| tFn 1 F_X11_isNoStore <| tIf (fun x => x = 0) (w_X11_linked_17 M G Rp) <| w_X11_linked_14 M G Rp
set_option maxRecDepth 20000 in
theorem b_X11_linked_45 {Z : Zt} {d : Nat} {p : Program} {e : Env} {R : Room} {s : State} {m : MethodId} {args : Array Value} {below : List Frame} {meth : Method} {c : Code} {Rp : RT} (C : Cx Z (d + 1) jX11_linked RX11 p R s m args meth c) : Sd Z jX11_linked p e R s m args below meth c (MQ below (QcS Z Rp) args s 0 0 (fun a => Z.2.2.1 < a)) 45 (w_X11_linked_45 (MS Z (d + 1)) (Gw Z 3 p e R s m args below meth c (MQ below (QcS Z Rp) args s 0 0 (fun a => Z.2.2.1 < a))) Rp) := by
  unfold w_X11_linked_45
  exact s_iret C rfl (by decide +kernel)
set_option maxRecDepth 20000 in
theorem b_X11_linked_44 {Z : Zt} {d : Nat} {p : Program} {e : Env} {R : Room} {s : State} {m : MethodId} {args : Array Value} {below : List Frame} {meth : Method} {c : Code} {Rp : RT} (C : Cx Z (d + 1) jX11_linked RX11 p R s m args meth c) : Sd Z jX11_linked p e R s m args below meth c (MQ below (QcS Z Rp) args s 0 0 (fun a => Z.2.2.1 < a)) 44 (w_X11_linked_44 (MS Z (d + 1)) (Gw Z 3 p e R s m args below meth c (MQ below (QcS Z Rp) args s 0 0 (fun a => Z.2.2.1 < a))) Rp) := by
  unfold w_X11_linked_44
  refine s_iconst (n := 1) C (by decide +kernel) (by decide) ?_
  exact (b_X11_linked_45 C)
set_option maxRecDepth 20000 in
theorem b_X11_linked_25 {Z : Zt} {d : Nat} {p : Program} {e : Env} {R : Room} {s : State} {m : MethodId} {args : Array Value} {below : List Frame} {meth : Method} {c : Code} {Rp : RT} (C : Cx Z (d + 1) jX11_linked RX11 p R s m args meth c) : Sd Z jX11_linked p e R s m args below meth c (MQ below (QcS Z Rp) args s 0 0 (fun a => Z.2.2.1 < a)) 25 (w_X11_linked_25 (MS Z (d + 1)) (Gw Z 3 p e R s m args below meth c (MQ below (QcS Z Rp) args s 0 0 (fun a => Z.2.2.1 < a))) Rp) := by
  unfold w_X11_linked_25
  refine s_aload_n (k := 0) C (by decide +kernel) ?_
  refine s_getR C w_2_234 (by decide +kernel) rfl ?_
  refine s_getR C w_2_120 (by decide +kernel) rfl ?_
  refine s_iload_n (k := 1) C (by decide +kernel) ?_
  refine s_iload_n (k := 2) C (by decide +kernel) ?_
  refine s_fnV C (j2 := jX1_isCut) (cl := 1) (nf := 6) rfl rfl (by decide +kernel) rfl w_5_142 w_4_48 w_4_49 w_1_3 w_4_50 (by decide +kernel) (fun _ _ _ _ _ h => f_X1_isCut h) (fun _ _ _ _ _ h => r_X1_isCut h) ?_
  refine s_if_eq (off := 7) (tgt := 44) C (by decide +kernel) (by decide) (b_X11_linked_44 C) ?_
  refine s_iconst (n := 0) C (by decide +kernel) (by decide) ?_
  exact s_goto (off := 4) (tgt := 45) C (by decide +kernel) (by decide) (b_X11_linked_45 C)
set_option maxRecDepth 20000 in
theorem b_X11_linked_17 {Z : Zt} {d : Nat} {p : Program} {e : Env} {R : Room} {s : State} {m : MethodId} {args : Array Value} {below : List Frame} {meth : Method} {c : Code} {Rp : RT} (C : Cx Z (d + 1) jX11_linked RX11 p R s m args meth c) : Sd Z jX11_linked p e R s m args below meth c (MQ below (QcS Z Rp) args s 0 0 (fun a => Z.2.2.1 < a)) 17 (w_X11_linked_17 (MS Z (d + 1)) (Gw Z 3 p e R s m args below meth c (MQ below (QcS Z Rp) args s 0 0 (fun a => Z.2.2.1 < a))) Rp) := by
  unfold w_X11_linked_17
  refine s_iload_n (k := 1) C (by decide +kernel) ?_
  refine s_iload_n (k := 2) C (by decide +kernel) ?_
  refine s_icmp_ne (off := 6) (tgt := 25) C (by decide +kernel) (by decide) (b_X11_linked_25 C) ?_
  refine s_bipush (n := (-3)) C (by decide +kernel) (by decide) ?_
  exact s_iret C rfl (by decide +kernel)
set_option maxRecDepth 20000 in
theorem b_X11_linked_14 {Z : Zt} {d : Nat} {p : Program} {e : Env} {R : Room} {s : State} {m : MethodId} {args : Array Value} {below : List Frame} {meth : Method} {c : Code} {Rp : RT} (C : Cx Z (d + 1) jX11_linked RX11 p R s m args meth c) : Sd Z jX11_linked p e R s m args below meth c (MQ below (QcS Z Rp) args s 0 0 (fun a => Z.2.2.1 < a)) 14 (w_X11_linked_14 (MS Z (d + 1)) (Gw Z 3 p e R s m args below meth c (MQ below (QcS Z Rp) args s 0 0 (fun a => Z.2.2.1 < a))) Rp) := by
  unfold w_X11_linked_14
  refine s_bipush (n := (-2)) C (by decide +kernel) (by decide) ?_
  exact s_iret C rfl (by decide +kernel)
set_option maxRecDepth 20000 in
theorem b_X11_linked_0 {Z : Zt} {d : Nat} {p : Program} {e : Env} {R : Room} {s : State} {m : MethodId} {args : Array Value} {below : List Frame} {meth : Method} {c : Code} {Rp : RT} (C : Cx Z (d + 1) jX11_linked RX11 p R s m args meth c) : Sd Z jX11_linked p e R s m args below meth c (MQ below (QcS Z Rp) args s 0 0 (fun a => Z.2.2.1 < a)) 0 (w_X11_linked_0 (MS Z (d + 1)) (Gw Z 3 p e R s m args below meth c (MQ below (QcS Z Rp) args s 0 0 (fun a => Z.2.2.1 < a))) Rp) := by
  unfold w_X11_linked_0
  refine s_iload_n (k := 1) C (by decide +kernel) ?_
  refine s_fnS C (j2 := jX11_isNoStore) (by decide +kernel) rfl w_5_100 w_3_103 w_1_1 w_3_104 (by decide +kernel) (fun _ _ _ _ _ h => f_X11_isNoStore h) ?_
  refine s_if_ne (off := 10) (tgt := 14) C (by decide +kernel) (by decide) (b_X11_linked_14 C) ?_
  refine s_iload_n (k := 2) C (by decide +kernel) ?_
  refine s_fnS C (j2 := jX11_isNoStore) (by decide +kernel) rfl w_5_100 w_3_103 w_1_1 w_3_104 (by decide +kernel) (fun _ _ _ _ _ h => f_X11_isNoStore h) ?_
  refine s_if_eq (off := 6) (tgt := 17) C (by decide +kernel) (by decide) (b_X11_linked_17 C) ?_
  exact (b_X11_linked_14 C)
theorem ms_X11_linked {Z : Zt} {d : Nat} {S : Sh} {μ : Mi} {ρ : Mr} {Rp : RT} (a0 : Nat) (x1 : Int32) (x2 : Int32) (h : ∀ G : Nat → PT, w_X11_linked_0 (MS Z (d + 1)) G Rp [.ref a0, .int x1, .int x2] [] S (0, 0) μ ρ) : MS Z (d + 2) jX11_linked [.ref a0, .int x1, .int x2] S μ ρ Rp :=
  MS_of [.ref a0, .int x1, .int x2] (by decide +kernel) rfl rfl (Nat.le_of_ble_eq_true rfl) rfl (fun p e R s m args below meth c C => b_X11_linked_0 C _ _ _ _ _ _ (h _ ))
def F_X11_linked : FT := fun As S μ ρ k => match As with
  | [.ref a, .int x, .int y] => S.2 a = (11, 11) ∧ a = 1 ∧ ∃ (A : Rw) (u : Nat) (D : Nat → Rw), TC A u D S μ ρ ∧ Gd A ∧ k (some (.int (vLinked A x y))) μ
  | _ => False
theorem r_X11_linked {As S μ ρ k} (h : F_X11_linked As S μ ρ k) : ∃ a As', As = Value.ref a :: As' ∧ S.2 a = (11, 11) := by
  unfold F_X11_linked at h
  split at h
  · exact ⟨_, _, rfl, h.1⟩
  · exact h.elim
set_option maxHeartbeats 1000000 in
theorem f_X11_linked {Z : Zt} {d : Nat} {As : List Value} {S : Sh} {μ : Mi} {ρ : Mr} {Rp : RT} (h : F_X11_linked As S μ ρ (fun r μ' => Rp r S μ' ρ)) : MS Z (d + 2) jX11_linked As S μ ρ Rp := by
  unfold F_X11_linked at h
  split at h
  · rename_i a x y
    obtain ⟨h1, rfl, A, u, D, hT, hG, h⟩ := h
    refine ms_X11_linked _ _ _ (fun G => ?_)
    have hr := hT.1.2.1
    have hR := hT.2.1
    have hW := RR_W hR
    have i1 := hW.2.1.1
    have hq := hW.2.2.2.2.1
    have hw := hW.2.1
    unfold vLinked at h
    have e5 : μ (2 + 2) 5 = A 4513 ^^^ 33554431 := hR.1.2.2.1.1.2.2.2
    simp only [w_X11_linked_0, w_X11_linked_14, w_X11_linked_17, w_X11_linked_25, w_X11_linked_44, w_X11_linked_45, tAload, tIload, nth, tGetI, tGetR, tConst, tLconst, tBin, tUn, tI2l, tAld, tAldR, tAlen, tIast, tBast, tZast, tAast, tIret, tZret, tVret, tAret, tIf, tIf2, tGoto, tIstore, tAstore, sset, tIinc, tDup, tDup2, tPop, tPutI, tPutZ, tPutR, tCallV, tCallS, popN, tFn, tCopy, tMax, tMin, tSw, swc, tRem, tObjI, Option.toList, List.nil_append, List.cons_append, okR, true_and, and_true, true_or, or_true, Nat.zero_le, ne_eq, not_false_eq_true, Nat.reduceEqDiff, F_X11_isNoStore, F_X1_isCut, b2_z, h1, hr, i1, hq, hw, Decidable.not_not]
    refine ⟨fun c => ?_, fun c => ⟨fun cy => ⟨fun ce => ?_, fun ce => ?_⟩, fun cy => ?_⟩⟩
    · rw [if_pos (fun z => c z.1)] at h; exact h
    · rw [if_neg (not_not_intro ⟨c, cy⟩), if_neg ce] at h
      obtain ⟨p, rfl, p0, -, p5⟩ := rg_ex (lo := 0) (hi := 4) c
      obtain ⟨q, rfl, q0, -, q5⟩ := rg_ex (lo := 0) (hi := 4) cy
      have cc : ((μ (2 + 2) 5 >>> ((nI p * 5 + nI q) &&& 31)) &&& 1 = 1) ↔ ¬ (A 4513 >>> ((5 * nI p + nI q) &&& 31)) &&& 1 = 1 := by
        rw [ix5', ix5, e5]
        exact cut_bit (by omega)
      refine ⟨fun z => ?_, fun z => ?_⟩
      · rw [if_pos (Classical.not_not.mp (fun y => z (cc.mpr y)))] at h; exact h
      · rw [if_neg (cc.mp z)] at h; exact h
    · rw [if_neg (not_not_intro ⟨c, cy⟩), if_pos ce] at h; exact h
    · rw [if_pos (fun z => cy z.2)] at h; exact h
  · exact h.elim
def w_X11_grants_20 (M : CT) (G : Nat → PT) (Rp : RT) : PT := tIret Rp
def w_X11_grants_12 (M : CT) (G : Nat → PT) (Rp : RT) : PT := tAload 0 <| tGetR 11 11 0 <| tIload 1 <| tFn 2 F_X8_granting <| w_X11_grants_20 M G Rp
def w_X11_grants_0 (M : CT) (G : Nat → PT) (Rp : RT) : PT := tIload 1 <| tFn 1 F_X11_isNoStore <| tIf (fun x => x = 0) (w_X11_grants_12 M G Rp) <| tConst (-2) <| tGoto (w_X11_grants_20 M G Rp)
set_option maxRecDepth 20000 in
theorem b_X11_grants_20 {Z : Zt} {d : Nat} {p : Program} {e : Env} {R : Room} {s : State} {m : MethodId} {args : Array Value} {below : List Frame} {meth : Method} {c : Code} {Rp : RT} (C : Cx Z (d + 3) jX11_grants RX11 p R s m args meth c) : Sd Z jX11_grants p e R s m args below meth c (MQ below (QcS Z Rp) args s 0 0 (fun a => Z.2.2.1 < a)) 20 (w_X11_grants_20 (MS Z (d + 3)) (Gw Z 2 p e R s m args below meth c (MQ below (QcS Z Rp) args s 0 0 (fun a => Z.2.2.1 < a))) Rp) := by
  unfold w_X11_grants_20
  exact s_iret C rfl (by decide +kernel)
set_option maxRecDepth 20000 in
theorem b_X11_grants_12 {Z : Zt} {d : Nat} {p : Program} {e : Env} {R : Room} {s : State} {m : MethodId} {args : Array Value} {below : List Frame} {meth : Method} {c : Code} {Rp : RT} (C : Cx Z (d + 3) jX11_grants RX11 p R s m args meth c) : Sd Z jX11_grants p e R s m args below meth c (MQ below (QcS Z Rp) args s 0 0 (fun a => Z.2.2.1 < a)) 12 (w_X11_grants_12 (MS Z (d + 3)) (Gw Z 2 p e R s m args below meth c (MQ below (QcS Z Rp) args s 0 0 (fun a => Z.2.2.1 < a))) Rp) := by
  unfold w_X11_grants_12
  refine s_aload_n (k := 0) C (by decide +kernel) ?_
  refine s_getR C w_2_234 (by decide +kernel) rfl ?_
  refine s_iload_n (k := 1) C (by decide +kernel) ?_
  refine s_fnS C (j2 := jX8_granting) (by decide +kernel) rfl w_5_156 w_5_157 w_1_21 w_5_158 (by decide +kernel) (fun _ _ _ _ _ h => f_X8_granting h) ?_
  exact (b_X11_grants_20 C)
set_option maxRecDepth 20000 in
theorem b_X11_grants_0 {Z : Zt} {d : Nat} {p : Program} {e : Env} {R : Room} {s : State} {m : MethodId} {args : Array Value} {below : List Frame} {meth : Method} {c : Code} {Rp : RT} (C : Cx Z (d + 3) jX11_grants RX11 p R s m args meth c) : Sd Z jX11_grants p e R s m args below meth c (MQ below (QcS Z Rp) args s 0 0 (fun a => Z.2.2.1 < a)) 0 (w_X11_grants_0 (MS Z (d + 3)) (Gw Z 2 p e R s m args below meth c (MQ below (QcS Z Rp) args s 0 0 (fun a => Z.2.2.1 < a))) Rp) := by
  unfold w_X11_grants_0
  refine s_iload_n (k := 1) C (by decide +kernel) ?_
  refine s_fnS C (j2 := jX11_isNoStore) (by decide +kernel) rfl w_5_100 w_3_103 w_1_1 w_3_104 (by decide +kernel) (fun _ _ _ _ _ h => f_X11_isNoStore h) ?_
  refine s_if_eq (off := 8) (tgt := 12) C (by decide +kernel) (by decide) (b_X11_grants_12 C) ?_
  refine s_bipush (n := (-2)) C (by decide +kernel) (by decide) ?_
  exact s_goto (off := 11) (tgt := 20) C (by decide +kernel) (by decide) (b_X11_grants_20 C)
theorem ms_X11_grants {Z : Zt} {d : Nat} {S : Sh} {μ : Mi} {ρ : Mr} {Rp : RT} (a0 : Nat) (x1 : Int32) (h : ∀ G : Nat → PT, w_X11_grants_0 (MS Z (d + 3)) G Rp [.ref a0, .int x1] [] S (0, 0) μ ρ) : MS Z (d + 4) jX11_grants [.ref a0, .int x1] S μ ρ Rp :=
  MS_of [.ref a0, .int x1] (by decide +kernel) rfl rfl (Nat.le_of_ble_eq_true rfl) rfl (fun p e R s m args below meth c C => b_X11_grants_0 C _ _ _ _ _ _ (h _ ))
def F_X11_grants : FT := fun As S μ ρ k => match As with
  | [.ref a, .int s] => S.2 a = (11, 11) ∧ a = 1 ∧ ∃ (A : Rw) (u : Nat) (D : Nat → Rw), TC A u D S μ ρ ∧ Gd A ∧ k (some (.int (vGrants A s))) μ
  | _ => False
theorem r_X11_grants {As S μ ρ k} (h : F_X11_grants As S μ ρ k) : ∃ a As', As = Value.ref a :: As' ∧ S.2 a = (11, 11) := by
  unfold F_X11_grants at h
  split at h
  · exact ⟨_, _, rfl, h.1⟩
  · exact h.elim
set_option maxHeartbeats 1000000 in
theorem f_X11_grants {Z : Zt} {d : Nat} {As : List Value} {S : Sh} {μ : Mi} {ρ : Mr} {Rp : RT} (h : F_X11_grants As S μ ρ (fun r μ' => Rp r S μ' ρ)) : MS Z (d + 4) jX11_grants As S μ ρ Rp := by
  unfold F_X11_grants at h
  split at h
  · rename_i a s
    obtain ⟨h1, rfl, A, u, D, hT, hG, h⟩ := h
    refine ms_X11_grants _ _ (fun G => ?_)
    have hr := hT.1.2.1
    have hR := hT.2.1
    have hW := RR_W hR
    have i1 := hW.2.1.1
    have hq := hW.2.2.2.2.1
    have hw := hW.2.1
    unfold vGrants at h
    simp only [w_X11_grants_0, w_X11_grants_12, w_X11_grants_20, tAload, tIload, nth, tGetI, tGetR, tConst, tLconst, tBin, tUn, tI2l, tAld, tAldR, tAlen, tIast, tBast, tZast, tAast, tIret, tZret, tVret, tAret, tIf, tIf2, tGoto, tIstore, tAstore, sset, tIinc, tDup, tDup2, tPop, tPutI, tPutZ, tPutR, tCallV, tCallS, popN, tFn, tCopy, tMax, tMin, tSw, swc, tRem, tObjI, Option.toList, List.nil_append, List.cons_append, okR, true_and, and_true, true_or, or_true, Nat.zero_le, ne_eq, not_false_eq_true, Nat.reduceEqDiff, F_X11_isNoStore, F_X8_granting, b2_z, h1, hr, i1, Decidable.not_not]
    refine ⟨fun c => ?_, fun c => ?_⟩
    rotate_left
    · rw [if_pos c] at h; exact h
    rw [if_neg (not_not_intro c)] at h
    obtain ⟨s, rfl, s0, -, s5⟩ := rg_ex (lo := 0) (hi := 4) c
    rw [nI_clamp s0] at h
    exact ⟨s, A, hR, rfl, by omega, h⟩
  · exact h.elim
def w_X11_electable_33 (M : CT) (G : Nat → PT) (Rp : RT) : PT := tIret Rp
def w_X11_electable_32 (M : CT) (G : Nat → PT) (Rp : RT) : PT := tConst 0 <| w_X11_electable_33 M G Rp
def w_X11_electable_10 (M : CT) (G : Nat → PT) (Rp : RT) : PT := tAload 0 <| tGetR 11 11 0 <| tIload 1 <| tAload 0 <| tGetR 11 11 0 <| tFn 1 F_X10_whoIsUp <| tFn 3 F_X8_canBeElected <| tIf (fun x => x = 0) (w_X11_electable_32 M G Rp) <| tConst 1 <| tGoto (w_X11_electable_33 M G Rp)
def w_X11_electable_0 (M : CT) (G : Nat → PT) (Rp : RT) : PT := tIload 1 <| tFn 1 F_X11_isNoStore <| tIf (fun x => x = 0) (w_X11_electable_10 M G Rp) <| tConst (-2) <| tIret Rp
set_option maxRecDepth 20000 in
theorem b_X11_electable_33 {Z : Zt} {d : Nat} {p : Program} {e : Env} {R : Room} {s : State} {m : MethodId} {args : Array Value} {below : List Frame} {meth : Method} {c : Code} {Rp : RT} (C : Cx Z (d + 4) jX11_electable RX11 p R s m args meth c) : Sd Z jX11_electable p e R s m args below meth c (MQ below (QcS Z Rp) args s 0 0 (fun a => Z.2.2.1 < a)) 33 (w_X11_electable_33 (MS Z (d + 4)) (Gw Z 2 p e R s m args below meth c (MQ below (QcS Z Rp) args s 0 0 (fun a => Z.2.2.1 < a))) Rp) := by
  unfold w_X11_electable_33
  exact s_iret C rfl (by decide +kernel)
set_option maxRecDepth 20000 in
theorem b_X11_electable_32 {Z : Zt} {d : Nat} {p : Program} {e : Env} {R : Room} {s : State} {m : MethodId} {args : Array Value} {below : List Frame} {meth : Method} {c : Code} {Rp : RT} (C : Cx Z (d + 4) jX11_electable RX11 p R s m args meth c) : Sd Z jX11_electable p e R s m args below meth c (MQ below (QcS Z Rp) args s 0 0 (fun a => Z.2.2.1 < a)) 32 (w_X11_electable_32 (MS Z (d + 4)) (Gw Z 2 p e R s m args below meth c (MQ below (QcS Z Rp) args s 0 0 (fun a => Z.2.2.1 < a))) Rp) := by
  unfold w_X11_electable_32
  refine s_iconst (n := 0) C (by decide +kernel) (by decide) ?_
  exact (b_X11_electable_33 C)
set_option maxRecDepth 20000 in
theorem b_X11_electable_10 {Z : Zt} {d : Nat} {p : Program} {e : Env} {R : Room} {s : State} {m : MethodId} {args : Array Value} {below : List Frame} {meth : Method} {c : Code} {Rp : RT} (C : Cx Z (d + 4) jX11_electable RX11 p R s m args meth c) : Sd Z jX11_electable p e R s m args below meth c (MQ below (QcS Z Rp) args s 0 0 (fun a => Z.2.2.1 < a)) 10 (w_X11_electable_10 (MS Z (d + 4)) (Gw Z 2 p e R s m args below meth c (MQ below (QcS Z Rp) args s 0 0 (fun a => Z.2.2.1 < a))) Rp) := by
  unfold w_X11_electable_10
  refine s_aload_n (k := 0) C (by decide +kernel) ?_
  refine s_getR C w_2_234 (by decide +kernel) rfl ?_
  refine s_iload_n (k := 1) C (by decide +kernel) ?_
  refine s_aload_n (k := 0) C (by decide +kernel) ?_
  refine s_getR C w_2_234 (by decide +kernel) rfl ?_
  refine s_fnV C (j2 := jX10_whoIsUp) (cl := 10) (nf := 6) rfl rfl (by decide +kernel) rfl w_5_164 w_5_165 w_5_166 w_1_2 w_5_167 (by decide +kernel) (fun _ _ _ _ _ h => f_X10_whoIsUp h) (fun _ _ _ _ _ h => r_X10_whoIsUp h) ?_
  refine s_fnS C (j2 := jX8_canBeElected) (by decide +kernel) rfl w_5_168 w_5_169 w_1_21 w_5_170 (by decide +kernel) (fun _ _ _ _ _ h => f_X8_canBeElected h) ?_
  refine s_if_eq (off := 7) (tgt := 32) C (by decide +kernel) (by decide) (b_X11_electable_32 C) ?_
  refine s_iconst (n := 1) C (by decide +kernel) (by decide) ?_
  exact s_goto (off := 4) (tgt := 33) C (by decide +kernel) (by decide) (b_X11_electable_33 C)
set_option maxRecDepth 20000 in
theorem b_X11_electable_0 {Z : Zt} {d : Nat} {p : Program} {e : Env} {R : Room} {s : State} {m : MethodId} {args : Array Value} {below : List Frame} {meth : Method} {c : Code} {Rp : RT} (C : Cx Z (d + 4) jX11_electable RX11 p R s m args meth c) : Sd Z jX11_electable p e R s m args below meth c (MQ below (QcS Z Rp) args s 0 0 (fun a => Z.2.2.1 < a)) 0 (w_X11_electable_0 (MS Z (d + 4)) (Gw Z 2 p e R s m args below meth c (MQ below (QcS Z Rp) args s 0 0 (fun a => Z.2.2.1 < a))) Rp) := by
  unfold w_X11_electable_0
  refine s_iload_n (k := 1) C (by decide +kernel) ?_
  refine s_fnS C (j2 := jX11_isNoStore) (by decide +kernel) rfl w_5_100 w_3_103 w_1_1 w_3_104 (by decide +kernel) (fun _ _ _ _ _ h => f_X11_isNoStore h) ?_
  refine s_if_eq (off := 6) (tgt := 10) C (by decide +kernel) (by decide) (b_X11_electable_10 C) ?_
  refine s_bipush (n := (-2)) C (by decide +kernel) (by decide) ?_
  exact s_iret C rfl (by decide +kernel)
theorem ms_X11_electable {Z : Zt} {d : Nat} {S : Sh} {μ : Mi} {ρ : Mr} {Rp : RT} (a0 : Nat) (x1 : Int32) (h : ∀ G : Nat → PT, w_X11_electable_0 (MS Z (d + 4)) G Rp [.ref a0, .int x1] [] S (0, 0) μ ρ) : MS Z (d + 5) jX11_electable [.ref a0, .int x1] S μ ρ Rp :=
  MS_of [.ref a0, .int x1] (by decide +kernel) rfl rfl (Nat.le_of_ble_eq_true rfl) rfl (fun p e R s m args below meth c C => b_X11_electable_0 C _ _ _ _ _ _ (h _ ))
def F_X11_electable : FT := fun As S μ ρ k => match As with
  | [.ref a, .int s] => S.2 a = (11, 11) ∧ a = 1 ∧ ∃ (A : Rw) (u : Nat) (D : Nat → Rw), TC A u D S μ ρ ∧ Gd A ∧ k (some (.int (vElectable A s))) μ
  | _ => False
theorem r_X11_electable {As S μ ρ k} (h : F_X11_electable As S μ ρ k) : ∃ a As', As = Value.ref a :: As' ∧ S.2 a = (11, 11) := by
  unfold F_X11_electable at h
  split at h
  · exact ⟨_, _, rfl, h.1⟩
  · exact h.elim
set_option maxHeartbeats 1000000 in
theorem f_X11_electable {Z : Zt} {d : Nat} {As : List Value} {S : Sh} {μ : Mi} {ρ : Mr} {Rp : RT} (h : F_X11_electable As S μ ρ (fun r μ' => Rp r S μ' ρ)) : MS Z (d + 5) jX11_electable As S μ ρ Rp := by
  unfold F_X11_electable at h
  split at h
  · rename_i a s
    obtain ⟨h1, rfl, A, u, D, hT, hG, h⟩ := h
    refine ms_X11_electable _ _ (fun G => ?_)
    have hr := hT.1.2.1
    have hR := hT.2.1
    have hW := RR_W hR
    have i1 := hW.2.1.1
    have hq := hW.2.2.2.2.1
    have hw := hW.2.1
    unfold vElectable at h
    simp only [w_X11_electable_0, w_X11_electable_10, w_X11_electable_32, w_X11_electable_33, tAload, tIload, nth, tGetI, tGetR, tConst, tLconst, tBin, tUn, tI2l, tAld, tAldR, tAlen, tIast, tBast, tZast, tAast, tIret, tZret, tVret, tAret, tIf, tIf2, tGoto, tIstore, tAstore, sset, tIinc, tDup, tDup2, tPop, tPutI, tPutZ, tPutR, tCallV, tCallS, popN, tFn, tCopy, tMax, tMin, tSw, swc, tRem, tObjI, Option.toList, List.nil_append, List.cons_append, okR, true_and, and_true, true_or, or_true, Nat.zero_le, ne_eq, not_false_eq_true, Nat.reduceEqDiff, F_X11_isNoStore, F_X10_whoIsUp, F_X8_canBeElected, b2_z, h1, hr, i1, Decidable.not_not]
    refine ⟨fun c => ?_, fun c => ?_⟩
    rotate_left
    · rw [if_pos c] at h; exact h
    rw [if_neg (not_not_intro c)] at h
    obtain ⟨s, rfl, s0, -, s5⟩ := rg_ex (lo := 0) (hi := 4) c
    rw [nI_clamp s0] at h
    refine ⟨A, hR, s, A, hR, rfl, by omega, fun z => ?_, fun z => ?_⟩
    · rw [if_neg z] at h; exact h
    · rw [if_pos z] at h; exact h
  · exact h.elim
def w_X11_first_27 (M : CT) (G : Nat → PT) (Rp : RT) : PT := tAload 0 <| tGetR 11 11 0 <| tGetR 10 6 1 <| tIload 1 <| tIload 2 <| tIload 3 <| tFn 4 F_X1_find <| tIret Rp
def w_X11_first_24 (M : CT) (G : Nat → PT) (Rp : RT) : PT := tConst (-2) <| tIret Rp
def w_X11_first_0 (M : CT) (G : Nat → PT) (Rp : RT) : PT := tIload 1 <| tFn 1 F_X11_isNoStore <| tIf (fun x => x ≠ 0) (w_X11_first_24 M G Rp) <| tIload 2 <| tFn 1 F_X11_isNoStore <| tIf (fun x => x ≠ 0) (w_X11_first_24 M G Rp) <| tIload 3 <| tIf (fun x => x < 0) (w_X11_first_24 M G Rp) <| tIload 3 <| tConst 8 <| tIf2 (fun x y => x ≤ y) (w_X11_first_27 M G Rp) <| w_X11_first_24 M G Rp
set_option maxRecDepth 20000 in
theorem b_X11_first_27 {Z : Zt} {d : Nat} {p : Program} {e : Env} {R : Room} {s : State} {m : MethodId} {args : Array Value} {below : List Frame} {meth : Method} {c : Code} {Rp : RT} (C : Cx Z (d + 1) jX11_first RX11 p R s m args meth c) : Sd Z jX11_first p e R s m args below meth c (MQ below (QcS Z Rp) args s 0 0 (fun a => Z.2.2.1 < a)) 27 (w_X11_first_27 (MS Z (d + 1)) (Gw Z 4 p e R s m args below meth c (MQ below (QcS Z Rp) args s 0 0 (fun a => Z.2.2.1 < a))) Rp) := by
  unfold w_X11_first_27
  refine s_aload_n (k := 0) C (by decide +kernel) ?_
  refine s_getR C w_2_234 (by decide +kernel) rfl ?_
  refine s_getR C w_2_120 (by decide +kernel) rfl ?_
  refine s_iload_n (k := 1) C (by decide +kernel) ?_
  refine s_iload_n (k := 2) C (by decide +kernel) ?_
  refine s_iload_n (k := 3) C (by decide +kernel) ?_
  refine s_fnV C (j2 := jX1_find) (cl := 1) (nf := 6) rfl rfl (by decide +kernel) rfl w_5_134 w_5_135 w_5_136 w_1_3 w_5_137 (by decide +kernel) (fun _ _ _ _ _ h => f_X1_find h) (fun _ _ _ _ _ h => r_X1_find h) ?_
  exact s_iret C rfl (by decide +kernel)
set_option maxRecDepth 20000 in
theorem b_X11_first_24 {Z : Zt} {d : Nat} {p : Program} {e : Env} {R : Room} {s : State} {m : MethodId} {args : Array Value} {below : List Frame} {meth : Method} {c : Code} {Rp : RT} (C : Cx Z (d + 1) jX11_first RX11 p R s m args meth c) : Sd Z jX11_first p e R s m args below meth c (MQ below (QcS Z Rp) args s 0 0 (fun a => Z.2.2.1 < a)) 24 (w_X11_first_24 (MS Z (d + 1)) (Gw Z 4 p e R s m args below meth c (MQ below (QcS Z Rp) args s 0 0 (fun a => Z.2.2.1 < a))) Rp) := by
  unfold w_X11_first_24
  refine s_bipush (n := (-2)) C (by decide +kernel) (by decide) ?_
  exact s_iret C rfl (by decide +kernel)
set_option maxRecDepth 20000 in
theorem b_X11_first_0 {Z : Zt} {d : Nat} {p : Program} {e : Env} {R : Room} {s : State} {m : MethodId} {args : Array Value} {below : List Frame} {meth : Method} {c : Code} {Rp : RT} (C : Cx Z (d + 1) jX11_first RX11 p R s m args meth c) : Sd Z jX11_first p e R s m args below meth c (MQ below (QcS Z Rp) args s 0 0 (fun a => Z.2.2.1 < a)) 0 (w_X11_first_0 (MS Z (d + 1)) (Gw Z 4 p e R s m args below meth c (MQ below (QcS Z Rp) args s 0 0 (fun a => Z.2.2.1 < a))) Rp) := by
  unfold w_X11_first_0
  refine s_iload_n (k := 1) C (by decide +kernel) ?_
  refine s_fnS C (j2 := jX11_isNoStore) (by decide +kernel) rfl w_5_100 w_3_103 w_1_1 w_3_104 (by decide +kernel) (fun _ _ _ _ _ h => f_X11_isNoStore h) ?_
  refine s_if_ne (off := 20) (tgt := 24) C (by decide +kernel) (by decide) (b_X11_first_24 C) ?_
  refine s_iload_n (k := 2) C (by decide +kernel) ?_
  refine s_fnS C (j2 := jX11_isNoStore) (by decide +kernel) rfl w_5_100 w_3_103 w_1_1 w_3_104 (by decide +kernel) (fun _ _ _ _ _ h => f_X11_isNoStore h) ?_
  refine s_if_ne (off := 13) (tgt := 24) C (by decide +kernel) (by decide) (b_X11_first_24 C) ?_
  refine s_iload_n (k := 3) C (by decide +kernel) ?_
  refine s_if_lt (off := 9) (tgt := 24) C (by decide +kernel) (by decide) (b_X11_first_24 C) ?_
  refine s_iload_n (k := 3) C (by decide +kernel) ?_
  refine s_bipush (n := 8) C (by decide +kernel) (by decide) ?_
  refine s_icmp_le (off := 6) (tgt := 27) C (by decide +kernel) (by decide) (b_X11_first_27 C) ?_
  exact (b_X11_first_24 C)
theorem ms_X11_first {Z : Zt} {d : Nat} {S : Sh} {μ : Mi} {ρ : Mr} {Rp : RT} (a0 : Nat) (x1 : Int32) (x2 : Int32) (x3 : Int32) (h : ∀ G : Nat → PT, w_X11_first_0 (MS Z (d + 1)) G Rp [.ref a0, .int x1, .int x2, .int x3] [] S (0, 0) μ ρ) : MS Z (d + 2) jX11_first [.ref a0, .int x1, .int x2, .int x3] S μ ρ Rp :=
  MS_of [.ref a0, .int x1, .int x2, .int x3] (by decide +kernel) rfl rfl (Nat.le_of_ble_eq_true rfl) rfl (fun p e R s m args below meth c C => b_X11_first_0 C _ _ _ _ _ _ (h _ ))
def F_X11_first : FT := fun As S μ ρ k => match As with
  | [.ref a, .int f, .int t, .int kd] => S.2 a = (11, 11) ∧ a = 1 ∧ ∃ (A : Rw) (u : Nat) (D : Nat → Rw), TC A u D S μ ρ ∧ Gd A ∧ k (some (.int (vFirst A f t kd))) μ
  | _ => False
theorem r_X11_first {As S μ ρ k} (h : F_X11_first As S μ ρ k) : ∃ a As', As = Value.ref a :: As' ∧ S.2 a = (11, 11) := by
  unfold F_X11_first at h
  split at h
  · exact ⟨_, _, rfl, h.1⟩
  · exact h.elim
set_option maxHeartbeats 1000000 in
theorem f_X11_first {Z : Zt} {d : Nat} {As : List Value} {S : Sh} {μ : Mi} {ρ : Mr} {Rp : RT} (h : F_X11_first As S μ ρ (fun r μ' => Rp r S μ' ρ)) : MS Z (d + 2) jX11_first As S μ ρ Rp := by
  unfold F_X11_first at h
  split at h
  · rename_i a f t kd
    obtain ⟨h1, rfl, A, u, D, hT, hG, h⟩ := h
    refine ms_X11_first _ _ _ _ (fun G => ?_)
    have hr := hT.1.2.1
    have hR := hT.2.1
    have hW := RR_W hR
    have i1 := hW.2.1.1
    have hq := hW.2.2.2.2.1
    have hw := hW.2.1
    unfold vFirst at h
    have e := rg_05 (x := kd) (lo := 0) (hi := 8) (l := 0) (h := 8) (by decide) (by decide)
    simp only [w_X11_first_0, w_X11_first_24, w_X11_first_27, tAload, tIload, nth, tGetI, tGetR, tConst, tLconst, tBin, tUn, tI2l, tAld, tAldR, tAlen, tIast, tBast, tZast, tAast, tIret, tZret, tVret, tAret, tIf, tIf2, tGoto, tIstore, tAstore, sset, tIinc, tDup, tDup2, tPop, tPutI, tPutZ, tPutR, tCallV, tCallS, popN, tFn, tCopy, tMax, tMin, tSw, swc, tRem, tObjI, Option.toList, List.nil_append, List.cons_append, okR, true_and, and_true, true_or, or_true, Nat.zero_le, ne_eq, not_false_eq_true, Nat.reduceEqDiff, F_X11_isNoStore, F_X1_find, b2_z, h1, hr, i1, hq, hw, Decidable.not_not]
    have bad : ¬ (rgd f 0 4 ∧ rgd t 0 4 ∧ rgd kd 0 8) → Rp (some (.int (-2))) S μ ρ := fun z => by rw [if_pos z] at h; exact h
    refine ⟨fun c => bad (fun z => c z.1), fun c => ⟨fun c2 => bad (fun z => c2 z.2.1), fun c2 => ⟨fun c3 => bad (fun z => (e.mpr z.2.2).1 c3), fun c3 => ⟨fun c4 => ?_, fun c4 => bad (fun z => c4 (e.mpr z.2.2).2)⟩⟩⟩⟩
    rw [if_neg (not_not_intro ⟨c, c2, e.mp ⟨c3, c4⟩⟩)] at h
    exact ⟨2, A, rfl, hR, h⟩
  · exact h.elim
def w_X11_alike_25 (M : CT) (G : Nat → PT) (Rp : RT) : PT := tAload 0 <| tGetR 11 11 0 <| tGetR 10 6 0 <| tIload 1 <| tAldR 37 <| tAload 0 <| tGetR 11 11 0 <| tGetR 10 6 0 <| tIload 2 <| tAldR 37 <| tFn 2 F_X8_alikeUpTo <| tIret Rp
def w_X11_alike_17 (M : CT) (G : Nat → PT) (Rp : RT) : PT := tIload 1 <| tIload 2 <| tIf2 (fun x y => x ≠ y) (w_X11_alike_25 M G Rp) <| tConst (-3) <| tIret Rp
def w_X11_alike_14 (M : CT) (G : Nat → PT) (Rp : RT) : PT := tConst (-2) <| tIret Rp
def w_X11_alike_0 (M : CT) (G : Nat → PT) (Rp : RT) : PT := tIload 1 <| tFn 1 F_X11_isNoStore <| tIf (fun x => x ≠ 0) (w_X11_alike_14 M G Rp) <| tIload 2 <| tFn 1 F_X11_isNoStore <| tIf (fun x => x = 0) (w_X11_alike_17 M G Rp) <| w_X11_alike_14 M G Rp
set_option maxRecDepth 20000 in
theorem b_X11_alike_25 {Z : Zt} {d : Nat} {p : Program} {e : Env} {R : Room} {s : State} {m : MethodId} {args : Array Value} {below : List Frame} {meth : Method} {c : Code} {Rp : RT} (C : Cx Z (d + 2) jX11_alike RX11 p R s m args meth c) : Sd Z jX11_alike p e R s m args below meth c (MQ below (QcS Z Rp) args s 0 0 (fun a => Z.2.2.1 < a)) 25 (w_X11_alike_25 (MS Z (d + 2)) (Gw Z 3 p e R s m args below meth c (MQ below (QcS Z Rp) args s 0 0 (fun a => Z.2.2.1 < a))) Rp) := by
  unfold w_X11_alike_25
  refine s_aload_n (k := 0) C (by decide +kernel) ?_
  refine s_getR C w_2_234 (by decide +kernel) rfl ?_
  refine s_getR C w_2_116 (by decide +kernel) rfl ?_
  refine s_iload_n (k := 1) C (by decide +kernel) ?_
  refine s_aald C rfl (by decide +kernel) ?_
  refine s_aload_n (k := 0) C (by decide +kernel) ?_
  refine s_getR C w_2_234 (by decide +kernel) rfl ?_
  refine s_getR C w_2_116 (by decide +kernel) rfl ?_
  refine s_iload_n (k := 2) C (by decide +kernel) ?_
  refine s_aald C rfl (by decide +kernel) ?_
  refine s_fnS C (j2 := jX8_alikeUpTo) (by decide +kernel) rfl w_5_147 w_5_148 w_1_21 w_5_149 (by decide +kernel) (fun _ _ _ _ _ h => f_X8_alikeUpTo h) ?_
  exact s_iret C rfl (by decide +kernel)
set_option maxRecDepth 20000 in
theorem b_X11_alike_17 {Z : Zt} {d : Nat} {p : Program} {e : Env} {R : Room} {s : State} {m : MethodId} {args : Array Value} {below : List Frame} {meth : Method} {c : Code} {Rp : RT} (C : Cx Z (d + 2) jX11_alike RX11 p R s m args meth c) : Sd Z jX11_alike p e R s m args below meth c (MQ below (QcS Z Rp) args s 0 0 (fun a => Z.2.2.1 < a)) 17 (w_X11_alike_17 (MS Z (d + 2)) (Gw Z 3 p e R s m args below meth c (MQ below (QcS Z Rp) args s 0 0 (fun a => Z.2.2.1 < a))) Rp) := by
  unfold w_X11_alike_17
  refine s_iload_n (k := 1) C (by decide +kernel) ?_
  refine s_iload_n (k := 2) C (by decide +kernel) ?_
  refine s_icmp_ne (off := 6) (tgt := 25) C (by decide +kernel) (by decide) (b_X11_alike_25 C) ?_
  refine s_bipush (n := (-3)) C (by decide +kernel) (by decide) ?_
  exact s_iret C rfl (by decide +kernel)
set_option maxRecDepth 20000 in
theorem b_X11_alike_14 {Z : Zt} {d : Nat} {p : Program} {e : Env} {R : Room} {s : State} {m : MethodId} {args : Array Value} {below : List Frame} {meth : Method} {c : Code} {Rp : RT} (C : Cx Z (d + 2) jX11_alike RX11 p R s m args meth c) : Sd Z jX11_alike p e R s m args below meth c (MQ below (QcS Z Rp) args s 0 0 (fun a => Z.2.2.1 < a)) 14 (w_X11_alike_14 (MS Z (d + 2)) (Gw Z 3 p e R s m args below meth c (MQ below (QcS Z Rp) args s 0 0 (fun a => Z.2.2.1 < a))) Rp) := by
  unfold w_X11_alike_14
  refine s_bipush (n := (-2)) C (by decide +kernel) (by decide) ?_
  exact s_iret C rfl (by decide +kernel)
set_option maxRecDepth 20000 in
theorem b_X11_alike_0 {Z : Zt} {d : Nat} {p : Program} {e : Env} {R : Room} {s : State} {m : MethodId} {args : Array Value} {below : List Frame} {meth : Method} {c : Code} {Rp : RT} (C : Cx Z (d + 2) jX11_alike RX11 p R s m args meth c) : Sd Z jX11_alike p e R s m args below meth c (MQ below (QcS Z Rp) args s 0 0 (fun a => Z.2.2.1 < a)) 0 (w_X11_alike_0 (MS Z (d + 2)) (Gw Z 3 p e R s m args below meth c (MQ below (QcS Z Rp) args s 0 0 (fun a => Z.2.2.1 < a))) Rp) := by
  unfold w_X11_alike_0
  refine s_iload_n (k := 1) C (by decide +kernel) ?_
  refine s_fnS C (j2 := jX11_isNoStore) (by decide +kernel) rfl w_5_100 w_3_103 w_1_1 w_3_104 (by decide +kernel) (fun _ _ _ _ _ h => f_X11_isNoStore h) ?_
  refine s_if_ne (off := 10) (tgt := 14) C (by decide +kernel) (by decide) (b_X11_alike_14 C) ?_
  refine s_iload_n (k := 2) C (by decide +kernel) ?_
  refine s_fnS C (j2 := jX11_isNoStore) (by decide +kernel) rfl w_5_100 w_3_103 w_1_1 w_3_104 (by decide +kernel) (fun _ _ _ _ _ h => f_X11_isNoStore h) ?_
  refine s_if_eq (off := 6) (tgt := 17) C (by decide +kernel) (by decide) (b_X11_alike_17 C) ?_
  exact (b_X11_alike_14 C)
theorem ms_X11_alike {Z : Zt} {d : Nat} {S : Sh} {μ : Mi} {ρ : Mr} {Rp : RT} (a0 : Nat) (x1 : Int32) (x2 : Int32) (h : ∀ G : Nat → PT, w_X11_alike_0 (MS Z (d + 2)) G Rp [.ref a0, .int x1, .int x2] [] S (0, 0) μ ρ) : MS Z (d + 3) jX11_alike [.ref a0, .int x1, .int x2] S μ ρ Rp :=
  MS_of [.ref a0, .int x1, .int x2] (by decide +kernel) rfl rfl (Nat.le_of_ble_eq_true rfl) rfl (fun p e R s m args below meth c C => b_X11_alike_0 C _ _ _ _ _ _ (h _ ))
def F_X11_alike : FT := fun As S μ ρ k => match As with
  | [.ref a, .int x, .int y] => S.2 a = (11, 11) ∧ a = 1 ∧ ∃ (A : Rw) (u : Nat) (D : Nat → Rw), TC A u D S μ ρ ∧ Gd A ∧ k (some (.int (vAlike A x y))) μ
  | _ => False
theorem r_X11_alike {As S μ ρ k} (h : F_X11_alike As S μ ρ k) : ∃ a As', As = Value.ref a :: As' ∧ S.2 a = (11, 11) := by
  unfold F_X11_alike at h
  split at h
  · exact ⟨_, _, rfl, h.1⟩
  · exact h.elim
set_option maxHeartbeats 1000000 in
theorem f_X11_alike {Z : Zt} {d : Nat} {As : List Value} {S : Sh} {μ : Mi} {ρ : Mr} {Rp : RT} (h : F_X11_alike As S μ ρ (fun r μ' => Rp r S μ' ρ)) : MS Z (d + 3) jX11_alike As S μ ρ Rp := by
  unfold F_X11_alike at h
  split at h
  · rename_i a x y
    obtain ⟨h1, rfl, A, u, D, hT, hG, h⟩ := h
    refine ms_X11_alike _ _ _ (fun G => ?_)
    have hr := hT.1.2.1
    have hR := hT.2.1
    have hW := RR_W hR
    have i1 := hW.2.1.1
    have hq := hW.2.2.2.2.1
    have hw := hW.2.1
    unfold vAlike at h
    have hext := Gd_ext hG
    simp only [w_X11_alike_0, w_X11_alike_14, w_X11_alike_17, tAload, tIload, nth, tGetI, tGetR, tConst, tLconst, tBin, tUn, tI2l, tAld, tAldR, tAlen, tIast, tBast, tZast, tAast, tIret, tZret, tVret, tAret, tIf, tIf2, tGoto, tIstore, tAstore, sset, tIinc, tDup, tDup2, tPop, tPutI, tPutZ, tPutR, tCallV, tCallS, popN, tFn, tCopy, tMax, tMin, tSw, swc, tRem, tObjI, Option.toList, List.nil_append, List.cons_append, okR, true_and, and_true, true_or, or_true, Nat.zero_le, ne_eq, not_false_eq_true, Nat.reduceEqDiff, F_X11_isNoStore, b2_z, Decidable.not_not]
    refine ⟨fun c => ?_, fun c => ⟨fun cy => ⟨fun ce => ?_, fun ce => ?_⟩, fun cy => ?_⟩⟩
    · rw [if_pos (fun z => c z.1)] at h; exact h
    · rw [if_neg (not_not_intro ⟨c, cy⟩), if_neg ce] at h
      obtain ⟨p, rfl, p0, -, p5⟩ := rg_ex (lo := 0) (hi := 4) c
      obtain ⟨q, rfl, q0, -, q5⟩ := rg_ex (lo := 0) (hi := 4) cy
      rw [nI_clamp p0, nI_clamp q0] at h
      obtain ⟨x1, x2, x3⟩ := W_st hW (show p < 5 by omega)
      obtain ⟨y1, y2, y3⟩ := W_st hW (show q < 5 by omega)
      simp only [w_X11_alike_25, tAload, tIload, nth, tGetI, tGetR, tConst, tLconst, tBin, tUn, tI2l, tAld, tAldR, tAlen, tIast, tBast, tZast, tAast, tIret, tZret, tVret, tAret, tIf, tIf2, tGoto, tIstore, tAstore, sset, tIinc, tDup, tDup2, tPop, tPutI, tPutZ, tPutR, tCallV, tCallS, popN, tFn, tCopy, tMax, tMin, tSw, swc, tRem, tObjI, Option.toList, List.nil_append, List.cons_append, okR, true_and, and_true, true_or, or_true, Nat.zero_le, ne_eq, not_false_eq_true, Nat.reduceEqDiff, F_X8_alikeUpTo, h1, hr, i1, hq, hw, nI_clamp p0, nI_clamp q0, x3, x1, y3, y1]
      exact ⟨inb_nI (by omega) (by decide), by omega, inb_nI (by omega) (by decide), by omega, 2, p, q, A, hR, by omega, by omega, rfl, rfl, (hext.1 p (by omega)).2.2, (hext.1 q (by omega)).2.2, h⟩
    · rw [if_neg (not_not_intro ⟨c, cy⟩), if_pos ce] at h; exact h
    · rw [if_pos (fun z => cy z.2)] at h; exact h
  · exact h.elim
def w_X11_holders_40 (M : CT) (G : Nat → PT) (Rp : RT) : PT := tIret Rp
def w_X11_holders_38 (M : CT) (G : Nat → PT) (Rp : RT) : PT := tConst (-5) <| w_X11_holders_40 M G Rp
def w_X11_holders_10 (M : CT) (G : Nat → PT) (Rp : RT) : PT := tAload 0 <| tGetR 11 11 0 <| tGetR 10 6 0 <| tIload 1 <| tAldR 37 <| tIload 2 <| tFn 2 F_X7_holds <| tIf (fun x => x = 0) (w_X11_holders_38 M G Rp) <| tAload 0 <| tGetR 11 11 0 <| tIload 1 <| tIload 2 <| tFn 3 F_X8_holding <| tGoto (w_X11_holders_40 M G Rp)
def w_X11_holders_0 (M : CT) (G : Nat → PT) (Rp : RT) : PT := tIload 1 <| tFn 1 F_X11_isNoStore <| tIf (fun x => x = 0) (w_X11_holders_10 M G Rp) <| tConst (-2) <| tIret Rp
set_option maxRecDepth 20000 in
theorem b_X11_holders_40 {Z : Zt} {d : Nat} {p : Program} {e : Env} {R : Room} {s : State} {m : MethodId} {args : Array Value} {below : List Frame} {meth : Method} {c : Code} {Rp : RT} (C : Cx Z (d + 2) jX11_holders RX11 p R s m args meth c) : Sd Z jX11_holders p e R s m args below meth c (MQ below (QcS Z Rp) args s 0 0 (fun a => Z.2.2.1 < a)) 40 (w_X11_holders_40 (MS Z (d + 2)) (Gw Z 3 p e R s m args below meth c (MQ below (QcS Z Rp) args s 0 0 (fun a => Z.2.2.1 < a))) Rp) := by
  unfold w_X11_holders_40
  exact s_iret C rfl (by decide +kernel)
set_option maxRecDepth 20000 in
theorem b_X11_holders_38 {Z : Zt} {d : Nat} {p : Program} {e : Env} {R : Room} {s : State} {m : MethodId} {args : Array Value} {below : List Frame} {meth : Method} {c : Code} {Rp : RT} (C : Cx Z (d + 2) jX11_holders RX11 p R s m args meth c) : Sd Z jX11_holders p e R s m args below meth c (MQ below (QcS Z Rp) args s 0 0 (fun a => Z.2.2.1 < a)) 38 (w_X11_holders_38 (MS Z (d + 2)) (Gw Z 3 p e R s m args below meth c (MQ below (QcS Z Rp) args s 0 0 (fun a => Z.2.2.1 < a))) Rp) := by
  unfold w_X11_holders_38
  refine s_bipush (n := (-5)) C (by decide +kernel) (by decide) ?_
  exact (b_X11_holders_40 C)
set_option maxRecDepth 20000 in
theorem b_X11_holders_10 {Z : Zt} {d : Nat} {p : Program} {e : Env} {R : Room} {s : State} {m : MethodId} {args : Array Value} {below : List Frame} {meth : Method} {c : Code} {Rp : RT} (C : Cx Z (d + 2) jX11_holders RX11 p R s m args meth c) : Sd Z jX11_holders p e R s m args below meth c (MQ below (QcS Z Rp) args s 0 0 (fun a => Z.2.2.1 < a)) 10 (w_X11_holders_10 (MS Z (d + 2)) (Gw Z 3 p e R s m args below meth c (MQ below (QcS Z Rp) args s 0 0 (fun a => Z.2.2.1 < a))) Rp) := by
  unfold w_X11_holders_10
  refine s_aload_n (k := 0) C (by decide +kernel) ?_
  refine s_getR C w_2_234 (by decide +kernel) rfl ?_
  refine s_getR C w_2_116 (by decide +kernel) rfl ?_
  refine s_iload_n (k := 1) C (by decide +kernel) ?_
  refine s_aald C rfl (by decide +kernel) ?_
  refine s_iload_n (k := 2) C (by decide +kernel) ?_
  refine s_fnV C (j2 := jX7_holds) (cl := 7) (nf := 18) rfl rfl (by decide +kernel) rfl w_5_107 w_5_108 w_5_109 w_1_5 w_5_110 (by decide +kernel) (fun _ _ _ _ _ h => f_X7_holds h) (fun _ _ _ _ _ h => r_X7_holds h) ?_
  refine s_if_eq (off := 15) (tgt := 38) C (by decide +kernel) (by decide) (b_X11_holders_38 C) ?_
  refine s_aload_n (k := 0) C (by decide +kernel) ?_
  refine s_getR C w_2_234 (by decide +kernel) rfl ?_
  refine s_iload_n (k := 1) C (by decide +kernel) ?_
  refine s_iload_n (k := 2) C (by decide +kernel) ?_
  refine s_fnS C (j2 := jX8_holding) (by decide +kernel) rfl w_5_182 w_5_183 w_1_21 w_5_184 (by decide +kernel) (fun _ _ _ _ _ h => f_X8_holding h) ?_
  exact s_goto (off := 5) (tgt := 40) C (by decide +kernel) (by decide) (b_X11_holders_40 C)
set_option maxRecDepth 20000 in
theorem b_X11_holders_0 {Z : Zt} {d : Nat} {p : Program} {e : Env} {R : Room} {s : State} {m : MethodId} {args : Array Value} {below : List Frame} {meth : Method} {c : Code} {Rp : RT} (C : Cx Z (d + 2) jX11_holders RX11 p R s m args meth c) : Sd Z jX11_holders p e R s m args below meth c (MQ below (QcS Z Rp) args s 0 0 (fun a => Z.2.2.1 < a)) 0 (w_X11_holders_0 (MS Z (d + 2)) (Gw Z 3 p e R s m args below meth c (MQ below (QcS Z Rp) args s 0 0 (fun a => Z.2.2.1 < a))) Rp) := by
  unfold w_X11_holders_0
  refine s_iload_n (k := 1) C (by decide +kernel) ?_
  refine s_fnS C (j2 := jX11_isNoStore) (by decide +kernel) rfl w_5_100 w_3_103 w_1_1 w_3_104 (by decide +kernel) (fun _ _ _ _ _ h => f_X11_isNoStore h) ?_
  refine s_if_eq (off := 6) (tgt := 10) C (by decide +kernel) (by decide) (b_X11_holders_10 C) ?_
  refine s_bipush (n := (-2)) C (by decide +kernel) (by decide) ?_
  exact s_iret C rfl (by decide +kernel)
theorem ms_X11_holders {Z : Zt} {d : Nat} {S : Sh} {μ : Mi} {ρ : Mr} {Rp : RT} (a0 : Nat) (x1 : Int32) (x2 : Int32) (h : ∀ G : Nat → PT, w_X11_holders_0 (MS Z (d + 2)) G Rp [.ref a0, .int x1, .int x2] [] S (0, 0) μ ρ) : MS Z (d + 3) jX11_holders [.ref a0, .int x1, .int x2] S μ ρ Rp :=
  MS_of [.ref a0, .int x1, .int x2] (by decide +kernel) rfl rfl (Nat.le_of_ble_eq_true rfl) rfl (fun p e R s m args below meth c C => b_X11_holders_0 C _ _ _ _ _ _ (h _ ))
def F_X11_holders : FT := fun As S μ ρ k => match As with
  | [.ref a, .int s, .int p] => S.2 a = (11, 11) ∧ a = 1 ∧ ∃ (A : Rw) (u : Nat) (D : Nat → Rw), TC A u D S μ ρ ∧ Gd A ∧ k (some (.int (vHolders A s p))) μ
  | _ => False
theorem r_X11_holders {As S μ ρ k} (h : F_X11_holders As S μ ρ k) : ∃ a As', As = Value.ref a :: As' ∧ S.2 a = (11, 11) := by
  unfold F_X11_holders at h
  split at h
  · exact ⟨_, _, rfl, h.1⟩
  · exact h.elim
set_option maxHeartbeats 1000000 in
theorem f_X11_holders {Z : Zt} {d : Nat} {As : List Value} {S : Sh} {μ : Mi} {ρ : Mr} {Rp : RT} (h : F_X11_holders As S μ ρ (fun r μ' => Rp r S μ' ρ)) : MS Z (d + 3) jX11_holders As S μ ρ Rp := by
  unfold F_X11_holders at h
  split at h
  · rename_i a s p
    obtain ⟨h1, rfl, A, u, D, hT, hG, h⟩ := h
    refine ms_X11_holders _ _ _ (fun G => ?_)
    have hr := hT.1.2.1
    have hR := hT.2.1
    have hW := RR_W hR
    have i1 := hW.2.1.1
    have hq := hW.2.2.2.2.1
    have hw := hW.2.1
    unfold vHolders at h
    simp only [w_X11_holders_0, tAload, tIload, nth, tGetI, tGetR, tConst, tLconst, tBin, tUn, tI2l, tAld, tAldR, tAlen, tIast, tBast, tZast, tAast, tIret, tZret, tVret, tAret, tIf, tIf2, tGoto, tIstore, tAstore, sset, tIinc, tDup, tDup2, tPop, tPutI, tPutZ, tPutR, tCallV, tCallS, popN, tFn, tCopy, tMax, tMin, tSw, swc, tRem, tObjI, Option.toList, List.nil_append, List.cons_append, okR, true_and, and_true, true_or, or_true, Nat.zero_le, ne_eq, not_false_eq_true, Nat.reduceEqDiff, F_X11_isNoStore, b2_z, Decidable.not_not]
    refine ⟨fun c => ?_, fun c => ?_⟩
    rotate_left
    · rw [if_pos c] at h; exact h
    rw [if_neg (not_not_intro c)] at h
    obtain ⟨s, rfl, s0, -, s5⟩ := rg_ex (lo := 0) (hi := 4) c
    have hs : s < 5 := by omega
    obtain ⟨x1, x2, x3⟩ := W_st hW hs
    have x2' := x2
    unfold StS at x2
    have hSt := RR_st hR hs
    have hi5 := inb_nI hs (show (5 : Nat) < 2 ^ 31 by decide)
    obtain ⟨l, l1, l2, -, l3⟩ := rg_ex hSt.2.1.2.1
    obtain ⟨sn, n1, n2, -, n3⟩ := rg_ex hSt.2.1.2.2.1
    have hch : ∀ p : Int32, cHolds μ (2 + 130 + 8 * s) p ↔ ((A (514 * s + 5)).toInt < p.toInt ∧ p.toInt ≤ (A (514 * s + 4)).toInt) := by
      intro p
      unfold cHolds
      rw [hSt.1.2.2.2.2.2.2.2.2.2.1, hSt.1.2.2.2.2.2.2.2.1, Int32.le_iff_toInt_le, Int32.lt_iff_toInt_lt]
      omega
    rw [nI_clamp s0] at h
    simp only [w_X11_holders_10, w_X11_holders_38, w_X11_holders_40, tAload, tIload, nth, tGetI, tGetR, tConst, tLconst, tBin, tUn, tI2l, tAld, tAldR, tAlen, tIast, tBast, tZast, tAast, tIret, tZret, tVret, tAret, tIf, tIf2, tGoto, tIstore, tAstore, sset, tIinc, tDup, tDup2, tPop, tPutI, tPutZ, tPutR, tCallV, tCallS, popN, tFn, tCopy, tMax, tMin, tSw, swc, tRem, tObjI, Option.toList, List.nil_append, List.cons_append, okR, true_and, and_true, true_or, or_true, Nat.zero_le, ne_eq, not_false_eq_true, Nat.reduceEqDiff, F_X7_holds, F_X8_holding, b2_z, h1, hr, i1, hq, hw, nI_clamp s0, x3, x1, hi5]
    refine ⟨by omega, x2', fun z => ?_, fun z => ?_⟩
    · rw [if_pos (fun y => z ((hch p).mpr y))] at h; exact h
    · have z' := Decidable.not_not.mp z
      have z2 := (hch p).mp z'
      have hp : rg p 0 120 := ⟨by have := hSt.2.1.2.2.1.1; omega, by have := hSt.2.1.2.1.2; omega⟩
      obtain ⟨q, rfl, q0, -, q5⟩ := rg_ex hp
      rw [if_neg (not_not_intro z2), nI_clamp q0] at h
      exact ⟨s, q, A, hR, rfl, hs, rfl, z2.1, z2.2, q0, h⟩
  · exact h.elim
def w_X11_safe_52 (M : CT) (G : Nat → PT) (Rp : RT) : PT := tIret Rp
def w_X11_safe_51 (M : CT) (G : Nat → PT) (Rp : RT) : PT := tConst 0 <| w_X11_safe_52 M G Rp
def w_X11_safe_31 (M : CT) (G : Nat → PT) (Rp : RT) : PT := tAload 3 <| tAload 0 <| tGetR 11 11 0 <| tIload 1 <| tIload 2 <| tFn 3 F_X8_holding <| tFn 2 F_X7_isMajority <| tIf (fun x => x = 0) (w_X11_safe_51 M G Rp) <| tConst 1 <| tGoto (w_X11_safe_52 M G Rp)
def w_X11_safe_10 (M : CT) (G : Nat → PT) (Rp : RT) : PT := tAload 0 <| tGetR 11 11 0 <| tGetR 10 6 0 <| tIload 1 <| tAldR 37 <| tAstore 3 <| tAload 3 <| tIload 2 <| tFn 2 F_X7_holds <| tIf (fun x => x ≠ 0) (w_X11_safe_31 M G Rp) <| tConst (-5) <| tIret Rp
def w_X11_safe_0 (M : CT) (G : Nat → PT) (Rp : RT) : PT := tIload 1 <| tFn 1 F_X11_isNoStore <| tIf (fun x => x = 0) (w_X11_safe_10 M G Rp) <| tConst (-2) <| tIret Rp
set_option maxRecDepth 20000 in
theorem b_X11_safe_52 {Z : Zt} {d : Nat} {p : Program} {e : Env} {R : Room} {s : State} {m : MethodId} {args : Array Value} {below : List Frame} {meth : Method} {c : Code} {Rp : RT} (C : Cx Z (d + 2) jX11_safe RX11 p R s m args meth c) : Sd Z jX11_safe p e R s m args below meth c (MQ below (QcS Z Rp) args s 0 0 (fun a => Z.2.2.1 < a)) 52 (w_X11_safe_52 (MS Z (d + 2)) (Gw Z 4 p e R s m args below meth c (MQ below (QcS Z Rp) args s 0 0 (fun a => Z.2.2.1 < a))) Rp) := by
  unfold w_X11_safe_52
  exact s_iret C rfl (by decide +kernel)
set_option maxRecDepth 20000 in
theorem b_X11_safe_51 {Z : Zt} {d : Nat} {p : Program} {e : Env} {R : Room} {s : State} {m : MethodId} {args : Array Value} {below : List Frame} {meth : Method} {c : Code} {Rp : RT} (C : Cx Z (d + 2) jX11_safe RX11 p R s m args meth c) : Sd Z jX11_safe p e R s m args below meth c (MQ below (QcS Z Rp) args s 0 0 (fun a => Z.2.2.1 < a)) 51 (w_X11_safe_51 (MS Z (d + 2)) (Gw Z 4 p e R s m args below meth c (MQ below (QcS Z Rp) args s 0 0 (fun a => Z.2.2.1 < a))) Rp) := by
  unfold w_X11_safe_51
  refine s_iconst (n := 0) C (by decide +kernel) (by decide) ?_
  exact (b_X11_safe_52 C)
set_option maxRecDepth 20000 in
theorem b_X11_safe_31 {Z : Zt} {d : Nat} {p : Program} {e : Env} {R : Room} {s : State} {m : MethodId} {args : Array Value} {below : List Frame} {meth : Method} {c : Code} {Rp : RT} (C : Cx Z (d + 2) jX11_safe RX11 p R s m args meth c) : Sd Z jX11_safe p e R s m args below meth c (MQ below (QcS Z Rp) args s 0 0 (fun a => Z.2.2.1 < a)) 31 (w_X11_safe_31 (MS Z (d + 2)) (Gw Z 4 p e R s m args below meth c (MQ below (QcS Z Rp) args s 0 0 (fun a => Z.2.2.1 < a))) Rp) := by
  unfold w_X11_safe_31
  refine s_aload_n (k := 3) C (by decide +kernel) ?_
  refine s_aload_n (k := 0) C (by decide +kernel) ?_
  refine s_getR C w_2_234 (by decide +kernel) rfl ?_
  refine s_iload_n (k := 1) C (by decide +kernel) ?_
  refine s_iload_n (k := 2) C (by decide +kernel) ?_
  refine s_fnS C (j2 := jX8_holding) (by decide +kernel) rfl w_5_182 w_5_183 w_1_21 w_5_184 (by decide +kernel) (fun _ _ _ _ _ h => f_X8_holding h) ?_
  refine s_fnV C (j2 := jX7_isMajority) (cl := 7) (nf := 18) rfl rfl (by decide +kernel) rfl w_5_191 w_3_134 w_3_135 w_1_5 w_3_136 (by decide +kernel) (fun _ _ _ _ _ h => f_X7_isMajority h) (fun _ _ _ _ _ h => r_X7_isMajority h) ?_
  refine s_if_eq (off := 7) (tgt := 51) C (by decide +kernel) (by decide) (b_X11_safe_51 C) ?_
  refine s_iconst (n := 1) C (by decide +kernel) (by decide) ?_
  exact s_goto (off := 4) (tgt := 52) C (by decide +kernel) (by decide) (b_X11_safe_52 C)
set_option maxRecDepth 20000 in
theorem b_X11_safe_10 {Z : Zt} {d : Nat} {p : Program} {e : Env} {R : Room} {s : State} {m : MethodId} {args : Array Value} {below : List Frame} {meth : Method} {c : Code} {Rp : RT} (C : Cx Z (d + 2) jX11_safe RX11 p R s m args meth c) : Sd Z jX11_safe p e R s m args below meth c (MQ below (QcS Z Rp) args s 0 0 (fun a => Z.2.2.1 < a)) 10 (w_X11_safe_10 (MS Z (d + 2)) (Gw Z 4 p e R s m args below meth c (MQ below (QcS Z Rp) args s 0 0 (fun a => Z.2.2.1 < a))) Rp) := by
  unfold w_X11_safe_10
  refine s_aload_n (k := 0) C (by decide +kernel) ?_
  refine s_getR C w_2_234 (by decide +kernel) rfl ?_
  refine s_getR C w_2_116 (by decide +kernel) rfl ?_
  refine s_iload_n (k := 1) C (by decide +kernel) ?_
  refine s_aald C rfl (by decide +kernel) ?_
  refine s_astore_n (k := 3) C (by decide +kernel) ?_
  refine s_aload_n (k := 3) C (by decide +kernel) ?_
  refine s_iload_n (k := 2) C (by decide +kernel) ?_
  refine s_fnV C (j2 := jX7_holds) (cl := 7) (nf := 18) rfl rfl (by decide +kernel) rfl w_5_107 w_5_108 w_5_109 w_1_5 w_5_110 (by decide +kernel) (fun _ _ _ _ _ h => f_X7_holds h) (fun _ _ _ _ _ h => r_X7_holds h) ?_
  refine s_if_ne (off := 6) (tgt := 31) C (by decide +kernel) (by decide) (b_X11_safe_31 C) ?_
  refine s_bipush (n := (-5)) C (by decide +kernel) (by decide) ?_
  exact s_iret C rfl (by decide +kernel)
set_option maxRecDepth 20000 in
theorem b_X11_safe_0 {Z : Zt} {d : Nat} {p : Program} {e : Env} {R : Room} {s : State} {m : MethodId} {args : Array Value} {below : List Frame} {meth : Method} {c : Code} {Rp : RT} (C : Cx Z (d + 2) jX11_safe RX11 p R s m args meth c) : Sd Z jX11_safe p e R s m args below meth c (MQ below (QcS Z Rp) args s 0 0 (fun a => Z.2.2.1 < a)) 0 (w_X11_safe_0 (MS Z (d + 2)) (Gw Z 4 p e R s m args below meth c (MQ below (QcS Z Rp) args s 0 0 (fun a => Z.2.2.1 < a))) Rp) := by
  unfold w_X11_safe_0
  refine s_iload_n (k := 1) C (by decide +kernel) ?_
  refine s_fnS C (j2 := jX11_isNoStore) (by decide +kernel) rfl w_5_100 w_3_103 w_1_1 w_3_104 (by decide +kernel) (fun _ _ _ _ _ h => f_X11_isNoStore h) ?_
  refine s_if_eq (off := 6) (tgt := 10) C (by decide +kernel) (by decide) (b_X11_safe_10 C) ?_
  refine s_bipush (n := (-2)) C (by decide +kernel) (by decide) ?_
  exact s_iret C rfl (by decide +kernel)
theorem ms_X11_safe {Z : Zt} {d : Nat} {S : Sh} {μ : Mi} {ρ : Mr} {Rp : RT} (a0 : Nat) (x1 : Int32) (x2 : Int32) (h : ∀ G : Nat → PT, w_X11_safe_0 (MS Z (d + 2)) G Rp [.ref a0, .int x1, .int x2, .null] [] S (0, 0) μ ρ) : MS Z (d + 3) jX11_safe [.ref a0, .int x1, .int x2] S μ ρ Rp :=
  MS_of [.ref a0, .int x1, .int x2, .null] (by decide +kernel) rfl rfl (Nat.le_of_ble_eq_true rfl) rfl (fun p e R s m args below meth c C => b_X11_safe_0 C _ _ _ _ _ _ (h _ ))
def F_X11_safe : FT := fun As S μ ρ k => match As with
  | [.ref a, .int s, .int p] => S.2 a = (11, 11) ∧ a = 1 ∧ ∃ (A : Rw) (u : Nat) (D : Nat → Rw), TC A u D S μ ρ ∧ Gd A ∧ k (some (.int (vSafe A s p))) μ
  | _ => False
theorem r_X11_safe {As S μ ρ k} (h : F_X11_safe As S μ ρ k) : ∃ a As', As = Value.ref a :: As' ∧ S.2 a = (11, 11) := by
  unfold F_X11_safe at h
  split at h
  · exact ⟨_, _, rfl, h.1⟩
  · exact h.elim
set_option maxHeartbeats 1000000 in
theorem f_X11_safe {Z : Zt} {d : Nat} {As : List Value} {S : Sh} {μ : Mi} {ρ : Mr} {Rp : RT} (h : F_X11_safe As S μ ρ (fun r μ' => Rp r S μ' ρ)) : MS Z (d + 3) jX11_safe As S μ ρ Rp := by
  unfold F_X11_safe at h
  split at h
  · rename_i a s p
    obtain ⟨h1, rfl, A, u, D, hT, hG, h⟩ := h
    refine ms_X11_safe _ _ _ (fun G => ?_)
    have hr := hT.1.2.1
    have hR := hT.2.1
    have hW := RR_W hR
    have i1 := hW.2.1.1
    have hq := hW.2.2.2.2.1
    have hw := hW.2.1
    unfold vSafe at h
    simp only [w_X11_safe_0, tAload, tIload, nth, tGetI, tGetR, tConst, tLconst, tBin, tUn, tI2l, tAld, tAldR, tAlen, tIast, tBast, tZast, tAast, tIret, tZret, tVret, tAret, tIf, tIf2, tGoto, tIstore, tAstore, sset, tIinc, tDup, tDup2, tPop, tPutI, tPutZ, tPutR, tCallV, tCallS, popN, tFn, tCopy, tMax, tMin, tSw, swc, tRem, tObjI, Option.toList, List.nil_append, List.cons_append, okR, true_and, and_true, true_or, or_true, Nat.zero_le, ne_eq, not_false_eq_true, Nat.reduceEqDiff, F_X11_isNoStore, b2_z, Decidable.not_not]
    refine ⟨fun c => ?_, fun c => ?_⟩
    rotate_left
    · rw [if_pos c] at h; exact h
    rw [if_neg (not_not_intro c)] at h
    obtain ⟨s, rfl, s0, -, s5⟩ := rg_ex (lo := 0) (hi := 4) c
    have hs : s < 5 := by omega
    obtain ⟨x1, x2, x3⟩ := W_st hW hs
    have x2' := x2
    unfold StS at x2
    have hSt := RR_st hR hs
    have hi5 := inb_nI hs (show (5 : Nat) < 2 ^ 31 by decide)
    obtain ⟨l, l1, l2, -, l3⟩ := rg_ex hSt.2.1.2.1
    obtain ⟨sn, n1, n2, -, n3⟩ := rg_ex hSt.2.1.2.2.1
    have hch : ∀ p : Int32, cHolds μ (2 + 130 + 8 * s) p ↔ ((A (514 * s + 5)).toInt < p.toInt ∧ p.toInt ≤ (A (514 * s + 4)).toInt) := by
      intro p
      unfold cHolds
      rw [hSt.1.2.2.2.2.2.2.2.2.2.1, hSt.1.2.2.2.2.2.2.2.1, Int32.le_iff_toInt_le, Int32.lt_iff_toInt_lt]
      omega
    have hm := St_mem hSt
    have hm' := hm
    rw [hSt.2.2.2.2.2.1, hSt.2.2.2.2.2.2] at hm'
    rw [nI_clamp s0] at h
    simp only [w_X11_safe_10, w_X11_safe_31, w_X11_safe_51, w_X11_safe_52, tAload, tIload, nth, tGetI, tGetR, tConst, tLconst, tBin, tUn, tI2l, tAld, tAldR, tAlen, tIast, tBast, tZast, tAast, tIret, tZret, tVret, tAret, tIf, tIf2, tGoto, tIstore, tAstore, sset, tIinc, tDup, tDup2, tPop, tPutI, tPutZ, tPutR, tCallV, tCallS, popN, tFn, tCopy, tMax, tMin, tSw, swc, tRem, tObjI, Option.toList, List.nil_append, List.cons_append, okR, true_and, and_true, true_or, or_true, Nat.zero_le, ne_eq, not_false_eq_true, Nat.reduceEqDiff, F_X7_holds, F_X8_holding, F_X7_isMajority, b2_z, h1, hr, i1, hq, hw, nI_clamp s0, x3, x1, hi5, hSt.2.2.2.2.2.1, hSt.2.2.2.2.2.2, hm', Decidable.not_not]
    refine ⟨by omega, x2', fun z' => ?_, fun z => ?_⟩
    · have z2 := (hch p).mp z'
      have hp : rg p 0 120 := ⟨by have := hSt.2.1.2.2.1.1; omega, by have := hSt.2.1.2.1.2; omega⟩
      obtain ⟨q, rfl, q0, -, q5⟩ := rg_ex hp
      rw [if_neg (not_not_intro z2), nI_clamp q0] at h
      refine ⟨s, q, A, hR, rfl, hs, rfl, z2.1, z2.2, q0, fun y => ⟨fun w => absurd w (by decide), fun _ => ?_⟩, fun y => ⟨fun _ => ?_, fun w => absurd trivial w⟩⟩
      · unfold cMaj at y
        rw [if_pos y] at h; exact h
      · unfold cMaj at y
        rw [if_neg y] at h; exact h
    · rw [if_pos (fun y => z ((hch p).mpr y))] at h; exact h
  · exact h.elim
def w_X11_agreed_27 (M : CT) (G : Nat → PT) (Rp : RT) : PT := tAload 0 <| tGetR 11 11 0 <| tGetR 10 6 2 <| tIload 1 <| tAld 20 <| tIload 2 <| tFn 2 F_X0_part <| tIret Rp
def w_X11_agreed_23 (M : CT) (G : Nat → PT) (Rp : RT) : PT := tConst (-1000) <| tIret Rp
def w_X11_agreed_0 (M : CT) (G : Nat → PT) (Rp : RT) : PT := tIload 1 <| tConst 1 <| tIf2 (fun x y => x < y) (w_X11_agreed_23 M G Rp) <| tIload 1 <| tConst 120 <| tIf2 (fun x y => y < x) (w_X11_agreed_23 M G Rp) <| tAload 0 <| tGetR 11 11 0 <| tGetR 10 6 2 <| tIload 1 <| tAld 20 <| tIf (fun x => x ≠ 0) (w_X11_agreed_27 M G Rp) <| w_X11_agreed_23 M G Rp
set_option maxRecDepth 20000 in
theorem b_X11_agreed_27 {Z : Zt} {d : Nat} {p : Program} {e : Env} {R : Room} {s : State} {m : MethodId} {args : Array Value} {below : List Frame} {meth : Method} {c : Code} {Rp : RT} (C : Cx Z (d + 2) jX11_agreed RX11 p R s m args meth c) : Sd Z jX11_agreed p e R s m args below meth c (MQ below (QcS Z Rp) args s 0 0 (fun a => Z.2.2.1 < a)) 27 (w_X11_agreed_27 (MS Z (d + 2)) (Gw Z 3 p e R s m args below meth c (MQ below (QcS Z Rp) args s 0 0 (fun a => Z.2.2.1 < a))) Rp) := by
  unfold w_X11_agreed_27
  refine s_aload_n (k := 0) C (by decide +kernel) ?_
  refine s_getR C w_2_234 (by decide +kernel) rfl ?_
  refine s_getR C w_2_123 (by decide +kernel) rfl ?_
  refine s_iload_n (k := 1) C (by decide +kernel) ?_
  refine s_iald C (by decide +kernel) ?_
  refine s_iload_n (k := 2) C (by decide +kernel) ?_
  refine s_fnS C (j2 := jX0_part) (by decide +kernel) rfl w_5_111 w_5_112 w_1_9 w_5_113 (by decide +kernel) (fun _ _ _ _ _ h => f_X0_part h) ?_
  exact s_iret C rfl (by decide +kernel)
set_option maxRecDepth 20000 in
theorem b_X11_agreed_23 {Z : Zt} {d : Nat} {p : Program} {e : Env} {R : Room} {s : State} {m : MethodId} {args : Array Value} {below : List Frame} {meth : Method} {c : Code} {Rp : RT} (C : Cx Z (d + 2) jX11_agreed RX11 p R s m args meth c) : Sd Z jX11_agreed p e R s m args below meth c (MQ below (QcS Z Rp) args s 0 0 (fun a => Z.2.2.1 < a)) 23 (w_X11_agreed_23 (MS Z (d + 2)) (Gw Z 3 p e R s m args below meth c (MQ below (QcS Z Rp) args s 0 0 (fun a => Z.2.2.1 < a))) Rp) := by
  unfold w_X11_agreed_23
  refine s_sipush (n := (-1000)) C (by decide +kernel) (by decide) ?_
  exact s_iret C rfl (by decide +kernel)
set_option maxRecDepth 20000 in
theorem b_X11_agreed_0 {Z : Zt} {d : Nat} {p : Program} {e : Env} {R : Room} {s : State} {m : MethodId} {args : Array Value} {below : List Frame} {meth : Method} {c : Code} {Rp : RT} (C : Cx Z (d + 2) jX11_agreed RX11 p R s m args meth c) : Sd Z jX11_agreed p e R s m args below meth c (MQ below (QcS Z Rp) args s 0 0 (fun a => Z.2.2.1 < a)) 0 (w_X11_agreed_0 (MS Z (d + 2)) (Gw Z 3 p e R s m args below meth c (MQ below (QcS Z Rp) args s 0 0 (fun a => Z.2.2.1 < a))) Rp) := by
  unfold w_X11_agreed_0
  refine s_iload_n (k := 1) C (by decide +kernel) ?_
  refine s_iconst (n := 1) C (by decide +kernel) (by decide) ?_
  refine s_icmp_lt (off := 21) (tgt := 23) C (by decide +kernel) (by decide) (b_X11_agreed_23 C) ?_
  refine s_iload_n (k := 1) C (by decide +kernel) ?_
  refine s_bipush (n := 120) C (by decide +kernel) (by decide) ?_
  refine s_icmp_gt (off := 15) (tgt := 23) C (by decide +kernel) (by decide) (b_X11_agreed_23 C) ?_
  refine s_aload_n (k := 0) C (by decide +kernel) ?_
  refine s_getR C w_2_234 (by decide +kernel) rfl ?_
  refine s_getR C w_2_123 (by decide +kernel) rfl ?_
  refine s_iload_n (k := 1) C (by decide +kernel) ?_
  refine s_iald C (by decide +kernel) ?_
  refine s_if_ne (off := 7) (tgt := 27) C (by decide +kernel) (by decide) (b_X11_agreed_27 C) ?_
  exact (b_X11_agreed_23 C)
theorem ms_X11_agreed {Z : Zt} {d : Nat} {S : Sh} {μ : Mi} {ρ : Mr} {Rp : RT} (a0 : Nat) (x1 : Int32) (x2 : Int32) (h : ∀ G : Nat → PT, w_X11_agreed_0 (MS Z (d + 2)) G Rp [.ref a0, .int x1, .int x2] [] S (0, 0) μ ρ) : MS Z (d + 3) jX11_agreed [.ref a0, .int x1, .int x2] S μ ρ Rp :=
  MS_of [.ref a0, .int x1, .int x2] (by decide +kernel) rfl rfl (Nat.le_of_ble_eq_true rfl) rfl (fun p e R s m args below meth c C => b_X11_agreed_0 C _ _ _ _ _ _ (h _ ))
def F_X11_agreed : FT := fun As S μ ρ k => match As with
  | [.ref a, .int p, .int x] => S.2 a = (11, 11) ∧ a = 1 ∧ ∃ (A : Rw) (u : Nat) (D : Nat → Rw), TC A u D S μ ρ ∧ Gd A ∧ k (some (.int (vAgreed A p x))) μ
  | _ => False
theorem r_X11_agreed {As S μ ρ k} (h : F_X11_agreed As S μ ρ k) : ∃ a As', As = Value.ref a :: As' ∧ S.2 a = (11, 11) := by
  unfold F_X11_agreed at h
  split at h
  · exact ⟨_, _, rfl, h.1⟩
  · exact h.elim
set_option maxHeartbeats 1000000 in
theorem f_X11_agreed {Z : Zt} {d : Nat} {As : List Value} {S : Sh} {μ : Mi} {ρ : Mr} {Rp : RT} (h : F_X11_agreed As S μ ρ (fun r μ' => Rp r S μ' ρ)) : MS Z (d + 3) jX11_agreed As S μ ρ Rp := by
  unfold F_X11_agreed at h
  split at h
  · rename_i a p x
    obtain ⟨h1, rfl, A, u, D, hT, hG, h⟩ := h
    refine ms_X11_agreed _ _ _ (fun G => ?_)
    have hr := hT.1.2.1
    have hR := hT.2.1
    have hW := RR_W hR
    have i1 := hW.2.1.1
    have hq := hW.2.2.2.2.1
    have hw := hW.2.1
    unfold vAgreed at h
    have pt : ∀ (e : Int32) (k : Nat), enR e A k → ∀ w : Int32, (if w = 0 then eTm e else if w = 1 then eKd e else if w = 2 then eX e else if w = 3 then eY e else -1000) = (if ¬ rgd w 0 3 then -1000 else A (k + w.toNatClampNeg)) := by
      intro e k en w
      by_cases cw : rgd w 0 3
      · rw [if_neg (not_not_intro cw)]
        obtain ⟨m, rfl, m0, -, m3⟩ := rg_ex (lo := 0) (hi := 3) cw
        rw [nI_clamp m0]
        rcases (by omega : m = 0 ∨ m = 1 ∨ m = 2 ∨ m = 3) with z | z | z | z <;> subst z
        · exact en.1.1
        · exact en.1.2.1
        · exact en.1.2.2.1
        · exact en.1.2.2.2
      · rw [if_pos cw, if_neg (fun z => cw (by rw [z]; exact ⟨by decide, by decide⟩)), if_neg (fun z => cw (by rw [z]; exact ⟨by decide, by decide⟩)), if_neg (fun z => cw (by rw [z]; exact ⟨by decide, by decide⟩)), if_neg (fun z => cw (by rw [z]; exact ⟨by decide, by decide⟩))]
    have e := rg_05 (x := p) (lo := 1) (hi := 120) (l := 1) (h := 120) (by decide) (by decide)
    simp only [w_X11_agreed_0, w_X11_agreed_23, w_X11_agreed_27, tAload, tIload, nth, tGetI, tGetR, tConst, tLconst, tBin, tUn, tI2l, tAld, tAldR, tAlen, tIast, tBast, tZast, tAast, tIret, tZret, tVret, tAret, tIf, tIf2, tGoto, tIstore, tAstore, sset, tIinc, tDup, tDup2, tPop, tPutI, tPutZ, tPutR, tCallV, tCallS, popN, tFn, tCopy, tMax, tMin, tSw, swc, tRem, tObjI, Option.toList, List.nil_append, List.cons_append, okR, true_and, and_true, true_or, or_true, Nat.zero_le, ne_eq, not_false_eq_true, Nat.reduceEqDiff, F_X0_part, h1, hr, i1, hq, hw]
    have bad : ¬ rgd p 1 120 → Rp (some (.int (-1000))) S μ ρ := fun z => by rw [if_pos (fun y => z y.1)] at h; exact h
    refine ⟨fun c => bad (fun z => (e.mpr z).1 c), fun c => ⟨fun c2 => bad (fun z => absurd (e.mpr z).2 (Int32.not_le.mpr c2)), fun c2 => ?_⟩⟩
    have cp := e.mp ⟨c, Int32.not_lt.mp c2⟩
    obtain ⟨p, rfl, p0, p1, p5⟩ := rg_ex (lo := 1) (hi := 120) cp
    rw [nI_clamp p0] at h ⊢
    have hin := inb_nI (k := p) (n := 121) (by omega) (by decide)
    refine ⟨hin, fun c3 => ⟨hin, ?_⟩, fun c3 => ?_⟩
    · have en := (hR.1.2.2.2.1.1 p (by omega) (by omega)).resolve_left (fun z => c3 z.1)
      rw [pt _ _ en]
      by_cases cx : rgd x 0 3
      · rw [if_neg (not_not_intro ⟨cp, cx⟩), if_neg (by rw [← en.1.1]; exact en.2.1)] at h
        rw [if_neg (not_not_intro cx)]; exact h
      · rw [if_pos (fun z => cx z.2)] at h
        rw [if_pos cx]; exact h
    · have hz := Classical.not_not.mp c3
      have z0 : A (3826 + 4 * p) = 0 := by
        rcases hR.1.2.2.2.1.1 p (by omega) (by omega) with z | z
        · exact z.2
        · rw [hz] at z; exact absurd (show eTm 0 = 0 by decide) z.2.1
      rw [if_pos z0] at h
      split at h <;> exact h
  · exact h.elim
def w_X11_entry_27 (M : CT) (G : Nat → PT) (Rp : RT) : PT := tAload 0 <| tGetR 11 11 0 <| tGetR 10 6 0 <| tIload 1 <| tAldR 37 <| tGetR 7 18 12 <| tIload 2 <| tAld 20 <| tIload 3 <| tFn 2 F_X0_part <| tIret Rp
def w_X11_entry_23 (M : CT) (G : Nat → PT) (Rp : RT) : PT := tConst (-1000) <| tIret Rp
def w_X11_entry_0 (M : CT) (G : Nat → PT) (Rp : RT) : PT := tIload 1 <| tFn 1 F_X11_isNoStore <| tIf (fun x => x ≠ 0) (w_X11_entry_23 M G Rp) <| tAload 0 <| tGetR 11 11 0 <| tGetR 10 6 0 <| tIload 1 <| tAldR 37 <| tIload 2 <| tFn 2 F_X7_holds <| tIf (fun x => x ≠ 0) (w_X11_entry_27 M G Rp) <| w_X11_entry_23 M G Rp
set_option maxRecDepth 20000 in
theorem b_X11_entry_27 {Z : Zt} {d : Nat} {p : Program} {e : Env} {R : Room} {s : State} {m : MethodId} {args : Array Value} {below : List Frame} {meth : Method} {c : Code} {Rp : RT} (C : Cx Z (d + 2) jX11_entry RX11 p R s m args meth c) : Sd Z jX11_entry p e R s m args below meth c (MQ below (QcS Z Rp) args s 0 0 (fun a => Z.2.2.1 < a)) 27 (w_X11_entry_27 (MS Z (d + 2)) (Gw Z 4 p e R s m args below meth c (MQ below (QcS Z Rp) args s 0 0 (fun a => Z.2.2.1 < a))) Rp) := by
  unfold w_X11_entry_27
  refine s_aload_n (k := 0) C (by decide +kernel) ?_
  refine s_getR C w_2_234 (by decide +kernel) rfl ?_
  refine s_getR C w_2_116 (by decide +kernel) rfl ?_
  refine s_iload_n (k := 1) C (by decide +kernel) ?_
  refine s_aald C rfl (by decide +kernel) ?_
  refine s_getR C w_2_21 (by decide +kernel) rfl ?_
  refine s_iload_n (k := 2) C (by decide +kernel) ?_
  refine s_iald C (by decide +kernel) ?_
  refine s_iload_n (k := 3) C (by decide +kernel) ?_
  refine s_fnS C (j2 := jX0_part) (by decide +kernel) rfl w_5_111 w_5_112 w_1_9 w_5_113 (by decide +kernel) (fun _ _ _ _ _ h => f_X0_part h) ?_
  exact s_iret C rfl (by decide +kernel)
set_option maxRecDepth 20000 in
theorem b_X11_entry_23 {Z : Zt} {d : Nat} {p : Program} {e : Env} {R : Room} {s : State} {m : MethodId} {args : Array Value} {below : List Frame} {meth : Method} {c : Code} {Rp : RT} (C : Cx Z (d + 2) jX11_entry RX11 p R s m args meth c) : Sd Z jX11_entry p e R s m args below meth c (MQ below (QcS Z Rp) args s 0 0 (fun a => Z.2.2.1 < a)) 23 (w_X11_entry_23 (MS Z (d + 2)) (Gw Z 4 p e R s m args below meth c (MQ below (QcS Z Rp) args s 0 0 (fun a => Z.2.2.1 < a))) Rp) := by
  unfold w_X11_entry_23
  refine s_sipush (n := (-1000)) C (by decide +kernel) (by decide) ?_
  exact s_iret C rfl (by decide +kernel)
set_option maxRecDepth 20000 in
theorem b_X11_entry_0 {Z : Zt} {d : Nat} {p : Program} {e : Env} {R : Room} {s : State} {m : MethodId} {args : Array Value} {below : List Frame} {meth : Method} {c : Code} {Rp : RT} (C : Cx Z (d + 2) jX11_entry RX11 p R s m args meth c) : Sd Z jX11_entry p e R s m args below meth c (MQ below (QcS Z Rp) args s 0 0 (fun a => Z.2.2.1 < a)) 0 (w_X11_entry_0 (MS Z (d + 2)) (Gw Z 4 p e R s m args below meth c (MQ below (QcS Z Rp) args s 0 0 (fun a => Z.2.2.1 < a))) Rp) := by
  unfold w_X11_entry_0
  refine s_iload_n (k := 1) C (by decide +kernel) ?_
  refine s_fnS C (j2 := jX11_isNoStore) (by decide +kernel) rfl w_5_100 w_3_103 w_1_1 w_3_104 (by decide +kernel) (fun _ _ _ _ _ h => f_X11_isNoStore h) ?_
  refine s_if_ne (off := 19) (tgt := 23) C (by decide +kernel) (by decide) (b_X11_entry_23 C) ?_
  refine s_aload_n (k := 0) C (by decide +kernel) ?_
  refine s_getR C w_2_234 (by decide +kernel) rfl ?_
  refine s_getR C w_2_116 (by decide +kernel) rfl ?_
  refine s_iload_n (k := 1) C (by decide +kernel) ?_
  refine s_aald C rfl (by decide +kernel) ?_
  refine s_iload_n (k := 2) C (by decide +kernel) ?_
  refine s_fnV C (j2 := jX7_holds) (cl := 7) (nf := 18) rfl rfl (by decide +kernel) rfl w_5_107 w_5_108 w_5_109 w_1_5 w_5_110 (by decide +kernel) (fun _ _ _ _ _ h => f_X7_holds h) (fun _ _ _ _ _ h => r_X7_holds h) ?_
  refine s_if_ne (off := 7) (tgt := 27) C (by decide +kernel) (by decide) (b_X11_entry_27 C) ?_
  exact (b_X11_entry_23 C)
theorem ms_X11_entry {Z : Zt} {d : Nat} {S : Sh} {μ : Mi} {ρ : Mr} {Rp : RT} (a0 : Nat) (x1 : Int32) (x2 : Int32) (x3 : Int32) (h : ∀ G : Nat → PT, w_X11_entry_0 (MS Z (d + 2)) G Rp [.ref a0, .int x1, .int x2, .int x3] [] S (0, 0) μ ρ) : MS Z (d + 3) jX11_entry [.ref a0, .int x1, .int x2, .int x3] S μ ρ Rp :=
  MS_of [.ref a0, .int x1, .int x2, .int x3] (by decide +kernel) rfl rfl (Nat.le_of_ble_eq_true rfl) rfl (fun p e R s m args below meth c C => b_X11_entry_0 C _ _ _ _ _ _ (h _ ))
def F_X11_entry : FT := fun As S μ ρ k => match As with
  | [.ref a, .int s, .int p, .int x] => S.2 a = (11, 11) ∧ a = 1 ∧ ∃ (A : Rw) (u : Nat) (D : Nat → Rw), TC A u D S μ ρ ∧ Gd A ∧ k (some (.int (vEntry A s p x))) μ
  | _ => False
theorem r_X11_entry {As S μ ρ k} (h : F_X11_entry As S μ ρ k) : ∃ a As', As = Value.ref a :: As' ∧ S.2 a = (11, 11) := by
  unfold F_X11_entry at h
  split at h
  · exact ⟨_, _, rfl, h.1⟩
  · exact h.elim
set_option maxHeartbeats 1000000 in
theorem f_X11_entry {Z : Zt} {d : Nat} {As : List Value} {S : Sh} {μ : Mi} {ρ : Mr} {Rp : RT} (h : F_X11_entry As S μ ρ (fun r μ' => Rp r S μ' ρ)) : MS Z (d + 3) jX11_entry As S μ ρ Rp := by
  unfold F_X11_entry at h
  split at h
  · rename_i a s p x
    obtain ⟨h1, rfl, A, u, D, hT, hG, h⟩ := h
    refine ms_X11_entry _ _ _ _ (fun G => ?_)
    have hr := hT.1.2.1
    have hR := hT.2.1
    have hW := RR_W hR
    have i1 := hW.2.1.1
    have hq := hW.2.2.2.2.1
    have hw := hW.2.1
    unfold vEntry at h
    have pt : ∀ (e : Int32) (k : Nat), enR e A k → ∀ w : Int32, (if w = 0 then eTm e else if w = 1 then eKd e else if w = 2 then eX e else if w = 3 then eY e else -1000) = (if ¬ rgd w 0 3 then -1000 else A (k + w.toNatClampNeg)) := by
      intro e k en w
      by_cases cw : rgd w 0 3
      · rw [if_neg (not_not_intro cw)]
        obtain ⟨m, rfl, m0, -, m3⟩ := rg_ex (lo := 0) (hi := 3) cw
        rw [nI_clamp m0]
        rcases (by omega : m = 0 ∨ m = 1 ∨ m = 2 ∨ m = 3) with z | z | z | z <;> subst z
        · exact en.1.1
        · exact en.1.2.1
        · exact en.1.2.2.1
        · exact en.1.2.2.2
      · rw [if_pos cw, if_neg (fun z => cw (by rw [z]; exact ⟨by decide, by decide⟩)), if_neg (fun z => cw (by rw [z]; exact ⟨by decide, by decide⟩)), if_neg (fun z => cw (by rw [z]; exact ⟨by decide, by decide⟩)), if_neg (fun z => cw (by rw [z]; exact ⟨by decide, by decide⟩))]
    simp only [w_X11_entry_0, w_X11_entry_23, tAload, tIload, nth, tGetI, tGetR, tConst, tLconst, tBin, tUn, tI2l, tAld, tAldR, tAlen, tIast, tBast, tZast, tAast, tIret, tZret, tVret, tAret, tIf, tIf2, tGoto, tIstore, tAstore, sset, tIinc, tDup, tDup2, tPop, tPutI, tPutZ, tPutR, tCallV, tCallS, popN, tFn, tCopy, tMax, tMin, tSw, swc, tRem, tObjI, Option.toList, List.nil_append, List.cons_append, okR, true_and, and_true, true_or, or_true, Nat.zero_le, ne_eq, not_false_eq_true, Nat.reduceEqDiff, F_X11_isNoStore, b2_z, h1, hr, i1, hq, hw, Decidable.not_not]
    refine ⟨fun c => ?_, fun c => ?_⟩
    · rw [if_pos (fun z => c z.1)] at h; exact h
    obtain ⟨s, rfl, s0, -, s5⟩ := rg_ex (lo := 0) (hi := 4) c
    have hs : s < 5 := by omega
    obtain ⟨x1, x2, x3⟩ := W_st hW hs
    have x2' := x2
    unfold StS at x2
    have hSt := RR_st hR hs
    have hi5 := inb_nI hs (show (5 : Nat) < 2 ^ 31 by decide)
    obtain ⟨l, l1, l2, -, l3⟩ := rg_ex hSt.2.1.2.1
    obtain ⟨sn, n1, n2, -, n3⟩ := rg_ex hSt.2.1.2.2.1
    have hch : ∀ p : Int32, cHolds μ (2 + 130 + 8 * s) p ↔ ((A (514 * s + 5)).toInt < p.toInt ∧ p.toInt ≤ (A (514 * s + 4)).toInt) := by
      intro p
      unfold cHolds
      rw [hSt.1.2.2.2.2.2.2.2.2.2.1, hSt.1.2.2.2.2.2.2.2.1, Int32.le_iff_toInt_le, Int32.lt_iff_toInt_lt]
      omega
    rw [nI_clamp s0] at h
    simp only [w_X11_entry_27, tAload, tIload, nth, tGetI, tGetR, tConst, tLconst, tBin, tUn, tI2l, tAld, tAldR, tAlen, tIast, tBast, tZast, tAast, tIret, tZret, tVret, tAret, tIf, tIf2, tGoto, tIstore, tAstore, sset, tIinc, tDup, tDup2, tPop, tPutI, tPutZ, tPutR, tCallV, tCallS, popN, tFn, tCopy, tMax, tMin, tSw, swc, tRem, tObjI, Option.toList, List.nil_append, List.cons_append, okR, true_and, and_true, true_or, or_true, Nat.zero_le, ne_eq, not_false_eq_true, Nat.reduceEqDiff, F_X7_holds, F_X0_part, b2_z, h1, hr, i1, hq, hw, nI_clamp s0, x3, x1, x2, hi5, Decidable.not_not]
    refine ⟨by omega, x2', fun z' => ?_, fun z => ?_⟩
    · have z2 := (hch p).mp z'
      have hp : rg p 0 120 := ⟨by have := hSt.2.1.2.2.1.1; omega, by have := hSt.2.1.2.1.2; omega⟩
      obtain ⟨q, rfl, q0, -, q5⟩ := rg_ex hp
      rw [nI_clamp q0] at h ⊢
      have z3 := z2
      rw [n1, l1, nI_toInt n2, nI_toInt l2, nI_toInt q0] at z3
      have en := hSt.2.2.2.1 q (by rw [n1, nI_clamp n2]; omega) (by rw [l1, nI_clamp l2]; omega)
      refine ⟨by omega, inb_nI (by omega) (by decide), ?_⟩
      rw [pt _ _ en]
      by_cases cx : rgd x 0 3
      · rw [if_neg (not_not_intro ⟨c, cx, z2.1, z2.2⟩)] at h
        rw [if_neg (not_not_intro cx)]; exact h
      · rw [if_pos (fun z => cx z.2.1)] at h
        rw [if_pos cx]; exact h
    · rw [if_pos (fun y => z ((hch p).mpr y.2.2))] at h; exact h
  · exact h.elim
def w_X11_follows_69 (M : CT) (G : Nat → PT) (Rp : RT) : PT := tIret Rp
def w_X11_follows_62 (M : CT) (G : Nat → PT) (Rp : RT) : PT := tAload 4 <| tGetR 7 18 15 <| tIload 2 <| tAld 20 <| w_X11_follows_69 M G Rp
def w_X11_follows_48 (M : CT) (G : Nat → PT) (Rp : RT) : PT := tIload 3 <| tIf (fun x => x ≠ 0) (w_X11_follows_62 M G Rp) <| tAload 4 <| tGetR 7 18 14 <| tIload 2 <| tAld 20 <| tGoto (w_X11_follows_69 M G Rp)
def w_X11_follows_26 (M : CT) (G : Nat → PT) (Rp : RT) : PT := tAload 0 <| tGetR 11 11 0 <| tGetR 10 6 0 <| tIload 1 <| tAldR 37 <| tAstore 4 <| tAload 4 <| tGetI 7 18 4 <| tConst 2 <| tIf2 (fun x y => x = y) (w_X11_follows_48 M G Rp) <| tConst (-1) <| tIret Rp
def w_X11_follows_23 (M : CT) (G : Nat → PT) (Rp : RT) : PT := tConst (-2) <| tIret Rp
def w_X11_follows_0 (M : CT) (G : Nat → PT) (Rp : RT) : PT := tIload 1 <| tFn 1 F_X11_isNoStore <| tIf (fun x => x ≠ 0) (w_X11_follows_23 M G Rp) <| tIload 2 <| tFn 1 F_X11_isNoStore <| tIf (fun x => x ≠ 0) (w_X11_follows_23 M G Rp) <| tIload 3 <| tIf (fun x => x < 0) (w_X11_follows_23 M G Rp) <| tIload 3 <| tConst 1 <| tIf2 (fun x y => x ≤ y) (w_X11_follows_26 M G Rp) <| w_X11_follows_23 M G Rp
set_option maxRecDepth 20000 in
theorem b_X11_follows_69 {Z : Zt} {d : Nat} {p : Program} {e : Env} {R : Room} {s : State} {m : MethodId} {args : Array Value} {below : List Frame} {meth : Method} {c : Code} {Rp : RT} (C : Cx Z (d + 1) jX11_follows RX11 p R s m args meth c) : Sd Z jX11_follows p e R s m args below meth c (MQ below (QcS Z Rp) args s 0 0 (fun a => Z.2.2.1 < a)) 69 (w_X11_follows_69 (MS Z (d + 1)) (Gw Z 5 p e R s m args below meth c (MQ below (QcS Z Rp) args s 0 0 (fun a => Z.2.2.1 < a))) Rp) := by
  unfold w_X11_follows_69
  exact s_iret C rfl (by decide +kernel)
set_option maxRecDepth 20000 in
theorem b_X11_follows_62 {Z : Zt} {d : Nat} {p : Program} {e : Env} {R : Room} {s : State} {m : MethodId} {args : Array Value} {below : List Frame} {meth : Method} {c : Code} {Rp : RT} (C : Cx Z (d + 1) jX11_follows RX11 p R s m args meth c) : Sd Z jX11_follows p e R s m args below meth c (MQ below (QcS Z Rp) args s 0 0 (fun a => Z.2.2.1 < a)) 62 (w_X11_follows_62 (MS Z (d + 1)) (Gw Z 5 p e R s m args below meth c (MQ below (QcS Z Rp) args s 0 0 (fun a => Z.2.2.1 < a))) Rp) := by
  unfold w_X11_follows_62
  refine s_aload (k := 4) C (by decide +kernel) ?_
  refine s_getR C w_2_31 (by decide +kernel) rfl ?_
  refine s_iload_n (k := 2) C (by decide +kernel) ?_
  refine s_iald C (by decide +kernel) ?_
  exact (b_X11_follows_69 C)
set_option maxRecDepth 20000 in
theorem b_X11_follows_48 {Z : Zt} {d : Nat} {p : Program} {e : Env} {R : Room} {s : State} {m : MethodId} {args : Array Value} {below : List Frame} {meth : Method} {c : Code} {Rp : RT} (C : Cx Z (d + 1) jX11_follows RX11 p R s m args meth c) : Sd Z jX11_follows p e R s m args below meth c (MQ below (QcS Z Rp) args s 0 0 (fun a => Z.2.2.1 < a)) 48 (w_X11_follows_48 (MS Z (d + 1)) (Gw Z 5 p e R s m args below meth c (MQ below (QcS Z Rp) args s 0 0 (fun a => Z.2.2.1 < a))) Rp) := by
  unfold w_X11_follows_48
  refine s_iload_n (k := 3) C (by decide +kernel) ?_
  refine s_if_ne (off := 13) (tgt := 62) C (by decide +kernel) (by decide) (b_X11_follows_62 C) ?_
  refine s_aload (k := 4) C (by decide +kernel) ?_
  refine s_getR C w_2_27 (by decide +kernel) rfl ?_
  refine s_iload_n (k := 2) C (by decide +kernel) ?_
  refine s_iald C (by decide +kernel) ?_
  exact s_goto (off := 10) (tgt := 69) C (by decide +kernel) (by decide) (b_X11_follows_69 C)
set_option maxRecDepth 20000 in
theorem b_X11_follows_26 {Z : Zt} {d : Nat} {p : Program} {e : Env} {R : Room} {s : State} {m : MethodId} {args : Array Value} {below : List Frame} {meth : Method} {c : Code} {Rp : RT} (C : Cx Z (d + 1) jX11_follows RX11 p R s m args meth c) : Sd Z jX11_follows p e R s m args below meth c (MQ below (QcS Z Rp) args s 0 0 (fun a => Z.2.2.1 < a)) 26 (w_X11_follows_26 (MS Z (d + 1)) (Gw Z 5 p e R s m args below meth c (MQ below (QcS Z Rp) args s 0 0 (fun a => Z.2.2.1 < a))) Rp) := by
  unfold w_X11_follows_26
  refine s_aload_n (k := 0) C (by decide +kernel) ?_
  refine s_getR C w_2_234 (by decide +kernel) rfl ?_
  refine s_getR C w_2_116 (by decide +kernel) rfl ?_
  refine s_iload_n (k := 1) C (by decide +kernel) ?_
  refine s_aald C rfl (by decide +kernel) ?_
  refine s_astore (k := 4) C (by decide +kernel) ?_
  refine s_aload (k := 4) C (by decide +kernel) ?_
  refine s_getI C w_1_235 (by decide +kernel) rfl ?_
  refine s_iconst (n := 2) C (by decide +kernel) (by decide) ?_
  refine s_icmp_eq (off := 5) (tgt := 48) C (by decide +kernel) (by decide) (b_X11_follows_48 C) ?_
  refine s_iconst (n := (-1)) C (by decide +kernel) (by decide) ?_
  exact s_iret C rfl (by decide +kernel)
set_option maxRecDepth 20000 in
theorem b_X11_follows_23 {Z : Zt} {d : Nat} {p : Program} {e : Env} {R : Room} {s : State} {m : MethodId} {args : Array Value} {below : List Frame} {meth : Method} {c : Code} {Rp : RT} (C : Cx Z (d + 1) jX11_follows RX11 p R s m args meth c) : Sd Z jX11_follows p e R s m args below meth c (MQ below (QcS Z Rp) args s 0 0 (fun a => Z.2.2.1 < a)) 23 (w_X11_follows_23 (MS Z (d + 1)) (Gw Z 5 p e R s m args below meth c (MQ below (QcS Z Rp) args s 0 0 (fun a => Z.2.2.1 < a))) Rp) := by
  unfold w_X11_follows_23
  refine s_bipush (n := (-2)) C (by decide +kernel) (by decide) ?_
  exact s_iret C rfl (by decide +kernel)
set_option maxRecDepth 20000 in
theorem b_X11_follows_0 {Z : Zt} {d : Nat} {p : Program} {e : Env} {R : Room} {s : State} {m : MethodId} {args : Array Value} {below : List Frame} {meth : Method} {c : Code} {Rp : RT} (C : Cx Z (d + 1) jX11_follows RX11 p R s m args meth c) : Sd Z jX11_follows p e R s m args below meth c (MQ below (QcS Z Rp) args s 0 0 (fun a => Z.2.2.1 < a)) 0 (w_X11_follows_0 (MS Z (d + 1)) (Gw Z 5 p e R s m args below meth c (MQ below (QcS Z Rp) args s 0 0 (fun a => Z.2.2.1 < a))) Rp) := by
  unfold w_X11_follows_0
  refine s_iload_n (k := 1) C (by decide +kernel) ?_
  refine s_fnS C (j2 := jX11_isNoStore) (by decide +kernel) rfl w_5_100 w_3_103 w_1_1 w_3_104 (by decide +kernel) (fun _ _ _ _ _ h => f_X11_isNoStore h) ?_
  refine s_if_ne (off := 19) (tgt := 23) C (by decide +kernel) (by decide) (b_X11_follows_23 C) ?_
  refine s_iload_n (k := 2) C (by decide +kernel) ?_
  refine s_fnS C (j2 := jX11_isNoStore) (by decide +kernel) rfl w_5_100 w_3_103 w_1_1 w_3_104 (by decide +kernel) (fun _ _ _ _ _ h => f_X11_isNoStore h) ?_
  refine s_if_ne (off := 12) (tgt := 23) C (by decide +kernel) (by decide) (b_X11_follows_23 C) ?_
  refine s_iload_n (k := 3) C (by decide +kernel) ?_
  refine s_if_lt (off := 8) (tgt := 23) C (by decide +kernel) (by decide) (b_X11_follows_23 C) ?_
  refine s_iload_n (k := 3) C (by decide +kernel) ?_
  refine s_iconst (n := 1) C (by decide +kernel) (by decide) ?_
  refine s_icmp_le (off := 6) (tgt := 26) C (by decide +kernel) (by decide) (b_X11_follows_26 C) ?_
  exact (b_X11_follows_23 C)
theorem ms_X11_follows {Z : Zt} {d : Nat} {S : Sh} {μ : Mi} {ρ : Mr} {Rp : RT} (a0 : Nat) (x1 : Int32) (x2 : Int32) (x3 : Int32) (h : ∀ G : Nat → PT, w_X11_follows_0 (MS Z (d + 1)) G Rp [.ref a0, .int x1, .int x2, .int x3, .null] [] S (0, 0) μ ρ) : MS Z (d + 2) jX11_follows [.ref a0, .int x1, .int x2, .int x3] S μ ρ Rp :=
  MS_of [.ref a0, .int x1, .int x2, .int x3, .null] (by decide +kernel) rfl rfl (Nat.le_of_ble_eq_true rfl) rfl (fun p e R s m args below meth c C => b_X11_follows_0 C _ _ _ _ _ _ (h _ ))
def F_X11_follows : FT := fun As S μ ρ k => match As with
  | [.ref a, .int s, .int t, .int x] => S.2 a = (11, 11) ∧ a = 1 ∧ ∃ (A : Rw) (u : Nat) (D : Nat → Rw), TC A u D S μ ρ ∧ Gd A ∧ k (some (.int (vFollows A s t x))) μ
  | _ => False
theorem r_X11_follows {As S μ ρ k} (h : F_X11_follows As S μ ρ k) : ∃ a As', As = Value.ref a :: As' ∧ S.2 a = (11, 11) := by
  unfold F_X11_follows at h
  split at h
  · exact ⟨_, _, rfl, h.1⟩
  · exact h.elim
set_option maxHeartbeats 1000000 in
theorem f_X11_follows {Z : Zt} {d : Nat} {As : List Value} {S : Sh} {μ : Mi} {ρ : Mr} {Rp : RT} (h : F_X11_follows As S μ ρ (fun r μ' => Rp r S μ' ρ)) : MS Z (d + 2) jX11_follows As S μ ρ Rp := by
  unfold F_X11_follows at h
  split at h
  · rename_i a s t x
    obtain ⟨h1, rfl, A, u, D, hT, hG, h⟩ := h
    refine ms_X11_follows _ _ _ _ (fun G => ?_)
    have hr := hT.1.2.1
    have hR := hT.2.1
    have hW := RR_W hR
    have i1 := hW.2.1.1
    have hq := hW.2.2.2.2.1
    have hw := hW.2.1
    unfold vFollows at h
    have e := rg_05 (x := x) (lo := 0) (hi := 1) (l := 0) (h := 1) (by decide) (by decide)
    have bad : ¬ (rgd s 0 4 ∧ rgd t 0 4 ∧ rgd x 0 1) → Rp (some (.int (-2))) S μ ρ := fun z => by rw [if_pos z] at h; exact h
    simp only [w_X11_follows_0, w_X11_follows_23, tAload, tIload, nth, tGetI, tGetR, tConst, tLconst, tBin, tUn, tI2l, tAld, tAldR, tAlen, tIast, tBast, tZast, tAast, tIret, tZret, tVret, tAret, tIf, tIf2, tGoto, tIstore, tAstore, sset, tIinc, tDup, tDup2, tPop, tPutI, tPutZ, tPutR, tCallV, tCallS, popN, tFn, tCopy, tMax, tMin, tSw, swc, tRem, tObjI, Option.toList, List.nil_append, List.cons_append, okR, true_and, and_true, true_or, or_true, Nat.zero_le, ne_eq, not_false_eq_true, Nat.reduceEqDiff, F_X11_isNoStore, b2_z, Decidable.not_not]
    refine ⟨fun c => bad (fun z => c z.1), fun c => ⟨fun c2 => bad (fun z => c2 z.2.1), fun c2 => ⟨fun c3 => bad (fun z => (e.mpr z.2.2).1 c3), fun c3 => ⟨fun c4 => ?_, fun c4 => bad (fun z => c4 (e.mpr z.2.2).2)⟩⟩⟩⟩
    rw [if_neg (not_not_intro ⟨c, c2, e.mp ⟨c3, c4⟩⟩)] at h
    obtain ⟨s, rfl, s0, -, s5⟩ := rg_ex (lo := 0) (hi := 4) c
    have hs : s < 5 := by omega
    obtain ⟨x1, x2, x3⟩ := W_st hW hs
    have x2' := x2
    unfold StS at x2
    have hSt := RR_st hR hs
    have hi5 := inb_nI hs (show (5 : Nat) < 2 ^ 31 by decide)
    obtain ⟨r, rfl, r0, -, r5⟩ := rg_ex (lo := 0) (hi := 4) c2
    rw [nI_clamp s0, nI_clamp r0] at h
    have hir := inb_nI (k := r) (n := 5) (by omega) (by decide)
    have e4 : μ (2 + 130 + 8 * s) 4 = A (514 * s + 3) := hSt.1.2.2.2.2.1
    simp only [w_X11_follows_26, w_X11_follows_48, w_X11_follows_62, w_X11_follows_69, tAload, tIload, nth, tGetI, tGetR, tConst, tLconst, tBin, tUn, tI2l, tAld, tAldR, tAlen, tIast, tBast, tZast, tAast, tIret, tZret, tVret, tAret, tIf, tIf2, tGoto, tIstore, tAstore, sset, tIinc, tDup, tDup2, tPop, tPutI, tPutZ, tPutR, tCallV, tCallS, popN, tFn, tCopy, tMax, tMin, tSw, swc, tRem, tObjI, Option.toList, List.nil_append, List.cons_append, okR, true_and, and_true, true_or, or_true, Nat.zero_le, ne_eq, not_false_eq_true, Nat.reduceEqDiff, h1, hr, i1, hq, hw, nI_clamp s0, nI_clamp r0, x3, x1, x2, hi5, hir, e4]
    refine ⟨by omega, fun z => ?_, fun z => ?_⟩
    · have hN := hR.2 s hs z r (by omega)
      rw [hN.1, hN.2]
      rw [if_neg (not_not_intro z)] at h
      refine ⟨fun y => ?_, fun y => ?_⟩
      · rw [if_neg y] at h; exact h
      · rw [if_pos (Classical.not_not.mp y)] at h; exact h
    · rw [if_pos z] at h; exact h
  · exact h.elim
