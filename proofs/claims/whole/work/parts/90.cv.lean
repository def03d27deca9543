/-! ===== the class: elections ===== -/
theorem St_t {A : Rw} {s x : Nat} {μ : Mi} {v : Int32} (hs : s < 5) (h : St A s x μ) : St (up A (514 * s + 1) v) s x (upI μ x 2 v) := by
  have hA := h.1
  unfold StA at hA
  refine St_note hs h (fun i i1 i2 i3 i4 => up_ne (by omega)) (by rw [up_ne (by omega)]; exact h.2.1.1) (fun y y1 y2 y3 y4 y5 y6 => upI_ne (by omega)) (by simp (disch := omega) only [upI_k, and_self]) ?_
  unfold StA
  simp (disch := omega) only [upI_ne, upI_k, upI_at, up_at, up_ne, hA, and_self]
theorem RR_t {A : Rw} {w s : Nat} {S : Sh} {μ : Mi} {ρ : Mr} {v : Int32} (hs : s < 5) (h : RR A w S μ ρ) : RR (up A (514 * s + 1) v) w S (upI μ (w + 130 + 8 * s) 2 v) ρ :=
  ⟨R0_store hs h.1 (fun i hi => up_ne (by omega)) (fun y hy => upI_ne (by omega)) (St_t hs (RR_st h hs)), Nx_keep h.2 (fun r i hr hi => up_ne (by omega)) (fun r hr => ⟨upI_ne (by omega), upI_ne (by omega)⟩)⟩
theorem St_v {A : Rw} {s x : Nat} {μ : Mi} {v : Int32} (hs : s < 5) (h : St A s x μ) : St (up A (514 * s + 2) v) s x (upI μ x 3 v) := by
  have hA := h.1
  unfold StA at hA
  refine St_note hs h (fun i i1 i2 i3 i4 => up_ne (by omega)) (by rw [up_ne (by omega)]; exact h.2.1.1) (fun y y1 y2 y3 y4 y5 y6 => upI_ne (by omega)) (by simp (disch := omega) only [upI_k, and_self]) ?_
  unfold StA
  simp (disch := omega) only [upI_ne, upI_k, upI_at, up_at, up_ne, hA, and_self]
theorem RR_v {A : Rw} {w s : Nat} {S : Sh} {μ : Mi} {ρ : Mr} {v : Int32} (hs : s < 5) (h : RR A w S μ ρ) : RR (up A (514 * s + 2) v) w S (upI μ (w + 130 + 8 * s) 3 v) ρ :=
  ⟨R0_store hs h.1 (fun i hi => up_ne (by omega)) (fun y hy => upI_ne (by omega)) (St_v hs (RR_st h hs)), Nx_keep h.2 (fun r i hr hi => up_ne (by omega)) (fun r hr => ⟨upI_ne (by omega), upI_ne (by omega)⟩)⟩
theorem St_o {A : Rw} {s x : Nat} {μ : Mi} {v : Int32} (hs : s < 5) (h : St A s x μ) : St (up A (514 * s + 8) v) s x (upI μ x 5 v) := by
  have hA := h.1
  unfold StA at hA
  refine St_note hs h (fun i i1 i2 i3 i4 => up_ne (by omega)) (by rw [up_ne (by omega)]; exact h.2.1.1) (fun y y1 y2 y3 y4 y5 y6 => upI_ne (by omega)) (by simp (disch := omega) only [upI_k, and_self]) ?_
  unfold StA
  simp (disch := omega) only [upI_ne, upI_k, upI_at, up_at, up_ne, hA, and_self]
theorem RR_o {A : Rw} {w s : Nat} {S : Sh} {μ : Mi} {ρ : Mr} {v : Int32} (hs : s < 5) (h : RR A w S μ ρ) : RR (up A (514 * s + 8) v) w S (upI μ (w + 130 + 8 * s) 5 v) ρ :=
  ⟨R0_store hs h.1 (fun i hi => up_ne (by omega)) (fun y hy => upI_ne (by omega)) (St_o hs (RR_st h hs)), Nx_keep h.2 (fun r i hr hi => up_ne (by omega)) (fun r hr => ⟨upI_ne (by omega), upI_ne (by omega)⟩)⟩
theorem St_r {A : Rw} {s x : Nat} {μ : Mi} {v : Int32} (hs : s < 5) (h : St A s x μ) : St (up A (514 * s + 14) v) s x (upI μ x 6 v) := by
  have hA := h.1
  unfold StA at hA
  refine St_note hs h (fun i i1 i2 i3 i4 => up_ne (by omega)) (by rw [up_ne (by omega)]; exact h.2.1.1) (fun y y1 y2 y3 y4 y5 y6 => upI_ne (by omega)) (by simp (disch := omega) only [upI_k, and_self]) ?_
  unfold StA
  simp (disch := omega) only [upI_ne, upI_k, upI_at, up_at, up_ne, hA, and_self]
theorem RR_r {A : Rw} {w s : Nat} {S : Sh} {μ : Mi} {ρ : Mr} {v : Int32} (hs : s < 5) (h : RR A w S μ ρ) : RR (up A (514 * s + 14) v) w S (upI μ (w + 130 + 8 * s) 6 v) ρ :=
  ⟨R0_store hs h.1 (fun i hi => up_ne (by omega)) (fun y hy => upI_ne (by omega)) (St_r hs (RR_st h hs)), Nx_keep h.2 (fun r i hr hi => up_ne (by omega)) (fun r hr => ⟨upI_ne (by omega), upI_ne (by omega)⟩)⟩
theorem ot_trans {w : Nat} {μ μ' μ'' : Mi} (h : Ot w μ μ') (h2 : Ot w μ' μ'') : Ot w μ μ'' := fun y hy => (h2 y hy).trans (h y hy)
theorem Fm_Ot {w : Nat} {μ μ' : Mi} (h : Fm w μ μ') : Ot w μ μ' := fun y hy => h y (by omega)
def w_X10_stand_59 (M : CT) (G : Nat → PT) (Rp : RT) : PT := tIret Rp
def w_X10_stand_58 (M : CT) (G : Nat → PT) (Rp : RT) : PT := tConst 0 <| w_X10_stand_59 M G Rp
def w_X10_stand_0 (M : CT) (G : Nat → PT) (Rp : RT) : PT := tAload 1 <| tDup <| tGetI 7 18 2 <| tConst 1 <| tBin (fun x y => x + y) <| tPutI 7 18 2 <| tAload 1 <| tConst 1 <| tFn 2 F_X7_becomes <| tAload 1 <| tAload 1 <| tGetI 7 18 0 <| tPutI 7 18 3 <| tAload 1 <| tConst 1 <| tAload 1 <| tGetI 7 18 0 <| tBin (fun x y => x <<< (y &&& 31)) <| tPutI 7 18 5 <| tAload 0 <| tAload 1 <| tConst 0 <| tAload 1 <| tGetI 7 18 2 <| tFn 4 F_X10_postToMembers <| tAload 1 <| tAload 1 <| tGetI 7 18 5 <| tFn 2 F_X7_isMajority <| tIf (fun x => x = 0) (w_X10_stand_58 M G Rp) <| tConst 2 <| tGoto (w_X10_stand_59 M G Rp)
set_option maxRecDepth 20000 in
theorem b_X10_stand_59 {Z : Zt} {d : Nat} {p : Program} {e : Env} {R : Room} {s : State} {m : MethodId} {args : Array Value} {below : List Frame} {meth : Method} {c : Code} {Rp : RT} (C : Cx Z (d + 2) jX10_stand RX10 p R s m args meth c) : Sd Z jX10_stand p e R s m args below meth c (MQ below (QcS Z Rp) args s 0 0 (fun a => Z.2.2.1 < a)) 59 (w_X10_stand_59 (MS Z (d + 2)) (Gw Z 2 p e R s m args below meth c (MQ below (QcS Z Rp) args s 0 0 (fun a => Z.2.2.1 < a))) Rp) := by
  unfold w_X10_stand_59
  exact s_iret C rfl (by decide +kernel)
set_option maxRecDepth 20000 in
theorem b_X10_stand_58 {Z : Zt} {d : Nat} {p : Program} {e : Env} {R : Room} {s : State} {m : MethodId} {args : Array Value} {below : List Frame} {meth : Method} {c : Code} {Rp : RT} (C : Cx Z (d + 2) jX10_stand RX10 p R s m args meth c) : Sd Z jX10_stand p e R s m args below meth c (MQ below (QcS Z Rp) args s 0 0 (fun a => Z.2.2.1 < a)) 58 (w_X10_stand_58 (MS Z (d + 2)) (Gw Z 2 p e R s m args below meth c (MQ below (QcS Z Rp) args s 0 0 (fun a => Z.2.2.1 < a))) Rp) := by
  unfold w_X10_stand_58
  refine s_iconst (n := 0) C (by decide +kernel) (by decide) ?_
  exact (b_X10_stand_59 C)
set_option maxRecDepth 20000 in
theorem b_X10_stand_0 {Z : Zt} {d : Nat} {p : Program} {e : Env} {R : Room} {s : State} {m : MethodId} {args : Array Value} {below : List Frame} {meth : Method} {c : Code} {Rp : RT} (C : Cx Z (d + 2) jX10_stand RX10 p R s m args meth c) : Sd Z jX10_stand p e R s m args below meth c (MQ below (QcS Z Rp) args s 0 0 (fun a => Z.2.2.1 < a)) 0 (w_X10_stand_0 (MS Z (d + 2)) (Gw Z 2 p e R s m args below meth c (MQ below (QcS Z Rp) args s 0 0 (fun a => Z.2.2.1 < a))) Rp) := by
  unfold w_X10_stand_0
  refine s_aload_n (k := 1) C (by decide +kernel) ?_
  refine s_dup C (by decide +kernel) ?_
  refine s_getI C w_1_227 (by decide +kernel) rfl ?_
  refine s_iconst (n := 1) C (by decide +kernel) (by decide) ?_
  refine s_iadd C (by decide +kernel) ?_
  refine s_putI C w_1_227 (by decide +kernel) rfl (Or.inl rfl) ?_
  refine s_aload_n (k := 1) C (by decide +kernel) ?_
  refine s_iconst (n := 1) C (by decide +kernel) (by decide) ?_
  refine s_fnV C (j2 := jX7_becomes) (cl := 7) (nf := 18) rfl rfl (by decide +kernel) rfl w_3_117 w_3_118 w_3_119 w_1_5 w_3_120 (by decide +kernel) (fun _ _ _ _ _ h => f_X7_becomes h) (fun _ _ _ _ _ h => r_X7_becomes h) ?_
  refine s_aload_n (k := 1) C (by decide +kernel) ?_
  refine s_aload_n (k := 1) C (by decide +kernel) ?_
  refine s_getI C w_1_221 (by decide +kernel) rfl ?_
  refine s_putI C w_1_230 (by decide +kernel) rfl (Or.inl rfl) ?_
  refine s_aload_n (k := 1) C (by decide +kernel) ?_
  refine s_iconst (n := 1) C (by decide +kernel) (by decide) ?_
  refine s_aload_n (k := 1) C (by decide +kernel) ?_
  refine s_getI C w_1_221 (by decide +kernel) rfl ?_
  refine s_ishl C (by decide +kernel) ?_
  refine s_putI C w_1_238 (by decide +kernel) rfl (Or.inl rfl) ?_
  refine s_aload_n (k := 0) C (by decide +kernel) ?_
  refine s_aload_n (k := 1) C (by decide +kernel) ?_
  refine s_iconst (n := 0) C (by decide +kernel) (by decide) ?_
  refine s_aload_n (k := 1) C (by decide +kernel) ?_
  refine s_getI C w_1_227 (by decide +kernel) rfl ?_
  refine s_fnV C (j2 := jX10_postToMembers) (cl := 10) (nf := 6) rfl rfl (by decide +kernel) rfl w_3_121 w_3_123 w_p1_4 w_1_2 w_3_124 (by decide +kernel) (fun _ _ _ _ _ h => f_X10_postToMembers h) (fun _ _ _ _ _ h => r_X10_postToMembers h) ?_
  refine s_aload_n (k := 1) C (by decide +kernel) ?_
  refine s_aload_n (k := 1) C (by decide +kernel) ?_
  refine s_getI C w_1_238 (by decide +kernel) rfl ?_
  refine s_fnV C (j2 := jX7_isMajority) (cl := 7) (nf := 18) rfl rfl (by decide +kernel) rfl w_3_133 w_3_134 w_3_135 w_1_5 w_3_136 (by decide +kernel) (fun _ _ _ _ _ h => f_X7_isMajority h) (fun _ _ _ _ _ h => r_X7_isMajority h) ?_
  refine s_if_eq (off := 7) (tgt := 58) C (by decide +kernel) (by decide) (b_X10_stand_58 C) ?_
  refine s_iconst (n := 2) C (by decide +kernel) (by decide) ?_
  exact s_goto (off := 4) (tgt := 59) C (by decide +kernel) (by decide) (b_X10_stand_59 C)
theorem ms_X10_stand {Z : Zt} {d : Nat} {S : Sh} {μ : Mi} {ρ : Mr} {Rp : RT} (a0 : Nat) (a1 : Nat) (h : ∀ G : Nat → PT, w_X10_stand_0 (MS Z (d + 2)) G Rp [.ref a0, .ref a1] [] S (0, 0) μ ρ) : MS Z (d + 3) jX10_stand [.ref a0, .ref a1] S μ ρ Rp :=
  MS_of [.ref a0, .ref a1] (by decide +kernel) rfl rfl (Nat.le_of_ble_eq_true rfl) rfl (fun p e R s m args below meth c C => b_X10_stand_0 C _ _ _ _ _ _ (h _ ))
def F_X10_stand : FT := fun As S μ ρ k => match As with
  | [.ref a, .ref x] => S.2 a = (10, 6) ∧ ∃ (s : Nat) (A : Rw), s < 5 ∧ x = a + 130 + 8 * s ∧ RR A a S μ ρ ∧ (ownMaj (qStand1 A s) s → ∀ μ', RR (qAsksAll (qStand1 A s) s 0) a S μ' ρ → Ot a μ μ' → k (some (.int 2)) μ') ∧ (¬ ownMaj (qStand1 A s) s → ∀ μ', RR (qAsksAll (qStand1 A s) s 0) a S μ' ρ → Ot a μ μ' → k (some (.int 0)) μ')
  | _ => False
theorem r_X10_stand {As S μ ρ k} (h : F_X10_stand As S μ ρ k) : ∃ a As', As = Value.ref a :: As' ∧ S.2 a = (10, 6) := by
  unfold F_X10_stand at h
  split at h
  · exact ⟨_, _, rfl, h.1⟩
  · exact h.elim
set_option maxHeartbeats 1000000 in
theorem f_X10_stand {Z : Zt} {d : Nat} {As : List Value} {S : Sh} {μ : Mi} {ρ : Mr} {Rp : RT} (h : F_X10_stand As S μ ρ (fun r μ' => Rp r S μ' ρ)) : MS Z (d + 3) jX10_stand As S μ ρ Rp := by
  unfold F_X10_stand at h
  split at h
  · rename_i a x
    obtain ⟨a, hNa⟩ : ∃ n : Nat, n = a := ⟨a, rfl⟩
    subst hNa
    obtain ⟨h1, s, A, hs, rfl, hR, hy, hn⟩ := h
    refine ms_X10_stand _ _ (fun G => ?_)
    have hW := RR_W hR
    obtain ⟨x1, x2, -⟩ := W_st hW hs
    have hSt := RR_st hR hs
    have e2 : μ (a + 130 + 8 * s) 2 = A (514 * s + 1) := hSt.1.2.2.1
    have r1 : RR (qStand1 A s) a S (upI (upI (cBec (upI μ (a + 130 + 8 * s) 2 (A (514 * s + 1) + 1)) (a + 130 + 8 * s) 1) (a + 130 + 8 * s) 3 (nI s)) (a + 130 + 8 * s) 5 ((1 : Int32) <<< (nI s &&& 31))) ρ :=
      RR_o hs (RR_v hs (RR_bec hs (RR_t hs hR) (by decide)))
    have e0 : cBec (upI μ (a + 130 + 8 * s) 2 (A (514 * s + 1) + 1)) (a + 130 + 8 * s) 1 (a + 130 + 8 * s) 0 = nI s := (RR_st (RR_bec (o := 1) hs (RR_t (v := A (514 * s + 1) + 1) hs hR) (by decide)) hs).1.1
    have ho : Ot a μ (upI (upI (cBec (upI μ (a + 130 + 8 * s) 2 (A (514 * s + 1) + 1)) (a + 130 + 8 * s) 1) (a + 130 + 8 * s) 3 (nI s)) (a + 130 + 8 * s) 5 ((1 : Int32) <<< (nI s &&& 31))) := fun y hy => by rw [upI_ne (by omega), upI_ne (by omega), cBec_ne (by omega) (by omega), upI_ne (by omega)]
    simp only [w_X10_stand_0, w_X10_stand_58, w_X10_stand_59, tAload, tIload, nth, tGetI, tGetR, tConst, tLconst, tBin, tUn, tI2l, tAld, tAldR, tAlen, tIast, tBast, tZast, tAast, tIret, tZret, tVret, tAret, tIf, tIf2, tGoto, tIstore, tAstore, sset, tIinc, tDup, tDup2, tPop, tPutI, tPutZ, tPutR, tCallV, tCallS, popN, tFn, tCopy, tMax, tMin, tSw, swc, tRem, tObjI, Option.toList, List.nil_append, List.cons_append, okR, true_and, and_true, true_or, or_true, Nat.zero_le, ne_eq, not_false_eq_true, Nat.reduceEqDiff, F_X7_becomes, F_X10_postToMembers, F_X7_isMajority, h1, x1, x2, e2, e0, upI_at]
    simp (disch := omega) only [upI_k, e0]
    generalize upI (upI (cBec (upI μ (a + 130 + 8 * s) 2 (A (514 * s + 1) + 1)) (a + 130 + 8 * s) 1) (a + 130 + 8 * s) 3 (nI s)) (a + 130 + 8 * s) 5 ((1 : Int32) <<< (nI s &&& 31)) = ν at *
    have e3 : cBec (upI μ (a + 130 + 8 * s) 2 (A (514 * s + 1) + 1)) (a + 130 + 8 * s) 1 (a + 130 + 8 * s) 2 = A (514 * s + 1) + 1 := by
      rw [(RR_st (RR_bec (o := 1) hs (RR_t (v := A (514 * s + 1) + 1) hs hR) (by decide)) hs).1.2.2.1, qPlays_out (by omega), up_at]
    have es : qStand1 A s (514 * s + 1) = A (514 * s + 1) + 1 := by
      unfold qStand1
      rw [up_ne (by omega), up_ne (by omega), qPlays_out (by omega), up_at]
    have hν := RR_st r1 hs
    have ev : qStand1 A s (514 * s + 8) = 1 <<< (nI s &&& 31) := by
      show up _ (514 * s + 8) _ (514 * s + 8) = _
      exact up_at
    refine ⟨s, _, hs, rfl, r1, by decide, by rw [if_neg (by decide), es]; exact e3, fun μ' q1 q2 => ?_⟩
    have ex : μ' (a + 130 + 8 * s) = ν (a + 130 + 8 * s) := q2 _ (by omega)
    rw [ex, hν.2.2.2.2.2.1, hν.2.2.2.2.2.2, hν.1.2.2.2.2.2.1, ev]
    have hm := St_mem hν
    rw [hν.2.2.2.2.2.1, hν.2.2.2.2.2.2] at hm
    refine ⟨hm.1, hm.2.1, fun c => ⟨fun z => absurd z (by decide), fun _ => hy c μ' q1 (ot_trans ho (Fm_Ot q2))⟩, fun c => ⟨fun _ => hn c μ' q1 (ot_trans ho (Fm_Ot q2)), fun z => absurd trivial z⟩⟩
  · exact h.elim
def w_X10_askFirst_44 (M : CT) (G : Nat → PT) (Rp : RT) : PT := tIret Rp
def w_X10_askFirst_43 (M : CT) (G : Nat → PT) (Rp : RT) : PT := tConst 0 <| w_X10_askFirst_44 M G Rp
def w_X10_askFirst_0 (M : CT) (G : Nat → PT) (Rp : RT) : PT := tAload 1 <| tConst 3 <| tFn 2 F_X7_becomes <| tAload 1 <| tConst 1 <| tAload 1 <| tGetI 7 18 0 <| tBin (fun x y => x <<< (y &&& 31)) <| tPutI 7 18 5 <| tAload 0 <| tAload 1 <| tConst 7 <| tAload 1 <| tGetI 7 18 2 <| tConst 1 <| tBin (fun x y => x + y) <| tFn 4 F_X10_postToMembers <| tAload 1 <| tAload 1 <| tGetI 7 18 5 <| tFn 2 F_X7_isMajority <| tIf (fun x => x = 0) (w_X10_askFirst_43 M G Rp) <| tConst 1 <| tGoto (w_X10_askFirst_44 M G Rp)
set_option maxRecDepth 20000 in
theorem b_X10_askFirst_44 {Z : Zt} {d : Nat} {p : Program} {e : Env} {R : Room} {s : State} {m : MethodId} {args : Array Value} {below : List Frame} {meth : Method} {c : Code} {Rp : RT} (C : Cx Z (d + 2) jX10_askFirst RX10 p R s m args meth c) : Sd Z jX10_askFirst p e R s m args below meth c (MQ below (QcS Z Rp) args s 0 0 (fun a => Z.2.2.1 < a)) 44 (w_X10_askFirst_44 (MS Z (d + 2)) (Gw Z 2 p e R s m args below meth c (MQ below (QcS Z Rp) args s 0 0 (fun a => Z.2.2.1 < a))) Rp) := by
  unfold w_X10_askFirst_44
  exact s_iret C rfl (by decide +kernel)
set_option maxRecDepth 20000 in
theorem b_X10_askFirst_43 {Z : Zt} {d : Nat} {p : Program} {e : Env} {R : Room} {s : State} {m : MethodId} {args : Array Value} {below : List Frame} {meth : Method} {c : Code} {Rp : RT} (C : Cx Z (d + 2) jX10_askFirst RX10 p R s m args meth c) : Sd Z jX10_askFirst p e R s m args below meth c (MQ below (QcS Z Rp) args s 0 0 (fun a => Z.2.2.1 < a)) 43 (w_X10_askFirst_43 (MS Z (d + 2)) (Gw Z 2 p e R s m args below meth c (MQ below (QcS Z Rp) args s 0 0 (fun a => Z.2.2.1 < a))) Rp) := by
  unfold w_X10_askFirst_43
  refine s_iconst (n := 0) C (by decide +kernel) (by decide) ?_
  exact (b_X10_askFirst_44 C)
set_option maxRecDepth 20000 in
theorem b_X10_askFirst_0 {Z : Zt} {d : Nat} {p : Program} {e : Env} {R : Room} {s : State} {m : MethodId} {args : Array Value} {below : List Frame} {meth : Method} {c : Code} {Rp : RT} (C : Cx Z (d + 2) jX10_askFirst RX10 p R s m args meth c) : Sd Z jX10_askFirst p e R s m args below meth c (MQ below (QcS Z Rp) args s 0 0 (fun a => Z.2.2.1 < a)) 0 (w_X10_askFirst_0 (MS Z (d + 2)) (Gw Z 2 p e R s m args below meth c (MQ below (QcS Z Rp) args s 0 0 (fun a => Z.2.2.1 < a))) Rp) := by
  unfold w_X10_askFirst_0
  refine s_aload_n (k := 1) C (by decide +kernel) ?_
  refine s_iconst (n := 3) C (by decide +kernel) (by decide) ?_
  refine s_fnV C (j2 := jX7_becomes) (cl := 7) (nf := 18) rfl rfl (by decide +kernel) rfl w_3_117 w_3_118 w_3_119 w_1_5 w_3_120 (by decide +kernel) (fun _ _ _ _ _ h => f_X7_becomes h) (fun _ _ _ _ _ h => r_X7_becomes h) ?_
  refine s_aload_n (k := 1) C (by decide +kernel) ?_
  refine s_iconst (n := 1) C (by decide +kernel) (by decide) ?_
  refine s_aload_n (k := 1) C (by decide +kernel) ?_
  refine s_getI C w_1_221 (by decide +kernel) rfl ?_
  refine s_ishl C (by decide +kernel) ?_
  refine s_putI C w_1_238 (by decide +kernel) rfl (Or.inl rfl) ?_
  refine s_aload_n (k := 0) C (by decide +kernel) ?_
  refine s_aload_n (k := 1) C (by decide +kernel) ?_
  refine s_bipush (n := 7) C (by decide +kernel) (by decide) ?_
  refine s_aload_n (k := 1) C (by decide +kernel) ?_
  refine s_getI C w_1_227 (by decide +kernel) rfl ?_
  refine s_iconst (n := 1) C (by decide +kernel) (by decide) ?_
  refine s_iadd C (by decide +kernel) ?_
  refine s_fnV C (j2 := jX10_postToMembers) (cl := 10) (nf := 6) rfl rfl (by decide +kernel) rfl w_3_121 w_3_123 w_p1_4 w_1_2 w_3_124 (by decide +kernel) (fun _ _ _ _ _ h => f_X10_postToMembers h) (fun _ _ _ _ _ h => r_X10_postToMembers h) ?_
  refine s_aload_n (k := 1) C (by decide +kernel) ?_
  refine s_aload_n (k := 1) C (by decide +kernel) ?_
  refine s_getI C w_1_238 (by decide +kernel) rfl ?_
  refine s_fnV C (j2 := jX7_isMajority) (cl := 7) (nf := 18) rfl rfl (by decide +kernel) rfl w_3_133 w_3_134 w_3_135 w_1_5 w_3_136 (by decide +kernel) (fun _ _ _ _ _ h => f_X7_isMajority h) (fun _ _ _ _ _ h => r_X7_isMajority h) ?_
  refine s_if_eq (off := 7) (tgt := 43) C (by decide +kernel) (by decide) (b_X10_askFirst_43 C) ?_
  refine s_iconst (n := 1) C (by decide +kernel) (by decide) ?_
  exact s_goto (off := 4) (tgt := 44) C (by decide +kernel) (by decide) (b_X10_askFirst_44 C)
theorem ms_X10_askFirst {Z : Zt} {d : Nat} {S : Sh} {μ : Mi} {ρ : Mr} {Rp : RT} (a0 : Nat) (a1 : Nat) (h : ∀ G : Nat → PT, w_X10_askFirst_0 (MS Z (d + 2)) G Rp [.ref a0, .ref a1] [] S (0, 0) μ ρ) : MS Z (d + 3) jX10_askFirst [.ref a0, .ref a1] S μ ρ Rp :=
  MS_of [.ref a0, .ref a1] (by decide +kernel) rfl rfl (Nat.le_of_ble_eq_true rfl) rfl (fun p e R s m args below meth c C => b_X10_askFirst_0 C _ _ _ _ _ _ (h _ ))
def F_X10_askFirst : FT := fun As S μ ρ k => match As with
  | [.ref a, .ref x] => S.2 a = (10, 6) ∧ ∃ (s : Nat) (A : Rw), s < 5 ∧ x = a + 130 + 8 * s ∧ RR A a S μ ρ ∧ (ownMaj (qAsk1 A s) s → ∀ μ', RR (qAsksAll (qAsk1 A s) s 7) a S μ' ρ → Ot a μ μ' → k (some (.int 1)) μ') ∧ (¬ ownMaj (qAsk1 A s) s → ∀ μ', RR (qAsksAll (qAsk1 A s) s 7) a S μ' ρ → Ot a μ μ' → k (some (.int 0)) μ')
  | _ => False
theorem r_X10_askFirst {As S μ ρ k} (h : F_X10_askFirst As S μ ρ k) : ∃ a As', As = Value.ref a :: As' ∧ S.2 a = (10, 6) := by
  unfold F_X10_askFirst at h
  split at h
  · exact ⟨_, _, rfl, h.1⟩
  · exact h.elim
set_option maxHeartbeats 1000000 in
theorem f_X10_askFirst {Z : Zt} {d : Nat} {As : List Value} {S : Sh} {μ : Mi} {ρ : Mr} {Rp : RT} (h : F_X10_askFirst As S μ ρ (fun r μ' => Rp r S μ' ρ)) : MS Z (d + 3) jX10_askFirst As S μ ρ Rp := by
  unfold F_X10_askFirst at h
  split at h
  · rename_i a x
    obtain ⟨a, hNa⟩ : ∃ n : Nat, n = a := ⟨a, rfl⟩
    subst hNa
    obtain ⟨h1, s, A, hs, rfl, hR, hy, hn⟩ := h
    refine ms_X10_askFirst _ _ (fun G => ?_)
    have hW := RR_W hR
    obtain ⟨x1, x2, -⟩ := W_st hW hs
    have hSt := RR_st hR hs
    have r0 := RR_bec (o := 3) hs hR (by decide)
    have r1 : RR (qAsk1 A s) a S (upI (cBec μ (a + 130 + 8 * s) 3) (a + 130 + 8 * s) 5 ((1 : Int32) <<< (nI s &&& 31))) ρ := RR_o hs r0
    have e0 : cBec μ (a + 130 + 8 * s) 3 (a + 130 + 8 * s) 0 = nI s := (RR_st r0 hs).1.1
    have ho : Ot a μ (upI (cBec μ (a + 130 + 8 * s) 3) (a + 130 + 8 * s) 5 ((1 : Int32) <<< (nI s &&& 31))) := fun y hy => by rw [upI_ne (by omega), cBec_ne (by omega) (by omega)]
    simp only [w_X10_askFirst_0, w_X10_askFirst_43, w_X10_askFirst_44, tAload, tIload, nth, tGetI, tGetR, tConst, tLconst, tBin, tUn, tI2l, tAld, tAldR, tAlen, tIast, tBast, tZast, tAast, tIret, tZret, tVret, tAret, tIf, tIf2, tGoto, tIstore, tAstore, sset, tIinc, tDup, tDup2, tPop, tPutI, tPutZ, tPutR, tCallV, tCallS, popN, tFn, tCopy, tMax, tMin, tSw, swc, tRem, tObjI, Option.toList, List.nil_append, List.cons_append, okR, true_and, and_true, true_or, or_true, Nat.zero_le, ne_eq, not_false_eq_true, Nat.reduceEqDiff, F_X7_becomes, F_X10_postToMembers, F_X7_isMajority, h1, x1, x2, e0]
    simp (disch := omega) only [upI_k, e0]
    have e3 : cBec μ (a + 130 + 8 * s) 3 (a + 130 + 8 * s) 2 = A (514 * s + 1) := by rw [(RR_st r0 hs).1.2.2.1, qPlays_out (by omega)]
    have es : qAsk1 A s (514 * s + 1) = A (514 * s + 1) := by
      unfold qAsk1
      rw [up_ne (by omega), qPlays_out (by omega)]
    generalize upI (cBec μ (a + 130 + 8 * s) 3) (a + 130 + 8 * s) 5 ((1 : Int32) <<< (nI s &&& 31)) = ν at *
    have hν := RR_st r1 hs
    have ev : qAsk1 A s (514 * s + 8) = 1 <<< (nI s &&& 31) := by
      show up _ (514 * s + 8) _ (514 * s + 8) = _
      exact up_at
    refine ⟨s, _, hs, rfl, r1, by decide, by rw [if_pos trivial, es, e3], fun μ' q1 q2 => ?_⟩
    have ex : μ' (a + 130 + 8 * s) = ν (a + 130 + 8 * s) := q2 _ (by omega)
    rw [ex, hν.2.2.2.2.2.1, hν.2.2.2.2.2.2, hν.1.2.2.2.2.2.1, ev]
    have hm := St_mem hν
    rw [hν.2.2.2.2.2.1, hν.2.2.2.2.2.2] at hm
    refine ⟨hm.1, hm.2.1, fun c => ⟨fun z => absurd z (by decide), fun _ => hy c μ' q1 (ot_trans ho (Fm_Ot q2))⟩, fun c => ⟨fun _ => hn c μ' q1 (ot_trans ho (Fm_Ot q2)), fun z => absurd trivial z⟩⟩
  · exact h.elim
