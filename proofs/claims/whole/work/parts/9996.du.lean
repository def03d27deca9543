/-! ===== the class: acts of the whole object ===== -/
theorem rem9 : ∀ m : Fin 20, nI m.val - nI m.val / 9 * 9 = nI (m.val % 9) := by decide +kernel
def w_X11_kept_32 (M : CT) (G : Nat → PT) (Rp : RT) : PT := tIload 1 <| tIret Rp
def w_X11_kept_0 (M : CT) (G : Nat → PT) (Rp : RT) : PT := tIload 1 <| tIf (fun x => x < 0) (w_X11_kept_32 M G Rp) <| tAload 0 <| tAload 0 <| tGetI 11 11 6 <| tConst 1 <| tBin (fun x y => x + y) <| tConst 9 <| tRem <| tPutI 11 11 6 <| tAload 0 <| tAload 0 <| tGetI 11 11 7 <| tConst 1 <| tBin (fun x y => x + y) <| tConst 8 <| tMin <| tPutI 11 11 7 <| w_X11_kept_32 M G Rp
set_option maxRecDepth 20000 in
theorem b_X11_kept_32 {Z : Zt} {d : Nat} {p : Program} {e : Env} {R : Room} {s : State} {m : MethodId} {args : Array Value} {below : List Frame} {meth : Method} {c : Code} {Rp : RT} (C : Cx Z d jX11_kept RX11 p R s m args meth c) : Sd Z jX11_kept p e R s m args below meth c (MQ below (QcS Z Rp) args s 0 0 (fun a => Z.2.2.1 < a)) 32 (w_X11_kept_32 (MS Z d) (Gw Z 2 p e R s m args below meth c (MQ below (QcS Z Rp) args s 0 0 (fun a => Z.2.2.1 < a))) Rp) := by
  unfold w_X11_kept_32
  refine s_iload_n (k := 1) C (by decide +kernel) ?_
  exact s_iret C rfl (by decide +kernel)
set_option maxRecDepth 20000 in
theorem b_X11_kept_0 {Z : Zt} {d : Nat} {p : Program} {e : Env} {R : Room} {s : State} {m : MethodId} {args : Array Value} {below : List Frame} {meth : Method} {c : Code} {Rp : RT} (C : Cx Z d jX11_kept RX11 p R s m args meth c) : Sd Z jX11_kept p e R s m args below meth c (MQ below (QcS Z Rp) args s 0 0 (fun a => Z.2.2.1 < a)) 0 (w_X11_kept_0 (MS Z d) (Gw Z 2 p e R s m args below meth c (MQ below (QcS Z Rp) args s 0 0 (fun a => Z.2.2.1 < a))) Rp) := by
  unfold w_X11_kept_0
  refine s_iload_n (k := 1) C (by decide +kernel) ?_
  refine s_if_lt (off := 31) (tgt := 32) C (by decide +kernel) (by decide) (b_X11_kept_32 C) ?_
  refine s_aload_n (k := 0) C (by decide +kernel) ?_
  refine s_aload_n (k := 0) C (by decide +kernel) ?_
  refine s_getI C w_3_0 (by decide +kernel) rfl ?_
  refine s_iconst (n := 1) C (by decide +kernel) (by decide) ?_
  refine s_iadd C (by decide +kernel) ?_
  refine s_bipush (n := 9) C (by decide +kernel) (by decide) ?_
  refine s_irem C (by decide +kernel) ?_
  refine s_putI C w_3_0 (by decide +kernel) rfl (Or.inl rfl) ?_
  refine s_aload_n (k := 0) C (by decide +kernel) ?_
  refine s_aload_n (k := 0) C (by decide +kernel) ?_
  refine s_getI C w_3_1 (by decide +kernel) rfl ?_
  refine s_iconst (n := 1) C (by decide +kernel) (by decide) ?_
  refine s_iadd C (by decide +kernel) ?_
  refine s_bipush (n := 8) C (by decide +kernel) (by decide) ?_
  refine s_min C w_3_83 w_3_84 w_1_16 w_min (by decide +kernel) ?_
  refine s_putI C w_3_1 (by decide +kernel) rfl (Or.inl rfl) ?_
  exact (b_X11_kept_32 C)
theorem ms_X11_kept {Z : Zt} {d : Nat} {S : Sh} {μ : Mi} {ρ : Mr} {Rp : RT} (a0 : Nat) (x1 : Int32) (h : ∀ G : Nat → PT, w_X11_kept_0 (MS Z d) G Rp [.ref a0, .int x1] [] S (0, 0) μ ρ) : MS Z (d + 1) jX11_kept [.ref a0, .int x1] S μ ρ Rp :=
  MS_of [.ref a0, .int x1] (by decide +kernel) rfl rfl (Nat.le_of_ble_eq_true rfl) rfl (fun p e R s m args below meth c C => b_X11_kept_0 C _ _ _ _ _ _ (h _ ))
def F_X11_kept : FT := fun As S μ ρ k => match As with
  | [.ref a, .int v] => S.2 a = (11, 11) ∧ a = 1 ∧ ∃ (sp u : Nat), μ 1 6 = nI sp ∧ sp < 9 ∧ μ 1 7 = nI u ∧ u ≤ 8 ∧ (v < 0 → k (some (.int v)) μ) ∧ (¬ v < 0 → k (some (.int v)) (upI (upI μ 1 6 (nI ((sp + 1) % 9))) 1 7 (nI (min (u + 1) 8))))
  | _ => False
theorem r_X11_kept {As S μ ρ k} (h : F_X11_kept As S μ ρ k) : ∃ a As', As = Value.ref a :: As' ∧ S.2 a = (11, 11) := by
  unfold F_X11_kept at h
  split at h
  · exact ⟨_, _, rfl, h.1⟩
  · exact h.elim
set_option maxHeartbeats 1000000 in
theorem f_X11_kept {Z : Zt} {d : Nat} {As : List Value} {S : Sh} {μ : Mi} {ρ : Mr} {Rp : RT} (h : F_X11_kept As S μ ρ (fun r μ' => Rp r S μ' ρ)) : MS Z (d + 1) jX11_kept As S μ ρ Rp := by
  unfold F_X11_kept at h
  split at h
  · rename_i a v
    obtain ⟨h1, rfl, sp, u, e6, hsp, e7, hu, hn, hy⟩ := h
    refine ms_X11_kept _ _ (fun G => ?_)
    simp only [w_X11_kept_0, w_X11_kept_32, tAload, tIload, nth, tGetI, tGetR, tConst, tLconst, tBin, tUn, tI2l, tAld, tAldR, tAlen, tIast, tBast, tZast, tAast, tIret, tZret, tVret, tAret, tIf, tIf2, tGoto, tIstore, tAstore, sset, tIinc, tDup, tDup2, tPop, tPutI, tPutZ, tPutR, tCallV, tCallS, popN, tFn, tCopy, tMax, tMin, tSw, swc, tRem, tObjI, Option.toList, List.nil_append, List.cons_append, okR, true_and, and_true, true_or, or_true, Nat.zero_le, ne_eq, not_false_eq_true, Nat.reduceEqDiff, h1, e6, nI_s1]
    simp (disch := omega) only [upI_k, e7]
    refine ⟨fun c => hn c, fun c => ⟨by decide, ?_⟩⟩
    have e1 : nI (sp + 1) - nI (sp + 1) / 9 * 9 = nI ((sp + 1) % 9) := rem9 ⟨sp + 1, by omega⟩
    have e2 : (if (8 : Int32) < nI u + 1 then 8 else nI u + 1) = nI (min (u + 1) 8) := by
      rw [nI_s1]
      simp only [show (8 : Int32) = nI 8 from rfl, nI_ltI (show 8 < 2 ^ 31 by decide) (show u + 1 < 2 ^ 31 by omega)]
      split
      · rw [show min (u + 1) 8 = 8 by omega]
      · rw [show min (u + 1) 8 = u + 1 by omega]
    rw [e1, e2]
    exact hy c
  · exact h.elim
def pD (A : Rw) (u : Nat) (D : Nat → Rw) : Nat → Rw := fun j => if u < 8 then (if j = u then A else D j) else (if j = 7 then A else D (j + 1))
def TP (v : Int32) (A B : Rw) (u : Nat) (D : Nat → Rw) (S : Sh) (μ : Mi) (ρ : Mr) : Prop := (v < 0 ∧ TC B u D S μ ρ) ∨ (¬ v < 0 ∧ TC B (min (u + 1) 8) (pD A u D) S μ ρ)
theorem PD_far {sp u : Nat} {D : Nat → Rw} {S : Sh} {μ μ' : Mi} {ρ ρ' : Mr} (h : PD sp u D S μ ρ) (ho : Ot 2 μ μ') (hr : Orf 2 ρ ρ') : PD sp u D S μ' ρ' := fun j hj => RR_far (h j hj) (by unfold apW; omega) ho hr
theorem TC_no {B : Rw} {u sp : Nat} {D : Nat → Rw} {S : Sh} {μ μ1 μ2 : Mi} {ρ ρ2 : Mr} (t1 : TW S μ1 ρ) (d1 : PD sp u D S μ1 ρ) (e6 : μ 1 6 = nI sp) (hsp : sp < 9) (e7 : μ 1 7 = nI u) (hu : u ≤ 8) (o1 : Ot (867 + 170 * sp) μ μ1) (rB : RR B 2 S μ2 ρ2) (o2 : Ot 2 μ1 μ2) (f2 : Orf 2 ρ ρ2) :
    TC B u D S μ2 ρ2 := by
  have eq1 : μ2 1 = μ 1 := by rw [o2 1 (by omega), o1 1 (by omega)]
  exact ⟨TW_v t1 (Or.inl rfl) ⟨_, rB⟩ o2 f2, rB, sp, by rw [eq1]; exact e6, hsp, by rw [eq1]; exact e7, hu, PD_far d1 o2 f2⟩
theorem TC_yes {A B : Rw} {u sp : Nat} {D : Nat → Rw} {S : Sh} {μ1 μ2 : Mi} {ρ ρ2 : Mr} (t1 : TW S μ1 ρ) (rS : RR A (867 + 170 * sp) S μ1 ρ) (d1 : PD sp u D S μ1 ρ) (hsp : sp < 9) (hu : u ≤ 8) (rB : RR B 2 S μ2 ρ2) (o2 : Ot 2 μ1 μ2) (f2 : Orf 2 ρ ρ2) :
    TC B (min (u + 1) 8) (pD A u D) S (upI (upI μ2 1 6 (nI ((sp + 1) % 9))) 1 7 (nI (min (u + 1) 8))) ρ2 := by
  have d2 := PD_far d1 o2 f2
  have rS2 := RR_far rS (show apW 2 _ by unfold apW; omega) o2 f2
  have fr : ∀ {C : Rw} {w : Nat}, 2 ≤ w → RR C w S μ2 ρ2 → RR C w S (upI (upI μ2 1 6 (nI ((sp + 1) % 9))) 1 7 (nI (min (u + 1) 8))) ρ2 := fun hw h => RR_in h (fun y y1 y2 => by rw [upI_ne (by omega), upI_ne (by omega)])
  refine ⟨TW_1 (TW_1 (TW_v t1 (Or.inl rfl) ⟨_, rB⟩ o2 f2)), fr (by omega) rB, (sp + 1) % 9, by rw [upI_k (by omega), upI_at], by omega, upI_at, by omega, fun j hj => fr (by omega) ?_⟩
  unfold pD
  by_cases c : u < 8
  · rw [if_pos c, show min (u + 1) 8 = u + 1 by omega]
    rw [show min (u + 1) 8 = u + 1 by omega] at hj
    by_cases e : j = u
    · rw [if_pos e, show ((sp + 1) % 9 + 9 - (u + 1) + j) % 9 = sp by omega]
      exact rS2
    · rw [if_neg e, show ((sp + 1) % 9 + 9 - (u + 1) + j) % 9 = (sp + 9 - u + j) % 9 by omega]
      exact d2 j (by omega)
  · have hu8 : u = 8 := by omega
    subst hu8
    rw [if_neg c, show min (8 + 1) 8 = 8 by omega]
    rw [show min (8 + 1) 8 = 8 by omega] at hj
    by_cases e : j = 7
    · rw [if_pos e, show ((sp + 1) % 9 + 9 - 8 + j) % 9 = sp by omega]
      exact rS2
    · rw [if_neg e, show ((sp + 1) % 9 + 9 - 8 + j) % 9 = (sp + 9 - 8 + (j + 1)) % 9 by omega]
      exact d2 (j + 1) (by omega)
theorem KT_no {sp : Nat} {μ μ1 μ2 : Mi} (hsp : sp < 9) (o1 : Ot (867 + 170 * sp) μ μ1) (o2 : Ot 2 μ1 μ2) : KT μ μ2 := ⟨fun y hy => by rw [o2 y (by omega), o1 y (by omega)], fun i _ _ => by rw [o2 1 (by omega), o1 1 (by omega)]⟩
theorem KT_yes {sp : Nat} {μ μ1 μ2 : Mi} {a b : Int32} (hsp : sp < 9) (o1 : Ot (867 + 170 * sp) μ μ1) (o2 : Ot 2 μ1 μ2) : KT μ (upI (upI μ2 1 6 a) 1 7 b) := ⟨fun y hy => by rw [upI_ne (by omega), upI_ne (by omega), o2 y (by omega), o1 y (by omega)], fun i i6 i7 => by rw [upI_k i7, upI_k i6, o2 1 (by omega), o1 1 (by omega)]⟩
theorem KR_2 {ρ ρ2 : Mr} (f2 : Orf 2 ρ ρ2) : KR ρ ρ2 := fun y hy => f2 y (by omega)
def w_X11_begin_0 (M : CT) (G : Nat → PT) (Rp : RT) : PT := tAload 0 <| tFn 1 F_X11_remember <| tAload 0 <| tAload 0 <| tGetR 11 11 0 <| tIload 1 <| tFn 2 F_X10_beginsAnew <| tFn 2 F_X11_kept <| tIret Rp
set_option maxRecDepth 20000 in
theorem b_X11_begin_0 {Z : Zt} {d : Nat} {p : Program} {e : Env} {R : Room} {s : State} {m : MethodId} {args : Array Value} {below : List Frame} {meth : Method} {c : Code} {Rp : RT} (C : Cx Z (d + 5) jX11_begin RX11 p R s m args meth c) : Sd Z jX11_begin p e R s m args below meth c (MQ below (QcS Z Rp) args s 0 0 (fun a => Z.2.2.1 < a)) 0 (w_X11_begin_0 (MS Z (d + 5)) (Gw Z 2 p e R s m args below meth c (MQ below (QcS Z Rp) args s 0 0 (fun a => Z.2.2.1 < a))) Rp) := by
  unfold w_X11_begin_0
  refine s_aload_n (k := 0) C (by decide +kernel) ?_
  refine s_fnV C (j2 := jX11_remember) (cl := 11) (nf := 11) rfl rfl (by decide +kernel) rfl w_3_32 w_3_34 w_p1_1 w_1_1 w_3_35 (by decide +kernel) (fun _ _ _ _ _ h => f_X11_remember h) (fun _ _ _ _ _ h => r_X11_remember h) ?_
  refine s_aload_n (k := 0) C (by decide +kernel) ?_
  refine s_aload_n (k := 0) C (by decide +kernel) ?_
  refine s_getR C w_2_234 (by decide +kernel) rfl ?_
  refine s_iload_n (k := 1) C (by decide +kernel) ?_
  refine s_fnV C (j2 := jX10_beginsAnew) (cl := 10) (nf := 6) rfl rfl (by decide +kernel) rfl w_3_66 w_3_67 w_3_68 w_1_2 w_3_69 (by decide +kernel) (fun _ _ _ _ _ h => f_X10_beginsAnew h) (fun _ _ _ _ _ h => r_X10_beginsAnew h) ?_
  refine s_fnV C (j2 := jX11_kept) (cl := 11) (nf := 11) rfl rfl (by decide +kernel) rfl w_3_79 w_3_81 w_p1_2 w_1_1 w_3_82 (by decide +kernel) (fun _ _ _ _ _ h => f_X11_kept h) (fun _ _ _ _ _ h => r_X11_kept h) ?_
  exact s_iret C rfl (by decide +kernel)
theorem ms_X11_begin {Z : Zt} {d : Nat} {S : Sh} {μ : Mi} {ρ : Mr} {Rp : RT} (a0 : Nat) (x1 : Int32) (h : ∀ G : Nat → PT, w_X11_begin_0 (MS Z (d + 5)) G Rp [.ref a0, .int x1] [] S (0, 0) μ ρ) : MS Z (d + 6) jX11_begin [.ref a0, .int x1] S μ ρ Rp :=
  MS_of [.ref a0, .int x1] (by decide +kernel) rfl rfl (Nat.le_of_ble_eq_true rfl) rfl (fun p e R s m args below meth c C => b_X11_begin_0 C _ _ _ _ _ _ (h _ ))
def F_X11_begin : FT2 := fun As S μ ρ k => match As with
  | [.ref a, .int m] => S.2 a = (11, 11) ∧ a = 1 ∧ ∃ (A : Rw) (u : Nat) (D : Nat → Rw), TC A u D S μ ρ ∧ Gd A ∧ ∀ (μ' : Mi) (ρ' : Mr), TP (aBegin A m).1 A (aBegin A m).2 u D S μ' ρ' → KT μ μ' → KR ρ ρ' → k (some (.int (aBegin A m).1)) μ' ρ'
  | _ => False
theorem r_X11_begin {As S μ ρ k} (h : F_X11_begin As S μ ρ k) : ∃ a As', As = Value.ref a :: As' ∧ S.2 a = (11, 11) := by
  unfold F_X11_begin at h
  split at h
  · exact ⟨_, _, rfl, h.1⟩
  · exact h.elim
set_option maxHeartbeats 1000000 in
theorem f_X11_begin {Z : Zt} {d : Nat} {As : List Value} {S : Sh} {μ : Mi} {ρ : Mr} {Rp : RT} (h : F_X11_begin As S μ ρ (fun r μ' ρ' => Rp r S μ' ρ')) : MS Z (d + 6) jX11_begin As S μ ρ Rp := by
  unfold F_X11_begin at h
  split at h
  · rename_i a m
    obtain ⟨h1, rfl, A, u, D, hT, hG, h⟩ := h
    refine ms_X11_begin _ _ (fun G => ?_)
    have hT0 := hT.1
    have hr := hT0.2.1
    have i1 := (RR_W hT.2.1).2.1.1
    simp only [w_X11_begin_0, tAload, tIload, nth, tGetI, tGetR, tConst, tLconst, tBin, tUn, tI2l, tAld, tAldR, tAlen, tIast, tBast, tZast, tAast, tIret, tZret, tVret, tAret, tIf, tIf2, tGoto, tIstore, tAstore, sset, tIinc, tDup, tDup2, tPop, tPutI, tPutZ, tPutR, tCallV, tCallS, popN, tFn, tCopy, tMax, tMin, tSw, swc, tRem, tObjI, Option.toList, List.nil_append, List.cons_append, okR, true_and, and_true, true_or, or_true, Nat.zero_le, ne_eq, not_false_eq_true, Nat.reduceEqDiff, tFn2, F_X11_remember, F_X10_beginsAnew, F_X11_kept, h1, hr, i1]
    refine ⟨A, u, D, hT, fun μ1 sp t1 rA rS d1 e6 hsp e7 hu o1 => ⟨A, rA, fun c => ?_, fun c μ2 rB o2 => ?_⟩⟩
    · unfold aBegin at h
      rw [if_pos c] at h
      have eq : ∀ i, μ1 1 i = μ 1 i := fun i => by rw [o1 1 (by omega)]
      exact ⟨sp, u, by rw [eq]; exact e6, hsp, by rw [eq]; exact e7, hu, fun cv => h _ _ (Or.inl ⟨cv, TC_no t1 d1 e6 hsp e7 hu o1 rA (fun _ _ => rfl) (fun _ _ => rfl)⟩) (KT_no hsp o1 (fun _ _ => rfl)) (fun _ _ => rfl), fun cv => absurd (by decide) cv⟩
    · unfold aBegin at h
      rw [if_neg (not_not_intro c)] at h
      have eq : ∀ i, μ2 1 i = μ 1 i := fun i => by rw [o2 1 (by omega), o1 1 (by omega)]
      exact ⟨sp, u, by rw [eq]; exact e6, hsp, by rw [eq]; exact e7, hu, fun cv => h _ _ (Or.inl ⟨cv, TC_no t1 d1 e6 hsp e7 hu o1 rB o2 (fun _ _ => rfl)⟩) (KT_no hsp o1 o2) (fun _ _ => rfl), fun cv => h _ _ (Or.inr ⟨cv, TC_yes t1 rS d1 hsp hu rB o2 (fun _ _ => rfl)⟩) (KT_yes hsp o1 o2) (fun _ _ => rfl)⟩
  · exact h.elim
def w_X11_careful_0 (M : CT) (G : Nat → PT) (Rp : RT) : PT := tAload 0 <| tFn 1 F_X11_remember <| tAload 0 <| tAload 0 <| tGetR 11 11 0 <| tIload 1 <| tFn 2 F_X10_takesCare <| tFn 2 F_X11_kept <| tIret Rp
set_option maxRecDepth 20000 in
theorem b_X11_careful_0 {Z : Zt} {d : Nat} {p : Program} {e : Env} {R : Room} {s : State} {m : MethodId} {args : Array Value} {below : List Frame} {meth : Method} {c : Code} {Rp : RT} (C : Cx Z (d + 4) jX11_careful RX11 p R s m args meth c) : Sd Z jX11_careful p e R s m args below meth c (MQ below (QcS Z Rp) args s 0 0 (fun a => Z.2.2.1 < a)) 0 (w_X11_careful_0 (MS Z (d + 4)) (Gw Z 2 p e R s m args below meth c (MQ below (QcS Z Rp) args s 0 0 (fun a => Z.2.2.1 < a))) Rp) := by
  unfold w_X11_careful_0
  refine s_aload_n (k := 0) C (by decide +kernel) ?_
  refine s_fnV C (j2 := jX11_remember) (cl := 11) (nf := 11) rfl rfl (by decide +kernel) rfl w_3_32 w_3_34 w_p1_1 w_1_1 w_3_35 (by decide +kernel) (fun _ _ _ _ _ h => f_X11_remember h) (fun _ _ _ _ _ h => r_X11_remember h) ?_
  refine s_aload_n (k := 0) C (by decide +kernel) ?_
  refine s_aload_n (k := 0) C (by decide +kernel) ?_
  refine s_getR C w_2_234 (by decide +kernel) rfl ?_
  refine s_iload_n (k := 1) C (by decide +kernel) ?_
  refine s_fnV C (j2 := jX10_takesCare) (cl := 10) (nf := 6) rfl rfl (by decide +kernel) rfl w_3_90 w_3_91 w_3_92 w_1_2 w_3_93 (by decide +kernel) (fun _ _ _ _ _ h => f_X10_takesCare h) (fun _ _ _ _ _ h => r_X10_takesCare h) ?_
  refine s_fnV C (j2 := jX11_kept) (cl := 11) (nf := 11) rfl rfl (by decide +kernel) rfl w_3_79 w_3_81 w_p1_2 w_1_1 w_3_82 (by decide +kernel) (fun _ _ _ _ _ h => f_X11_kept h) (fun _ _ _ _ _ h => r_X11_kept h) ?_
  exact s_iret C rfl (by decide +kernel)
theorem ms_X11_careful {Z : Zt} {d : Nat} {S : Sh} {μ : Mi} {ρ : Mr} {Rp : RT} (a0 : Nat) (x1 : Int32) (h : ∀ G : Nat → PT, w_X11_careful_0 (MS Z (d + 4)) G Rp [.ref a0, .int x1] [] S (0, 0) μ ρ) : MS Z (d + 5) jX11_careful [.ref a0, .int x1] S μ ρ Rp :=
  MS_of [.ref a0, .int x1] (by decide +kernel) rfl rfl (Nat.le_of_ble_eq_true rfl) rfl (fun p e R s m args below meth c C => b_X11_careful_0 C _ _ _ _ _ _ (h _ ))
def F_X11_careful : FT2 := fun As S μ ρ k => match As with
  | [.ref a, .int x] => S.2 a = (11, 11) ∧ a = 1 ∧ ∃ (A : Rw) (u : Nat) (D : Nat → Rw), TC A u D S μ ρ ∧ Gd A ∧ ∀ (μ' : Mi) (ρ' : Mr), TP (aCareful A x).1 A (aCareful A x).2 u D S μ' ρ' → KT μ μ' → KR ρ ρ' → k (some (.int (aCareful A x).1)) μ' ρ'
  | _ => False
theorem r_X11_careful {As S μ ρ k} (h : F_X11_careful As S μ ρ k) : ∃ a As', As = Value.ref a :: As' ∧ S.2 a = (11, 11) := by
  unfold F_X11_careful at h
  split at h
  · exact ⟨_, _, rfl, h.1⟩
  · exact h.elim
set_option maxHeartbeats 1000000 in
theorem f_X11_careful {Z : Zt} {d : Nat} {As : List Value} {S : Sh} {μ : Mi} {ρ : Mr} {Rp : RT} (h : F_X11_careful As S μ ρ (fun r μ' ρ' => Rp r S μ' ρ')) : MS Z (d + 5) jX11_careful As S μ ρ Rp := by
  unfold F_X11_careful at h
  split at h
  · rename_i a x
    obtain ⟨h1, rfl, A, u, D, hT, hG, h⟩ := h
    refine ms_X11_careful _ _ (fun G => ?_)
    have hT0 := hT.1
    have hr := hT0.2.1
    have i1 := (RR_W hT.2.1).2.1.1
    simp only [w_X11_careful_0, tAload, tIload, nth, tGetI, tGetR, tConst, tLconst, tBin, tUn, tI2l, tAld, tAldR, tAlen, tIast, tBast, tZast, tAast, tIret, tZret, tVret, tAret, tIf, tIf2, tGoto, tIstore, tAstore, sset, tIinc, tDup, tDup2, tPop, tPutI, tPutZ, tPutR, tCallV, tCallS, popN, tFn, tCopy, tMax, tMin, tSw, swc, tRem, tObjI, Option.toList, List.nil_append, List.cons_append, okR, true_and, and_true, true_or, or_true, Nat.zero_le, ne_eq, not_false_eq_true, Nat.reduceEqDiff, tFn2, F_X11_remember, F_X10_takesCare, F_X11_kept, h1, hr, i1]
    refine ⟨A, u, D, hT, fun μ1 sp t1 rA rS d1 e6 hsp e7 hu o1 => ⟨A, rA, hG, fun μ2 rB o2 => ?_⟩⟩
    have eq : ∀ i, μ2 1 i = μ 1 i := fun i => by rw [o2 1 (by omega), o1 1 (by omega)]
    exact ⟨sp, u, by rw [eq]; exact e6, hsp, by rw [eq]; exact e7, hu, fun cv => h _ _ (Or.inl ⟨cv, TC_no t1 d1 e6 hsp e7 hu o1 rB o2 (fun _ _ => rfl)⟩) (KT_no hsp o1 o2) (fun _ _ => rfl), fun cv => h _ _ (Or.inr ⟨cv, TC_yes t1 rS d1 hsp hu rB o2 (fun _ _ => rfl)⟩) (KT_yes hsp o1 o2) (fun _ _ => rfl)⟩
  · exact h.elim
def w_X11_timeout_0 (M : CT) (G : Nat → PT) (Rp : RT) : PT := tAload 0 <| tFn 1 F_X11_remember <| tAload 0 <| tAload 0 <| tGetR 11 11 0 <| tIload 1 <| tFn 2 F_X10_timesOut <| tFn 2 F_X11_kept <| tIret Rp
set_option maxRecDepth 20000 in
theorem b_X11_timeout_0 {Z : Zt} {d : Nat} {p : Program} {e : Env} {R : Room} {s : State} {m : MethodId} {args : Array Value} {below : List Frame} {meth : Method} {c : Code} {Rp : RT} (C : Cx Z (d + 5) jX11_timeout RX11 p R s m args meth c) : Sd Z jX11_timeout p e R s m args below meth c (MQ below (QcS Z Rp) args s 0 0 (fun a => Z.2.2.1 < a)) 0 (w_X11_timeout_0 (MS Z (d + 5)) (Gw Z 2 p e R s m args below meth c (MQ below (QcS Z Rp) args s 0 0 (fun a => Z.2.2.1 < a))) Rp) := by
  unfold w_X11_timeout_0
  refine s_aload_n (k := 0) C (by decide +kernel) ?_
  refine s_fnV C (j2 := jX11_remember) (cl := 11) (nf := 11) rfl rfl (by decide +kernel) rfl w_3_32 w_3_34 w_p1_1 w_1_1 w_3_35 (by decide +kernel) (fun _ _ _ _ _ h => f_X11_remember h) (fun _ _ _ _ _ h => r_X11_remember h) ?_
  refine s_aload_n (k := 0) C (by decide +kernel) ?_
  refine s_aload_n (k := 0) C (by decide +kernel) ?_
  refine s_getR C w_2_234 (by decide +kernel) rfl ?_
  refine s_iload_n (k := 1) C (by decide +kernel) ?_
  refine s_fnV C (j2 := jX10_timesOut) (cl := 10) (nf := 6) rfl rfl (by decide +kernel) rfl w_3_98 w_3_99 w_3_100 w_1_2 w_3_101 (by decide +kernel) (fun _ _ _ _ _ h => f_X10_timesOut h) (fun _ _ _ _ _ h => r_X10_timesOut h) ?_
  refine s_fnV C (j2 := jX11_kept) (cl := 11) (nf := 11) rfl rfl (by decide +kernel) rfl w_3_79 w_3_81 w_p1_2 w_1_1 w_3_82 (by decide +kernel) (fun _ _ _ _ _ h => f_X11_kept h) (fun _ _ _ _ _ h => r_X11_kept h) ?_
  exact s_iret C rfl (by decide +kernel)
theorem ms_X11_timeout {Z : Zt} {d : Nat} {S : Sh} {μ : Mi} {ρ : Mr} {Rp : RT} (a0 : Nat) (x1 : Int32) (h : ∀ G : Nat → PT, w_X11_timeout_0 (MS Z (d + 5)) G Rp [.ref a0, .int x1] [] S (0, 0) μ ρ) : MS Z (d + 6) jX11_timeout [.ref a0, .int x1] S μ ρ Rp :=
  MS_of [.ref a0, .int x1] (by decide +kernel) rfl rfl (Nat.le_of_ble_eq_true rfl) rfl (fun p e R s m args below meth c C => b_X11_timeout_0 C _ _ _ _ _ _ (h _ ))
def F_X11_timeout : FT2 := fun As S μ ρ k => match As with
  | [.ref a, .int s] => S.2 a = (11, 11) ∧ a = 1 ∧ ∃ (A : Rw) (u : Nat) (D : Nat → Rw), TC A u D S μ ρ ∧ Gd A ∧ ∀ (μ' : Mi) (ρ' : Mr), TP (aTimeout A s).1 A (aTimeout A s).2 u D S μ' ρ' → KT μ μ' → KR ρ ρ' → k (some (.int (aTimeout A s).1)) μ' ρ'
  | _ => False
theorem r_X11_timeout {As S μ ρ k} (h : F_X11_timeout As S μ ρ k) : ∃ a As', As = Value.ref a :: As' ∧ S.2 a = (11, 11) := by
  unfold F_X11_timeout at h
  split at h
  · exact ⟨_, _, rfl, h.1⟩
  · exact h.elim
set_option maxHeartbeats 1000000 in
theorem f_X11_timeout {Z : Zt} {d : Nat} {As : List Value} {S : Sh} {μ : Mi} {ρ : Mr} {Rp : RT} (h : F_X11_timeout As S μ ρ (fun r μ' ρ' => Rp r S μ' ρ')) : MS Z (d + 6) jX11_timeout As S μ ρ Rp := by
  unfold F_X11_timeout at h
  split at h
  · rename_i a s
    obtain ⟨h1, rfl, A, u, D, hT, hG, h⟩ := h
    refine ms_X11_timeout _ _ (fun G => ?_)
    have hT0 := hT.1
    have hr := hT0.2.1
    have i1 := (RR_W hT.2.1).2.1.1
    simp only [w_X11_timeout_0, tAload, tIload, nth, tGetI, tGetR, tConst, tLconst, tBin, tUn, tI2l, tAld, tAldR, tAlen, tIast, tBast, tZast, tAast, tIret, tZret, tVret, tAret, tIf, tIf2, tGoto, tIstore, tAstore, sset, tIinc, tDup, tDup2, tPop, tPutI, tPutZ, tPutR, tCallV, tCallS, popN, tFn, tCopy, tMax, tMin, tSw, swc, tRem, tObjI, Option.toList, List.nil_append, List.cons_append, okR, true_and, and_true, true_or, or_true, Nat.zero_le, ne_eq, not_false_eq_true, Nat.reduceEqDiff, tFn2, F_X11_remember, F_X10_timesOut, F_X11_kept, h1, hr, i1]
    refine ⟨A, u, D, hT, fun μ1 sp t1 rA rS d1 e6 hsp e7 hu o1 => ⟨A, rA, hG, fun μ2 rB o2 => ?_⟩⟩
    have eq : ∀ i, μ2 1 i = μ 1 i := fun i => by rw [o2 1 (by omega), o1 1 (by omega)]
    exact ⟨sp, u, by rw [eq]; exact e6, hsp, by rw [eq]; exact e7, hu, fun cv => h _ _ (Or.inl ⟨cv, TC_no t1 d1 e6 hsp e7 hu o1 rB o2 (fun _ _ => rfl)⟩) (KT_no hsp o1 o2) (fun _ _ => rfl), fun cv => h _ _ (Or.inr ⟨cv, TC_yes t1 rS d1 hsp hu rB o2 (fun _ _ => rfl)⟩) (KT_yes hsp o1 o2) (fun _ _ => rfl)⟩
  · exact h.elim
def w_X11_beat_0 (M : CT) (G : Nat → PT) (Rp : RT) : PT := tAload 0 <| tFn 1 F_X11_remember <| tAload 0 <| tAload 0 <| tGetR 11 11 0 <| tIload 1 <| tFn 2 F_X10_beats <| tFn 2 F_X11_kept <| tIret Rp
set_option maxRecDepth 20000 in
theorem b_X11_beat_0 {Z : Zt} {d : Nat} {p : Program} {e : Env} {R : Room} {s : State} {m : MethodId} {args : Array Value} {below : List Frame} {meth : Method} {c : Code} {Rp : RT} (C : Cx Z (d + 4) jX11_beat RX11 p R s m args meth c) : Sd Z jX11_beat p e R s m args below meth c (MQ below (QcS Z Rp) args s 0 0 (fun a => Z.2.2.1 < a)) 0 (w_X11_beat_0 (MS Z (d + 4)) (Gw Z 2 p e R s m args below meth c (MQ below (QcS Z Rp) args s 0 0 (fun a => Z.2.2.1 < a))) Rp) := by
  unfold w_X11_beat_0
  refine s_aload_n (k := 0) C (by decide +kernel) ?_
  refine s_fnV C (j2 := jX11_remember) (cl := 11) (nf := 11) rfl rfl (by decide +kernel) rfl w_3_32 w_3_34 w_p1_1 w_1_1 w_3_35 (by decide +kernel) (fun _ _ _ _ _ h => f_X11_remember h) (fun _ _ _ _ _ h => r_X11_remember h) ?_
  refine s_aload_n (k := 0) C (by decide +kernel) ?_
  refine s_aload_n (k := 0) C (by decide +kernel) ?_
  refine s_getR C w_2_234 (by decide +kernel) rfl ?_
  refine s_iload_n (k := 1) C (by decide +kernel) ?_
  refine s_fnV C (j2 := jX10_beats) (cl := 10) (nf := 6) rfl rfl (by decide +kernel) rfl w_3_194 w_3_195 w_3_196 w_1_2 w_3_197 (by decide +kernel) (fun _ _ _ _ _ h => f_X10_beats h) (fun _ _ _ _ _ h => r_X10_beats h) ?_
  refine s_fnV C (j2 := jX11_kept) (cl := 11) (nf := 11) rfl rfl (by decide +kernel) rfl w_3_79 w_3_81 w_p1_2 w_1_1 w_3_82 (by decide +kernel) (fun _ _ _ _ _ h => f_X11_kept h) (fun _ _ _ _ _ h => r_X11_kept h) ?_
  exact s_iret C rfl (by decide +kernel)
theorem ms_X11_beat {Z : Zt} {d : Nat} {S : Sh} {μ : Mi} {ρ : Mr} {Rp : RT} (a0 : Nat) (x1 : Int32) (h : ∀ G : Nat → PT, w_X11_beat_0 (MS Z (d + 4)) G Rp [.ref a0, .int x1] [] S (0, 0) μ ρ) : MS Z (d + 5) jX11_beat [.ref a0, .int x1] S μ ρ Rp :=
  MS_of [.ref a0, .int x1] (by decide +kernel) rfl rfl (Nat.le_of_ble_eq_true rfl) rfl (fun p e R s m args below meth c C => b_X11_beat_0 C _ _ _ _ _ _ (h _ ))
def F_X11_beat : FT2 := fun As S μ ρ k => match As with
  | [.ref a, .int s] => S.2 a = (11, 11) ∧ a = 1 ∧ ∃ (A : Rw) (u : Nat) (D : Nat → Rw), TC A u D S μ ρ ∧ Gd A ∧ ∀ (μ' : Mi) (ρ' : Mr), TP (aBeat A s).1 A (aBeat A s).2 u D S μ' ρ' → KT μ μ' → KR ρ ρ' → k (some (.int (aBeat A s).1)) μ' ρ'
  | _ => False
theorem r_X11_beat {As S μ ρ k} (h : F_X11_beat As S μ ρ k) : ∃ a As', As = Value.ref a :: As' ∧ S.2 a = (11, 11) := by
  unfold F_X11_beat at h
  split at h
  · exact ⟨_, _, rfl, h.1⟩
  · exact h.elim
set_option maxHeartbeats 1000000 in
theorem f_X11_beat {Z : Zt} {d : Nat} {As : List Value} {S : Sh} {μ : Mi} {ρ : Mr} {Rp : RT} (h : F_X11_beat As S μ ρ (fun r μ' ρ' => Rp r S μ' ρ')) : MS Z (d + 5) jX11_beat As S μ ρ Rp := by
  unfold F_X11_beat at h
  split at h
  · rename_i a s
    obtain ⟨h1, rfl, A, u, D, hT, hG, h⟩ := h
    refine ms_X11_beat _ _ (fun G => ?_)
    have hT0 := hT.1
    have hr := hT0.2.1
    have i1 := (RR_W hT.2.1).2.1.1
    simp only [w_X11_beat_0, tAload, tIload, nth, tGetI, tGetR, tConst, tLconst, tBin, tUn, tI2l, tAld, tAldR, tAlen, tIast, tBast, tZast, tAast, tIret, tZret, tVret, tAret, tIf, tIf2, tGoto, tIstore, tAstore, sset, tIinc, tDup, tDup2, tPop, tPutI, tPutZ, tPutR, tCallV, tCallS, popN, tFn, tCopy, tMax, tMin, tSw, swc, tRem, tObjI, Option.toList, List.nil_append, List.cons_append, okR, true_and, and_true, true_or, or_true, Nat.zero_le, ne_eq, not_false_eq_true, Nat.reduceEqDiff, tFn2, F_X11_remember, F_X10_beats, F_X11_kept, h1, hr, i1]
    refine ⟨A, u, D, hT, fun μ1 sp t1 rA rS d1 e6 hsp e7 hu o1 => ⟨A, rA, hG, fun μ2 rB o2 => ?_⟩⟩
    have eq : ∀ i, μ2 1 i = μ 1 i := fun i => by rw [o2 1 (by omega), o1 1 (by omega)]
    exact ⟨sp, u, by rw [eq]; exact e6, hsp, by rw [eq]; exact e7, hu, fun cv => h _ _ (Or.inl ⟨cv, TC_no t1 d1 e6 hsp e7 hu o1 rB o2 (fun _ _ => rfl)⟩) (KT_no hsp o1 o2) (fun _ _ => rfl), fun cv => h _ _ (Or.inr ⟨cv, TC_yes t1 rS d1 hsp hu rB o2 (fun _ _ => rfl)⟩) (KT_yes hsp o1 o2) (fun _ _ => rfl)⟩
  · exact h.elim
def w_X11_propose_0 (M : CT) (G : Nat → PT) (Rp : RT) : PT := tAload 0 <| tFn 1 F_X11_remember <| tAload 0 <| tAload 0 <| tGetR 11 11 0 <| tIload 1 <| tIload 2 <| tIload 3 <| tIload 4 <| tFn 5 F_X10_proposes <| tFn 2 F_X11_kept <| tIret Rp
set_option maxRecDepth 20000 in
theorem b_X11_propose_0 {Z : Zt} {d : Nat} {p : Program} {e : Env} {R : Room} {s : State} {m : MethodId} {args : Array Value} {below : List Frame} {meth : Method} {c : Code} {Rp : RT} (C : Cx Z (d + 6) jX11_propose RX11 p R s m args meth c) : Sd Z jX11_propose p e R s m args below meth c (MQ below (QcS Z Rp) args s 0 0 (fun a => Z.2.2.1 < a)) 0 (w_X11_propose_0 (MS Z (d + 6)) (Gw Z 5 p e R s m args below meth c (MQ below (QcS Z Rp) args s 0 0 (fun a => Z.2.2.1 < a))) Rp) := by
  unfold w_X11_propose_0
  refine s_aload_n (k := 0) C (by decide +kernel) ?_
  refine s_fnV C (j2 := jX11_remember) (cl := 11) (nf := 11) rfl rfl (by decide +kernel) rfl w_3_32 w_3_34 w_p1_1 w_1_1 w_3_35 (by decide +kernel) (fun _ _ _ _ _ h => f_X11_remember h) (fun _ _ _ _ _ h => r_X11_remember h) ?_
  refine s_aload_n (k := 0) C (by decide +kernel) ?_
  refine s_aload_n (k := 0) C (by decide +kernel) ?_
  refine s_getR C w_2_234 (by decide +kernel) rfl ?_
  refine s_iload_n (k := 1) C (by decide +kernel) ?_
  refine s_iload_n (k := 2) C (by decide +kernel) ?_
  refine s_iload_n (k := 3) C (by decide +kernel) ?_
  refine s_iload (k := 4) C (by decide +kernel) ?_
  refine s_fnV C (j2 := jX10_proposes) (cl := 10) (nf := 6) rfl rfl (by decide +kernel) rfl w_3_206 w_3_207 w_3_208 w_1_2 w_3_209 (by decide +kernel) (fun _ _ _ _ _ h => f_X10_proposes h) (fun _ _ _ _ _ h => r_X10_proposes h) ?_
  refine s_fnV C (j2 := jX11_kept) (cl := 11) (nf := 11) rfl rfl (by decide +kernel) rfl w_3_79 w_3_81 w_p1_2 w_1_1 w_3_82 (by decide +kernel) (fun _ _ _ _ _ h => f_X11_kept h) (fun _ _ _ _ _ h => r_X11_kept h) ?_
  exact s_iret C rfl (by decide +kernel)
theorem ms_X11_propose {Z : Zt} {d : Nat} {S : Sh} {μ : Mi} {ρ : Mr} {Rp : RT} (a0 : Nat) (x1 : Int32) (x2 : Int32) (x3 : Int32) (x4 : Int32) (h : ∀ G : Nat → PT, w_X11_propose_0 (MS Z (d + 6)) G Rp [.ref a0, .int x1, .int x2, .int x3, .int x4] [] S (0, 0) μ ρ) : MS Z (d + 7) jX11_propose [.ref a0, .int x1, .int x2, .int x3, .int x4] S μ ρ Rp :=
  MS_of [.ref a0, .int x1, .int x2, .int x3, .int x4] (by decide +kernel) rfl rfl (Nat.le_of_ble_eq_true rfl) rfl (fun p e R s m args below meth c C => b_X11_propose_0 C _ _ _ _ _ _ (h _ ))
def F_X11_propose : FT2 := fun As S μ ρ k => match As with
  | [.ref a, .int s, .int kd, .int x, .int y] => S.2 a = (11, 11) ∧ a = 1 ∧ ∃ (A : Rw) (u : Nat) (D : Nat → Rw), TC A u D S μ ρ ∧ Gd A ∧ ∀ (μ' : Mi) (ρ' : Mr), TP (aPropose A s kd x y).1 A (aPropose A s kd x y).2 u D S μ' ρ' → KT μ μ' → KR ρ ρ' → k (some (.int (aPropose A s kd x y).1)) μ' ρ'
  | _ => False
theorem r_X11_propose {As S μ ρ k} (h : F_X11_propose As S μ ρ k) : ∃ a As', As = Value.ref a :: As' ∧ S.2 a = (11, 11) := by
  unfold F_X11_propose at h
  split at h
  · exact ⟨_, _, rfl, h.1⟩
  · exact h.elim
set_option maxHeartbeats 1000000 in
theorem f_X11_propose {Z : Zt} {d : Nat} {As : List Value} {S : Sh} {μ : Mi} {ρ : Mr} {Rp : RT} (h : F_X11_propose As S μ ρ (fun r μ' ρ' => Rp r S μ' ρ')) : MS Z (d + 7) jX11_propose As S μ ρ Rp := by
  unfold F_X11_propose at h
  split at h
  · rename_i a s kd x y
    obtain ⟨h1, rfl, A, u, D, hT, hG, h⟩ := h
    refine ms_X11_propose _ _ _ _ _ (fun G => ?_)
    have hT0 := hT.1
    have hr := hT0.2.1
    have i1 := (RR_W hT.2.1).2.1.1
    simp only [w_X11_propose_0, tAload, tIload, nth, tGetI, tGetR, tConst, tLconst, tBin, tUn, tI2l, tAld, tAldR, tAlen, tIast, tBast, tZast, tAast, tIret, tZret, tVret, tAret, tIf, tIf2, tGoto, tIstore, tAstore, sset, tIinc, tDup, tDup2, tPop, tPutI, tPutZ, tPutR, tCallV, tCallS, popN, tFn, tCopy, tMax, tMin, tSw, swc, tRem, tObjI, Option.toList, List.nil_append, List.cons_append, okR, true_and, and_true, true_or, or_true, Nat.zero_le, ne_eq, not_false_eq_true, Nat.reduceEqDiff, tFn2, F_X11_remember, F_X10_proposes, F_X11_kept, h1, hr, i1]
    refine ⟨A, u, D, hT, fun μ1 sp t1 rA rS d1 e6 hsp e7 hu o1 => ⟨A, rA, hG, fun μ2 rB o2 => ?_⟩⟩
    have eq : ∀ i, μ2 1 i = μ 1 i := fun i => by rw [o2 1 (by omega), o1 1 (by omega)]
    exact ⟨sp, u, by rw [eq]; exact e6, hsp, by rw [eq]; exact e7, hu, fun cv => h _ _ (Or.inl ⟨cv, TC_no t1 d1 e6 hsp e7 hu o1 rB o2 (fun _ _ => rfl)⟩) (KT_no hsp o1 o2) (fun _ _ => rfl), fun cv => h _ _ (Or.inr ⟨cv, TC_yes t1 rS d1 hsp hu rB o2 (fun _ _ => rfl)⟩) (KT_yes hsp o1 o2) (fun _ _ => rfl)⟩
  · exact h.elim
def w_X11_read_0 (M : CT) (G : Nat → PT) (Rp : RT) : PT := tAload 0 <| tFn 1 F_X11_remember <| tAload 0 <| tAload 0 <| tGetR 11 11 0 <| tIload 1 <| tIload 2 <| tFn 3 F_X10_reads <| tFn 2 F_X11_kept <| tIret Rp
set_option maxRecDepth 20000 in
theorem b_X11_read_0 {Z : Zt} {d : Nat} {p : Program} {e : Env} {R : Room} {s : State} {m : MethodId} {args : Array Value} {below : List Frame} {meth : Method} {c : Code} {Rp : RT} (C : Cx Z (d + 4) jX11_read RX11 p R s m args meth c) : Sd Z jX11_read p e R s m args below meth c (MQ below (QcS Z Rp) args s 0 0 (fun a => Z.2.2.1 < a)) 0 (w_X11_read_0 (MS Z (d + 4)) (Gw Z 3 p e R s m args below meth c (MQ below (QcS Z Rp) args s 0 0 (fun a => Z.2.2.1 < a))) Rp) := by
  unfold w_X11_read_0
  refine s_aload_n (k := 0) C (by decide +kernel) ?_
  refine s_fnV C (j2 := jX11_remember) (cl := 11) (nf := 11) rfl rfl (by decide +kernel) rfl w_3_32 w_3_34 w_p1_1 w_1_1 w_3_35 (by decide +kernel) (fun _ _ _ _ _ h => f_X11_remember h) (fun _ _ _ _ _ h => r_X11_remember h) ?_
  refine s_aload_n (k := 0) C (by decide +kernel) ?_
  refine s_aload_n (k := 0) C (by decide +kernel) ?_
  refine s_getR C w_2_234 (by decide +kernel) rfl ?_
  refine s_iload_n (k := 1) C (by decide +kernel) ?_
  refine s_iload_n (k := 2) C (by decide +kernel) ?_
  refine s_fnV C (j2 := jX10_reads) (cl := 10) (nf := 6) rfl rfl (by decide +kernel) rfl w_3_221 w_3_222 w_3_223 w_1_2 w_3_224 (by decide +kernel) (fun _ _ _ _ _ h => f_X10_reads h) (fun _ _ _ _ _ h => r_X10_reads h) ?_
  refine s_fnV C (j2 := jX11_kept) (cl := 11) (nf := 11) rfl rfl (by decide +kernel) rfl w_3_79 w_3_81 w_p1_2 w_1_1 w_3_82 (by decide +kernel) (fun _ _ _ _ _ h => f_X11_kept h) (fun _ _ _ _ _ h => r_X11_kept h) ?_
  exact s_iret C rfl (by decide +kernel)
theorem ms_X11_read {Z : Zt} {d : Nat} {S : Sh} {μ : Mi} {ρ : Mr} {Rp : RT} (a0 : Nat) (x1 : Int32) (x2 : Int32) (h : ∀ G : Nat → PT, w_X11_read_0 (MS Z (d + 4)) G Rp [.ref a0, .int x1, .int x2] [] S (0, 0) μ ρ) : MS Z (d + 5) jX11_read [.ref a0, .int x1, .int x2] S μ ρ Rp :=
  MS_of [.ref a0, .int x1, .int x2] (by decide +kernel) rfl rfl (Nat.le_of_ble_eq_true rfl) rfl (fun p e R s m args below meth c C => b_X11_read_0 C _ _ _ _ _ _ (h _ ))
def F_X11_read : FT2 := fun As S μ ρ k => match As with
  | [.ref a, .int s, .int x] => S.2 a = (11, 11) ∧ a = 1 ∧ ∃ (A : Rw) (u : Nat) (D : Nat → Rw), TC A u D S μ ρ ∧ Gd A ∧ ∀ (μ' : Mi) (ρ' : Mr), TP (aRead A s x).1 A (aRead A s x).2 u D S μ' ρ' → KT μ μ' → KR ρ ρ' → k (some (.int (aRead A s x).1)) μ' ρ'
  | _ => False
theorem r_X11_read {As S μ ρ k} (h : F_X11_read As S μ ρ k) : ∃ a As', As = Value.ref a :: As' ∧ S.2 a = (11, 11) := by
  unfold F_X11_read at h
  split at h
  · exact ⟨_, _, rfl, h.1⟩
  · exact h.elim
set_option maxHeartbeats 1000000 in
theorem f_X11_read {Z : Zt} {d : Nat} {As : List Value} {S : Sh} {μ : Mi} {ρ : Mr} {Rp : RT} (h : F_X11_read As S μ ρ (fun r μ' ρ' => Rp r S μ' ρ')) : MS Z (d + 5) jX11_read As S μ ρ Rp := by
  unfold F_X11_read at h
  split at h
  · rename_i a s x
    obtain ⟨h1, rfl, A, u, D, hT, hG, h⟩ := h
    refine ms_X11_read _ _ _ (fun G => ?_)
    have hT0 := hT.1
    have hr := hT0.2.1
    have i1 := (RR_W hT.2.1).2.1.1
    simp only [w_X11_read_0, tAload, tIload, nth, tGetI, tGetR, tConst, tLconst, tBin, tUn, tI2l, tAld, tAldR, tAlen, tIast, tBast, tZast, tAast, tIret, tZret, tVret, tAret, tIf, tIf2, tGoto, tIstore, tAstore, sset, tIinc, tDup, tDup2, tPop, tPutI, tPutZ, tPutR, tCallV, tCallS, popN, tFn, tCopy, tMax, tMin, tSw, swc, tRem, tObjI, Option.toList, List.nil_append, List.cons_append, okR, true_and, and_true, true_or, or_true, Nat.zero_le, ne_eq, not_false_eq_true, Nat.reduceEqDiff, tFn2, F_X11_remember, F_X10_reads, F_X11_kept, h1, hr, i1]
    refine ⟨A, u, D, hT, fun μ1 sp t1 rA rS d1 e6 hsp e7 hu o1 => ⟨A, rA, hG, fun μ2 rB o2 => ?_⟩⟩
    have eq : ∀ i, μ2 1 i = μ 1 i := fun i => by rw [o2 1 (by omega), o1 1 (by omega)]
    exact ⟨sp, u, by rw [eq]; exact e6, hsp, by rw [eq]; exact e7, hu, fun cv => h _ _ (Or.inl ⟨cv, TC_no t1 d1 e6 hsp e7 hu o1 rB o2 (fun _ _ => rfl)⟩) (KT_no hsp o1 o2) (fun _ _ => rfl), fun cv => h _ _ (Or.inr ⟨cv, TC_yes t1 rS d1 hsp hu rB o2 (fun _ _ => rfl)⟩) (KT_yes hsp o1 o2) (fun _ _ => rfl)⟩
  · exact h.elim
def w_X11_hand_0 (M : CT) (G : Nat → PT) (Rp : RT) : PT := tAload 0 <| tFn 1 F_X11_remember <| tAload 0 <| tAload 0 <| tGetR 11 11 0 <| tIload 1 <| tIload 2 <| tFn 3 F_X10_hands <| tFn 2 F_X11_kept <| tIret Rp
set_option maxRecDepth 20000 in
theorem b_X11_hand_0 {Z : Zt} {d : Nat} {p : Program} {e : Env} {R : Room} {s : State} {m : MethodId} {args : Array Value} {below : List Frame} {meth : Method} {c : Code} {Rp : RT} (C : Cx Z (d + 4) jX11_hand RX11 p R s m args meth c) : Sd Z jX11_hand p e R s m args below meth c (MQ below (QcS Z Rp) args s 0 0 (fun a => Z.2.2.1 < a)) 0 (w_X11_hand_0 (MS Z (d + 4)) (Gw Z 3 p e R s m args below meth c (MQ below (QcS Z Rp) args s 0 0 (fun a => Z.2.2.1 < a))) Rp) := by
  unfold w_X11_hand_0
  refine s_aload_n (k := 0) C (by decide +kernel) ?_
  refine s_fnV C (j2 := jX11_remember) (cl := 11) (nf := 11) rfl rfl (by decide +kernel) rfl w_3_32 w_3_34 w_p1_1 w_1_1 w_3_35 (by decide +kernel) (fun _ _ _ _ _ h => f_X11_remember h) (fun _ _ _ _ _ h => r_X11_remember h) ?_
  refine s_aload_n (k := 0) C (by decide +kernel) ?_
  refine s_aload_n (k := 0) C (by decide +kernel) ?_
  refine s_getR C w_2_234 (by decide +kernel) rfl ?_
  refine s_iload_n (k := 1) C (by decide +kernel) ?_
  refine s_iload_n (k := 2) C (by decide +kernel) ?_
  refine s_fnV C (j2 := jX10_hands) (cl := 10) (nf := 6) rfl rfl (by decide +kernel) rfl w_3_233 w_3_234 w_3_235 w_1_2 w_3_236 (by decide +kernel) (fun _ _ _ _ _ h => f_X10_hands h) (fun _ _ _ _ _ h => r_X10_hands h) ?_
  refine s_fnV C (j2 := jX11_kept) (cl := 11) (nf := 11) rfl rfl (by decide +kernel) rfl w_3_79 w_3_81 w_p1_2 w_1_1 w_3_82 (by decide +kernel) (fun _ _ _ _ _ h => f_X11_kept h) (fun _ _ _ _ _ h => r_X11_kept h) ?_
  exact s_iret C rfl (by decide +kernel)
theorem ms_X11_hand {Z : Zt} {d : Nat} {S : Sh} {μ : Mi} {ρ : Mr} {Rp : RT} (a0 : Nat) (x1 : Int32) (x2 : Int32) (h : ∀ G : Nat → PT, w_X11_hand_0 (MS Z (d + 4)) G Rp [.ref a0, .int x1, .int x2] [] S (0, 0) μ ρ) : MS Z (d + 5) jX11_hand [.ref a0, .int x1, .int x2] S μ ρ Rp :=
  MS_of [.ref a0, .int x1, .int x2] (by decide +kernel) rfl rfl (Nat.le_of_ble_eq_true rfl) rfl (fun p e R s m args below meth c C => b_X11_hand_0 C _ _ _ _ _ _ (h _ ))
def F_X11_hand : FT2 := fun As S μ ρ k => match As with
  | [.ref a, .int s, .int x] => S.2 a = (11, 11) ∧ a = 1 ∧ ∃ (A : Rw) (u : Nat) (D : Nat → Rw), TC A u D S μ ρ ∧ Gd A ∧ ∀ (μ' : Mi) (ρ' : Mr), TP (aHand A s x).1 A (aHand A s x).2 u D S μ' ρ' → KT μ μ' → KR ρ ρ' → k (some (.int (aHand A s x).1)) μ' ρ'
  | _ => False
theorem r_X11_hand {As S μ ρ k} (h : F_X11_hand As S μ ρ k) : ∃ a As', As = Value.ref a :: As' ∧ S.2 a = (11, 11) := by
  unfold F_X11_hand at h
  split at h
  · exact ⟨_, _, rfl, h.1⟩
  · exact h.elim
set_option maxHeartbeats 1000000 in
theorem f_X11_hand {Z : Zt} {d : Nat} {As : List Value} {S : Sh} {μ : Mi} {ρ : Mr} {Rp : RT} (h : F_X11_hand As S μ ρ (fun r μ' ρ' => Rp r S μ' ρ')) : MS Z (d + 5) jX11_hand As S μ ρ Rp := by
  unfold F_X11_hand at h
  split at h
  · rename_i a s x
    obtain ⟨h1, rfl, A, u, D, hT, hG, h⟩ := h
    refine ms_X11_hand _ _ _ (fun G => ?_)
    have hT0 := hT.1
    have hr := hT0.2.1
    have i1 := (RR_W hT.2.1).2.1.1
    simp only [w_X11_hand_0, tAload, tIload, nth, tGetI, tGetR, tConst, tLconst, tBin, tUn, tI2l, tAld, tAldR, tAlen, tIast, tBast, tZast, tAast, tIret, tZret, tVret, tAret, tIf, tIf2, tGoto, tIstore, tAstore, sset, tIinc, tDup, tDup2, tPop, tPutI, tPutZ, tPutR, tCallV, tCallS, popN, tFn, tCopy, tMax, tMin, tSw, swc, tRem, tObjI, Option.toList, List.nil_append, List.cons_append, okR, true_and, and_true, true_or, or_true, Nat.zero_le, ne_eq, not_false_eq_true, Nat.reduceEqDiff, tFn2, F_X11_remember, F_X10_hands, F_X11_kept, h1, hr, i1]
    refine ⟨A, u, D, hT, fun μ1 sp t1 rA rS d1 e6 hsp e7 hu o1 => ⟨A, rA, hG, fun μ2 rB o2 => ?_⟩⟩
    have eq : ∀ i, μ2 1 i = μ 1 i := fun i => by rw [o2 1 (by omega), o1 1 (by omega)]
    exact ⟨sp, u, by rw [eq]; exact e6, hsp, by rw [eq]; exact e7, hu, fun cv => h _ _ (Or.inl ⟨cv, TC_no t1 d1 e6 hsp e7 hu o1 rB o2 (fun _ _ => rfl)⟩) (KT_no hsp o1 o2) (fun _ _ => rfl), fun cv => h _ _ (Or.inr ⟨cv, TC_yes t1 rS d1 hsp hu rB o2 (fun _ _ => rfl)⟩) (KT_yes hsp o1 o2) (fun _ _ => rfl)⟩
  · exact h.elim
def w_X11_change_0 (M : CT) (G : Nat → PT) (Rp : RT) : PT := tAload 0 <| tFn 1 F_X11_remember <| tAload 0 <| tAload 0 <| tGetR 11 11 0 <| tIload 1 <| tIload 2 <| tFn 3 F_X10_changes <| tFn 2 F_X11_kept <| tIret Rp
set_option maxRecDepth 20000 in
theorem b_X11_change_0 {Z : Zt} {d : Nat} {p : Program} {e : Env} {R : Room} {s : State} {m : MethodId} {args : Array Value} {below : List Frame} {meth : Method} {c : Code} {Rp : RT} (C : Cx Z (d + 6) jX11_change RX11 p R s m args meth c) : Sd Z jX11_change p e R s m args below meth c (MQ below (QcS Z Rp) args s 0 0 (fun a => Z.2.2.1 < a)) 0 (w_X11_change_0 (MS Z (d + 6)) (Gw Z 3 p e R s m args below meth c (MQ below (QcS Z Rp) args s 0 0 (fun a => Z.2.2.1 < a))) Rp) := by
  unfold w_X11_change_0
  refine s_aload_n (k := 0) C (by decide +kernel) ?_
  refine s_fnV C (j2 := jX11_remember) (cl := 11) (nf := 11) rfl rfl (by decide +kernel) rfl w_3_32 w_3_34 w_p1_1 w_1_1 w_3_35 (by decide +kernel) (fun _ _ _ _ _ h => f_X11_remember h) (fun _ _ _ _ _ h => r_X11_remember h) ?_
  refine s_aload_n (k := 0) C (by decide +kernel) ?_
  refine s_aload_n (k := 0) C (by decide +kernel) ?_
  refine s_getR C w_2_234 (by decide +kernel) rfl ?_
  refine s_iload_n (k := 1) C (by decide +kernel) ?_
  refine s_iload_n (k := 2) C (by decide +kernel) ?_
  refine s_fnV C (j2 := jX10_changes) (cl := 10) (nf := 6) rfl rfl (by decide +kernel) rfl w_4_1 w_4_2 w_4_3 w_1_2 w_4_4 (by decide +kernel) (fun _ _ _ _ _ h => f_X10_changes h) (fun _ _ _ _ _ h => r_X10_changes h) ?_
  refine s_fnV C (j2 := jX11_kept) (cl := 11) (nf := 11) rfl rfl (by decide +kernel) rfl w_3_79 w_3_81 w_p1_2 w_1_1 w_3_82 (by decide +kernel) (fun _ _ _ _ _ h => f_X11_kept h) (fun _ _ _ _ _ h => r_X11_kept h) ?_
  exact s_iret C rfl (by decide +kernel)
theorem ms_X11_change {Z : Zt} {d : Nat} {S : Sh} {μ : Mi} {ρ : Mr} {Rp : RT} (a0 : Nat) (x1 : Int32) (x2 : Int32) (h : ∀ G : Nat → PT, w_X11_change_0 (MS Z (d + 6)) G Rp [.ref a0, .int x1, .int x2] [] S (0, 0) μ ρ) : MS Z (d + 7) jX11_change [.ref a0, .int x1, .int x2] S μ ρ Rp :=
  MS_of [.ref a0, .int x1, .int x2] (by decide +kernel) rfl rfl (Nat.le_of_ble_eq_true rfl) rfl (fun p e R s m args below meth c C => b_X11_change_0 C _ _ _ _ _ _ (h _ ))
def F_X11_change : FT2 := fun As S μ ρ k => match As with
  | [.ref a, .int s, .int m] => S.2 a = (11, 11) ∧ a = 1 ∧ ∃ (A : Rw) (u : Nat) (D : Nat → Rw), TC A u D S μ ρ ∧ Gd A ∧ ∀ (μ' : Mi) (ρ' : Mr), TP (aChange A s m).1 A (aChange A s m).2 u D S μ' ρ' → KT μ μ' → KR ρ ρ' → k (some (.int (aChange A s m).1)) μ' ρ'
  | _ => False
theorem r_X11_change {As S μ ρ k} (h : F_X11_change As S μ ρ k) : ∃ a As', As = Value.ref a :: As' ∧ S.2 a = (11, 11) := by
  unfold F_X11_change at h
  split at h
  · exact ⟨_, _, rfl, h.1⟩
  · exact h.elim
set_option maxHeartbeats 1000000 in
theorem f_X11_change {Z : Zt} {d : Nat} {As : List Value} {S : Sh} {μ : Mi} {ρ : Mr} {Rp : RT} (h : F_X11_change As S μ ρ (fun r μ' ρ' => Rp r S μ' ρ')) : MS Z (d + 7) jX11_change As S μ ρ Rp := by
  unfold F_X11_change at h
  split at h
  · rename_i a s m
    obtain ⟨h1, rfl, A, u, D, hT, hG, h⟩ := h
    refine ms_X11_change _ _ _ (fun G => ?_)
    have hT0 := hT.1
    have hr := hT0.2.1
    have i1 := (RR_W hT.2.1).2.1.1
    simp only [w_X11_change_0, tAload, tIload, nth, tGetI, tGetR, tConst, tLconst, tBin, tUn, tI2l, tAld, tAldR, tAlen, tIast, tBast, tZast, tAast, tIret, tZret, tVret, tAret, tIf, tIf2, tGoto, tIstore, tAstore, sset, tIinc, tDup, tDup2, tPop, tPutI, tPutZ, tPutR, tCallV, tCallS, popN, tFn, tCopy, tMax, tMin, tSw, swc, tRem, tObjI, Option.toList, List.nil_append, List.cons_append, okR, true_and, and_true, true_or, or_true, Nat.zero_le, ne_eq, not_false_eq_true, Nat.reduceEqDiff, tFn2, F_X11_remember, F_X10_changes, F_X11_kept, h1, hr, i1]
    refine ⟨A, u, D, hT, fun μ1 sp t1 rA rS d1 e6 hsp e7 hu o1 => ⟨A, rA, hG, fun μ2 rB o2 => ?_⟩⟩
    have eq : ∀ i, μ2 1 i = μ 1 i := fun i => by rw [o2 1 (by omega), o1 1 (by omega)]
    exact ⟨sp, u, by rw [eq]; exact e6, hsp, by rw [eq]; exact e7, hu, fun cv => h _ _ (Or.inl ⟨cv, TC_no t1 d1 e6 hsp e7 hu o1 rB o2 (fun _ _ => rfl)⟩) (KT_no hsp o1 o2) (fun _ _ => rfl), fun cv => h _ _ (Or.inr ⟨cv, TC_yes t1 rS d1 hsp hu rB o2 (fun _ _ => rfl)⟩) (KT_yes hsp o1 o2) (fun _ _ => rfl)⟩
  · exact h.elim
def w_X11_compact_0 (M : CT) (G : Nat → PT) (Rp : RT) : PT := tAload 0 <| tFn 1 F_X11_remember <| tAload 0 <| tAload 0 <| tGetR 11 11 0 <| tIload 1 <| tFn 2 F_X10_compacts <| tFn 2 F_X11_kept <| tIret Rp
set_option maxRecDepth 20000 in
theorem b_X11_compact_0 {Z : Zt} {d : Nat} {p : Program} {e : Env} {R : Room} {s : State} {m : MethodId} {args : Array Value} {below : List Frame} {meth : Method} {c : Code} {Rp : RT} (C : Cx Z (d + 4) jX11_compact RX11 p R s m args meth c) : Sd Z jX11_compact p e R s m args below meth c (MQ below (QcS Z Rp) args s 0 0 (fun a => Z.2.2.1 < a)) 0 (w_X11_compact_0 (MS Z (d + 4)) (Gw Z 2 p e R s m args below meth c (MQ below (QcS Z Rp) args s 0 0 (fun a => Z.2.2.1 < a))) Rp) := by
  unfold w_X11_compact_0
  refine s_aload_n (k := 0) C (by decide +kernel) ?_
  refine s_fnV C (j2 := jX11_remember) (cl := 11) (nf := 11) rfl rfl (by decide +kernel) rfl w_3_32 w_3_34 w_p1_1 w_1_1 w_3_35 (by decide +kernel) (fun _ _ _ _ _ h => f_X11_remember h) (fun _ _ _ _ _ h => r_X11_remember h) ?_
  refine s_aload_n (k := 0) C (by decide +kernel) ?_
  refine s_aload_n (k := 0) C (by decide +kernel) ?_
  refine s_getR C w_2_234 (by decide +kernel) rfl ?_
  refine s_iload_n (k := 1) C (by decide +kernel) ?_
  refine s_fnV C (j2 := jX10_compacts) (cl := 10) (nf := 6) rfl rfl (by decide +kernel) rfl w_4_9 w_4_10 w_4_11 w_1_2 w_4_12 (by decide +kernel) (fun _ _ _ _ _ h => f_X10_compacts h) (fun _ _ _ _ _ h => r_X10_compacts h) ?_
  refine s_fnV C (j2 := jX11_kept) (cl := 11) (nf := 11) rfl rfl (by decide +kernel) rfl w_3_79 w_3_81 w_p1_2 w_1_1 w_3_82 (by decide +kernel) (fun _ _ _ _ _ h => f_X11_kept h) (fun _ _ _ _ _ h => r_X11_kept h) ?_
  exact s_iret C rfl (by decide +kernel)
theorem ms_X11_compact {Z : Zt} {d : Nat} {S : Sh} {μ : Mi} {ρ : Mr} {Rp : RT} (a0 : Nat) (x1 : Int32) (h : ∀ G : Nat → PT, w_X11_compact_0 (MS Z (d + 4)) G Rp [.ref a0, .int x1] [] S (0, 0) μ ρ) : MS Z (d + 5) jX11_compact [.ref a0, .int x1] S μ ρ Rp :=
  MS_of [.ref a0, .int x1] (by decide +kernel) rfl rfl (Nat.le_of_ble_eq_true rfl) rfl (fun p e R s m args below meth c C => b_X11_compact_0 C _ _ _ _ _ _ (h _ ))
def F_X11_compact : FT2 := fun As S μ ρ k => match As with
  | [.ref a, .int s] => S.2 a = (11, 11) ∧ a = 1 ∧ ∃ (A : Rw) (u : Nat) (D : Nat → Rw), TC A u D S μ ρ ∧ Gd A ∧ ∀ (μ' : Mi) (ρ' : Mr), TP (aCompact A s).1 A (aCompact A s).2 u D S μ' ρ' → KT μ μ' → KR ρ ρ' → k (some (.int (aCompact A s).1)) μ' ρ'
  | _ => False
theorem r_X11_compact {As S μ ρ k} (h : F_X11_compact As S μ ρ k) : ∃ a As', As = Value.ref a :: As' ∧ S.2 a = (11, 11) := by
  unfold F_X11_compact at h
  split at h
  · exact ⟨_, _, rfl, h.1⟩
  · exact h.elim
set_option maxHeartbeats 1000000 in
theorem f_X11_compact {Z : Zt} {d : Nat} {As : List Value} {S : Sh} {μ : Mi} {ρ : Mr} {Rp : RT} (h : F_X11_compact As S μ ρ (fun r μ' ρ' => Rp r S μ' ρ')) : MS Z (d + 5) jX11_compact As S μ ρ Rp := by
  unfold F_X11_compact at h
  split at h
  · rename_i a s
    obtain ⟨h1, rfl, A, u, D, hT, hG, h⟩ := h
    refine ms_X11_compact _ _ (fun G => ?_)
    have hT0 := hT.1
    have hr := hT0.2.1
    have i1 := (RR_W hT.2.1).2.1.1
    simp only [w_X11_compact_0, tAload, tIload, nth, tGetI, tGetR, tConst, tLconst, tBin, tUn, tI2l, tAld, tAldR, tAlen, tIast, tBast, tZast, tAast, tIret, tZret, tVret, tAret, tIf, tIf2, tGoto, tIstore, tAstore, sset, tIinc, tDup, tDup2, tPop, tPutI, tPutZ, tPutR, tCallV, tCallS, popN, tFn, tCopy, tMax, tMin, tSw, swc, tRem, tObjI, Option.toList, List.nil_append, List.cons_append, okR, true_and, and_true, true_or, or_true, Nat.zero_le, ne_eq, not_false_eq_true, Nat.reduceEqDiff, tFn2, F_X11_remember, F_X10_compacts, F_X11_kept, h1, hr, i1]
    refine ⟨A, u, D, hT, fun μ1 sp t1 rA rS d1 e6 hsp e7 hu o1 => ⟨A, rA, hG, fun μ2 rB o2 => ?_⟩⟩
    have eq : ∀ i, μ2 1 i = μ 1 i := fun i => by rw [o2 1 (by omega), o1 1 (by omega)]
    exact ⟨sp, u, by rw [eq]; exact e6, hsp, by rw [eq]; exact e7, hu, fun cv => h _ _ (Or.inl ⟨cv, TC_no t1 d1 e6 hsp e7 hu o1 rB o2 (fun _ _ => rfl)⟩) (KT_no hsp o1 o2) (fun _ _ => rfl), fun cv => h _ _ (Or.inr ⟨cv, TC_yes t1 rS d1 hsp hu rB o2 (fun _ _ => rfl)⟩) (KT_yes hsp o1 o2) (fun _ _ => rfl)⟩
  · exact h.elim
def w_X11_stop_0 (M : CT) (G : Nat → PT) (Rp : RT) : PT := tAload 0 <| tFn 1 F_X11_remember <| tAload 0 <| tAload 0 <| tGetR 11 11 0 <| tIload 1 <| tFn 2 F_X10_stops <| tFn 2 F_X11_kept <| tIret Rp
set_option maxRecDepth 20000 in
theorem b_X11_stop_0 {Z : Zt} {d : Nat} {p : Program} {e : Env} {R : Room} {s : State} {m : MethodId} {args : Array Value} {below : List Frame} {meth : Method} {c : Code} {Rp : RT} (C : Cx Z (d + 4) jX11_stop RX11 p R s m args meth c) : Sd Z jX11_stop p e R s m args below meth c (MQ below (QcS Z Rp) args s 0 0 (fun a => Z.2.2.1 < a)) 0 (w_X11_stop_0 (MS Z (d + 4)) (Gw Z 2 p e R s m args below meth c (MQ below (QcS Z Rp) args s 0 0 (fun a => Z.2.2.1 < a))) Rp) := by
  unfold w_X11_stop_0
  refine s_aload_n (k := 0) C (by decide +kernel) ?_
  refine s_fnV C (j2 := jX11_remember) (cl := 11) (nf := 11) rfl rfl (by decide +kernel) rfl w_3_32 w_3_34 w_p1_1 w_1_1 w_3_35 (by decide +kernel) (fun _ _ _ _ _ h => f_X11_remember h) (fun _ _ _ _ _ h => r_X11_remember h) ?_
  refine s_aload_n (k := 0) C (by decide +kernel) ?_
  refine s_aload_n (k := 0) C (by decide +kernel) ?_
  refine s_getR C w_2_234 (by decide +kernel) rfl ?_
  refine s_iload_n (k := 1) C (by decide +kernel) ?_
  refine s_fnV C (j2 := jX10_stops) (cl := 10) (nf := 6) rfl rfl (by decide +kernel) rfl w_4_22 w_4_23 w_4_24 w_1_2 w_4_25 (by decide +kernel) (fun _ _ _ _ _ h => f_X10_stops h) (fun _ _ _ _ _ h => r_X10_stops h) ?_
  refine s_fnV C (j2 := jX11_kept) (cl := 11) (nf := 11) rfl rfl (by decide +kernel) rfl w_3_79 w_3_81 w_p1_2 w_1_1 w_3_82 (by decide +kernel) (fun _ _ _ _ _ h => f_X11_kept h) (fun _ _ _ _ _ h => r_X11_kept h) ?_
  exact s_iret C rfl (by decide +kernel)
theorem ms_X11_stop {Z : Zt} {d : Nat} {S : Sh} {μ : Mi} {ρ : Mr} {Rp : RT} (a0 : Nat) (x1 : Int32) (h : ∀ G : Nat → PT, w_X11_stop_0 (MS Z (d + 4)) G Rp [.ref a0, .int x1] [] S (0, 0) μ ρ) : MS Z (d + 5) jX11_stop [.ref a0, .int x1] S μ ρ Rp :=
  MS_of [.ref a0, .int x1] (by decide +kernel) rfl rfl (Nat.le_of_ble_eq_true rfl) rfl (fun p e R s m args below meth c C => b_X11_stop_0 C _ _ _ _ _ _ (h _ ))
def F_X11_stop : FT2 := fun As S μ ρ k => match As with
  | [.ref a, .int s] => S.2 a = (11, 11) ∧ a = 1 ∧ ∃ (A : Rw) (u : Nat) (D : Nat → Rw), TC A u D S μ ρ ∧ Gd A ∧ ∀ (μ' : Mi) (ρ' : Mr), TP (aStop A s).1 A (aStop A s).2 u D S μ' ρ' → KT μ μ' → KR ρ ρ' → k (some (.int (aStop A s).1)) μ' ρ'
  | _ => False
theorem r_X11_stop {As S μ ρ k} (h : F_X11_stop As S μ ρ k) : ∃ a As', As = Value.ref a :: As' ∧ S.2 a = (11, 11) := by
  unfold F_X11_stop at h
  split at h
  · exact ⟨_, _, rfl, h.1⟩
  · exact h.elim
set_option maxHeartbeats 1000000 in
theorem f_X11_stop {Z : Zt} {d : Nat} {As : List Value} {S : Sh} {μ : Mi} {ρ : Mr} {Rp : RT} (h : F_X11_stop As S μ ρ (fun r μ' ρ' => Rp r S μ' ρ')) : MS Z (d + 5) jX11_stop As S μ ρ Rp := by
  unfold F_X11_stop at h
  split at h
  · rename_i a s
    obtain ⟨h1, rfl, A, u, D, hT, hG, h⟩ := h
    refine ms_X11_stop _ _ (fun G => ?_)
    have hT0 := hT.1
    have hr := hT0.2.1
    have i1 := (RR_W hT.2.1).2.1.1
    simp only [w_X11_stop_0, tAload, tIload, nth, tGetI, tGetR, tConst, tLconst, tBin, tUn, tI2l, tAld, tAldR, tAlen, tIast, tBast, tZast, tAast, tIret, tZret, tVret, tAret, tIf, tIf2, tGoto, tIstore, tAstore, sset, tIinc, tDup, tDup2, tPop, tPutI, tPutZ, tPutR, tCallV, tCallS, popN, tFn, tCopy, tMax, tMin, tSw, swc, tRem, tObjI, Option.toList, List.nil_append, List.cons_append, okR, true_and, and_true, true_or, or_true, Nat.zero_le, ne_eq, not_false_eq_true, Nat.reduceEqDiff, tFn2, F_X11_remember, F_X10_stops, F_X11_kept, h1, hr, i1]
    refine ⟨A, u, D, hT, fun μ1 sp t1 rA rS d1 e6 hsp e7 hu o1 => ⟨A, rA, hG, fun μ2 rB o2 => ?_⟩⟩
    have eq : ∀ i, μ2 1 i = μ 1 i := fun i => by rw [o2 1 (by omega), o1 1 (by omega)]
    exact ⟨sp, u, by rw [eq]; exact e6, hsp, by rw [eq]; exact e7, hu, fun cv => h _ _ (Or.inl ⟨cv, TC_no t1 d1 e6 hsp e7 hu o1 rB o2 (fun _ _ => rfl)⟩) (KT_no hsp o1 o2) (fun _ _ => rfl), fun cv => h _ _ (Or.inr ⟨cv, TC_yes t1 rS d1 hsp hu rB o2 (fun _ _ => rfl)⟩) (KT_yes hsp o1 o2) (fun _ _ => rfl)⟩
  · exact h.elim
def w_X11_start_0 (M : CT) (G : Nat → PT) (Rp : RT) : PT := tAload 0 <| tFn 1 F_X11_remember <| tAload 0 <| tAload 0 <| tGetR 11 11 0 <| tIload 1 <| tFn 2 F_X10_starts <| tFn 2 F_X11_kept <| tIret Rp
set_option maxRecDepth 20000 in
theorem b_X11_start_0 {Z : Zt} {d : Nat} {p : Program} {e : Env} {R : Room} {s : State} {m : MethodId} {args : Array Value} {below : List Frame} {meth : Method} {c : Code} {Rp : RT} (C : Cx Z (d + 4) jX11_start RX11 p R s m args meth c) : Sd Z jX11_start p e R s m args below meth c (MQ below (QcS Z Rp) args s 0 0 (fun a => Z.2.2.1 < a)) 0 (w_X11_start_0 (MS Z (d + 4)) (Gw Z 2 p e R s m args below meth c (MQ below (QcS Z Rp) args s 0 0 (fun a => Z.2.2.1 < a))) Rp) := by
  unfold w_X11_start_0
  refine s_aload_n (k := 0) C (by decide +kernel) ?_
  refine s_fnV C (j2 := jX11_remember) (cl := 11) (nf := 11) rfl rfl (by decide +kernel) rfl w_3_32 w_3_34 w_p1_1 w_1_1 w_3_35 (by decide +kernel) (fun _ _ _ _ _ h => f_X11_remember h) (fun _ _ _ _ _ h => r_X11_remember h) ?_
  refine s_aload_n (k := 0) C (by decide +kernel) ?_
  refine s_aload_n (k := 0) C (by decide +kernel) ?_
  refine s_getR C w_2_234 (by decide +kernel) rfl ?_
  refine s_iload_n (k := 1) C (by decide +kernel) ?_
  refine s_fnV C (j2 := jX10_starts) (cl := 10) (nf := 6) rfl rfl (by decide +kernel) rfl w_4_35 w_4_36 w_4_37 w_1_2 w_4_38 (by decide +kernel) (fun _ _ _ _ _ h => f_X10_starts h) (fun _ _ _ _ _ h => r_X10_starts h) ?_
  refine s_fnV C (j2 := jX11_kept) (cl := 11) (nf := 11) rfl rfl (by decide +kernel) rfl w_3_79 w_3_81 w_p1_2 w_1_1 w_3_82 (by decide +kernel) (fun _ _ _ _ _ h => f_X11_kept h) (fun _ _ _ _ _ h => r_X11_kept h) ?_
  exact s_iret C rfl (by decide +kernel)
theorem ms_X11_start {Z : Zt} {d : Nat} {S : Sh} {μ : Mi} {ρ : Mr} {Rp : RT} (a0 : Nat) (x1 : Int32) (h : ∀ G : Nat → PT, w_X11_start_0 (MS Z (d + 4)) G Rp [.ref a0, .int x1] [] S (0, 0) μ ρ) : MS Z (d + 5) jX11_start [.ref a0, .int x1] S μ ρ Rp :=
  MS_of [.ref a0, .int x1] (by decide +kernel) rfl rfl (Nat.le_of_ble_eq_true rfl) rfl (fun p e R s m args below meth c C => b_X11_start_0 C _ _ _ _ _ _ (h _ ))
def F_X11_start : FT2 := fun As S μ ρ k => match As with
  | [.ref a, .int s] => S.2 a = (11, 11) ∧ a = 1 ∧ ∃ (A : Rw) (u : Nat) (D : Nat → Rw), TC A u D S μ ρ ∧ Gd A ∧ ∀ (μ' : Mi) (ρ' : Mr), TP (aStart A s).1 A (aStart A s).2 u D S μ' ρ' → KT μ μ' → KR ρ ρ' → k (some (.int (aStart A s).1)) μ' ρ'
  | _ => False
theorem r_X11_start {As S μ ρ k} (h : F_X11_start As S μ ρ k) : ∃ a As', As = Value.ref a :: As' ∧ S.2 a = (11, 11) := by
  unfold F_X11_start at h
  split at h
  · exact ⟨_, _, rfl, h.1⟩
  · exact h.elim
set_option maxHeartbeats 1000000 in
theorem f_X11_start {Z : Zt} {d : Nat} {As : List Value} {S : Sh} {μ : Mi} {ρ : Mr} {Rp : RT} (h : F_X11_start As S μ ρ (fun r μ' ρ' => Rp r S μ' ρ')) : MS Z (d + 5) jX11_start As S μ ρ Rp := by
  unfold F_X11_start at h
  split at h
  · rename_i a s
    obtain ⟨h1, rfl, A, u, D, hT, hG, h⟩ := h
    refine ms_X11_start _ _ (fun G => ?_)
    have hT0 := hT.1
    have hr := hT0.2.1
    have i1 := (RR_W hT.2.1).2.1.1
    simp only [w_X11_start_0, tAload, tIload, nth, tGetI, tGetR, tConst, tLconst, tBin, tUn, tI2l, tAld, tAldR, tAlen, tIast, tBast, tZast, tAast, tIret, tZret, tVret, tAret, tIf, tIf2, tGoto, tIstore, tAstore, sset, tIinc, tDup, tDup2, tPop, tPutI, tPutZ, tPutR, tCallV, tCallS, popN, tFn, tCopy, tMax, tMin, tSw, swc, tRem, tObjI, Option.toList, List.nil_append, List.cons_append, okR, true_and, and_true, true_or, or_true, Nat.zero_le, ne_eq, not_false_eq_true, Nat.reduceEqDiff, tFn2, F_X11_remember, F_X10_starts, F_X11_kept, h1, hr, i1]
    refine ⟨A, u, D, hT, fun μ1 sp t1 rA rS d1 e6 hsp e7 hu o1 => ⟨A, rA, hG, fun μ2 rB o2 => ?_⟩⟩
    have eq : ∀ i, μ2 1 i = μ 1 i := fun i => by rw [o2 1 (by omega), o1 1 (by omega)]
    exact ⟨sp, u, by rw [eq]; exact e6, hsp, by rw [eq]; exact e7, hu, fun cv => h _ _ (Or.inl ⟨cv, TC_no t1 d1 e6 hsp e7 hu o1 rB o2 (fun _ _ => rfl)⟩) (KT_no hsp o1 o2) (fun _ _ => rfl), fun cv => h _ _ (Or.inr ⟨cv, TC_yes t1 rS d1 hsp hu rB o2 (fun _ _ => rfl)⟩) (KT_yes hsp o1 o2) (fun _ _ => rfl)⟩
  · exact h.elim
def w_X11_link_0 (M : CT) (G : Nat → PT) (Rp : RT) : PT := tAload 0 <| tFn 1 F_X11_remember <| tAload 0 <| tAload 0 <| tGetR 11 11 0 <| tIload 1 <| tIload 2 <| tIload 3 <| tFn 4 F_X10_links <| tFn 2 F_X11_kept <| tIret Rp
set_option maxRecDepth 20000 in
theorem b_X11_link_0 {Z : Zt} {d : Nat} {p : Program} {e : Env} {R : Room} {s : State} {m : MethodId} {args : Array Value} {below : List Frame} {meth : Method} {c : Code} {Rp : RT} (C : Cx Z (d + 4) jX11_link RX11 p R s m args meth c) : Sd Z jX11_link p e R s m args below meth c (MQ below (QcS Z Rp) args s 0 0 (fun a => Z.2.2.1 < a)) 0 (w_X11_link_0 (MS Z (d + 4)) (Gw Z 4 p e R s m args below meth c (MQ below (QcS Z Rp) args s 0 0 (fun a => Z.2.2.1 < a))) Rp) := by
  unfold w_X11_link_0
  refine s_aload_n (k := 0) C (by decide +kernel) ?_
  refine s_fnV C (j2 := jX11_remember) (cl := 11) (nf := 11) rfl rfl (by decide +kernel) rfl w_3_32 w_3_34 w_p1_1 w_1_1 w_3_35 (by decide +kernel) (fun _ _ _ _ _ h => f_X11_remember h) (fun _ _ _ _ _ h => r_X11_remember h) ?_
  refine s_aload_n (k := 0) C (by decide +kernel) ?_
  refine s_aload_n (k := 0) C (by decide +kernel) ?_
  refine s_getR C w_2_234 (by decide +kernel) rfl ?_
  refine s_iload_n (k := 1) C (by decide +kernel) ?_
  refine s_iload_n (k := 2) C (by decide +kernel) ?_
  refine s_iload_n (k := 3) C (by decide +kernel) ?_
  refine s_fnV C (j2 := jX10_links) (cl := 10) (nf := 6) rfl rfl (by decide +kernel) rfl w_4_43 w_4_44 w_4_45 w_1_2 w_4_46 (by decide +kernel) (fun _ _ _ _ _ h => f_X10_links h) (fun _ _ _ _ _ h => r_X10_links h) ?_
  refine s_fnV C (j2 := jX11_kept) (cl := 11) (nf := 11) rfl rfl (by decide +kernel) rfl w_3_79 w_3_81 w_p1_2 w_1_1 w_3_82 (by decide +kernel) (fun _ _ _ _ _ h => f_X11_kept h) (fun _ _ _ _ _ h => r_X11_kept h) ?_
  exact s_iret C rfl (by decide +kernel)
theorem ms_X11_link {Z : Zt} {d : Nat} {S : Sh} {μ : Mi} {ρ : Mr} {Rp : RT} (a0 : Nat) (x1 : Int32) (x2 : Int32) (x3 : Int32) (h : ∀ G : Nat → PT, w_X11_link_0 (MS Z (d + 4)) G Rp [.ref a0, .int x1, .int x2, .int x3] [] S (0, 0) μ ρ) : MS Z (d + 5) jX11_link [.ref a0, .int x1, .int x2, .int x3] S μ ρ Rp :=
  MS_of [.ref a0, .int x1, .int x2, .int x3] (by decide +kernel) rfl rfl (Nat.le_of_ble_eq_true rfl) rfl (fun p e R s m args below meth c C => b_X11_link_0 C _ _ _ _ _ _ (h _ ))
def F_X11_link : FT2 := fun As S μ ρ k => match As with
  | [.ref a, .int x, .int y, .int how] => S.2 a = (11, 11) ∧ a = 1 ∧ ∃ (A : Rw) (u : Nat) (D : Nat → Rw), TC A u D S μ ρ ∧ Gd A ∧ ∀ (μ' : Mi) (ρ' : Mr), TP (aLink A x y how).1 A (aLink A x y how).2 u D S μ' ρ' → KT μ μ' → KR ρ ρ' → k (some (.int (aLink A x y how).1)) μ' ρ'
  | _ => False
theorem r_X11_link {As S μ ρ k} (h : F_X11_link As S μ ρ k) : ∃ a As', As = Value.ref a :: As' ∧ S.2 a = (11, 11) := by
  unfold F_X11_link at h
  split at h
  · exact ⟨_, _, rfl, h.1⟩
  · exact h.elim
set_option maxHeartbeats 1000000 in
theorem f_X11_link {Z : Zt} {d : Nat} {As : List Value} {S : Sh} {μ : Mi} {ρ : Mr} {Rp : RT} (h : F_X11_link As S μ ρ (fun r μ' ρ' => Rp r S μ' ρ')) : MS Z (d + 5) jX11_link As S μ ρ Rp := by
  unfold F_X11_link at h
  split at h
  · rename_i a x y how
    obtain ⟨h1, rfl, A, u, D, hT, hG, h⟩ := h
    refine ms_X11_link _ _ _ _ (fun G => ?_)
    have hT0 := hT.1
    have hr := hT0.2.1
    have i1 := (RR_W hT.2.1).2.1.1
    simp only [w_X11_link_0, tAload, tIload, nth, tGetI, tGetR, tConst, tLconst, tBin, tUn, tI2l, tAld, tAldR, tAlen, tIast, tBast, tZast, tAast, tIret, tZret, tVret, tAret, tIf, tIf2, tGoto, tIstore, tAstore, sset, tIinc, tDup, tDup2, tPop, tPutI, tPutZ, tPutR, tCallV, tCallS, popN, tFn, tCopy, tMax, tMin, tSw, swc, tRem, tObjI, Option.toList, List.nil_append, List.cons_append, okR, true_and, and_true, true_or, or_true, Nat.zero_le, ne_eq, not_false_eq_true, Nat.reduceEqDiff, tFn2, F_X11_remember, F_X10_links, F_X11_kept, h1, hr, i1]
    refine ⟨A, u, D, hT, fun μ1 sp t1 rA rS d1 e6 hsp e7 hu o1 => ⟨A, rA, hG, fun μ2 rB o2 => ?_⟩⟩
    have eq : ∀ i, μ2 1 i = μ 1 i := fun i => by rw [o2 1 (by omega), o1 1 (by omega)]
    exact ⟨sp, u, by rw [eq]; exact e6, hsp, by rw [eq]; exact e7, hu, fun cv => h _ _ (Or.inl ⟨cv, TC_no t1 d1 e6 hsp e7 hu o1 rB o2 (fun _ _ => rfl)⟩) (KT_no hsp o1 o2) (fun _ _ => rfl), fun cv => h _ _ (Or.inr ⟨cv, TC_yes t1 rS d1 hsp hu rB o2 (fun _ _ => rfl)⟩) (KT_yes hsp o1 o2) (fun _ _ => rfl)⟩
  · exact h.elim
def w_X11_come_0 (M : CT) (G : Nat → PT) (Rp : RT) : PT := tAload 0 <| tFn 1 F_X11_remember <| tAload 0 <| tAload 0 <| tGetR 11 11 0 <| tIload 1 <| tFn2 2 F_X10_comes <| tFn 2 F_X11_kept <| tIret Rp
set_option maxRecDepth 20000 in
theorem b_X11_come_0 {Z : Zt} {d : Nat} {p : Program} {e : Env} {R : Room} {s : State} {m : MethodId} {args : Array Value} {below : List Frame} {meth : Method} {c : Code} {Rp : RT} (C : Cx Z (d + 6) jX11_come RX11 p R s m args meth c) : Sd Z jX11_come p e R s m args below meth c (MQ below (QcS Z Rp) args s 0 0 (fun a => Z.2.2.1 < a)) 0 (w_X11_come_0 (MS Z (d + 6)) (Gw Z 2 p e R s m args below meth c (MQ below (QcS Z Rp) args s 0 0 (fun a => Z.2.2.1 < a))) Rp) := by
  unfold w_X11_come_0
  refine s_aload_n (k := 0) C (by decide +kernel) ?_
  refine s_fnV C (j2 := jX11_remember) (cl := 11) (nf := 11) rfl rfl (by decide +kernel) rfl w_3_32 w_3_34 w_p1_1 w_1_1 w_3_35 (by decide +kernel) (fun _ _ _ _ _ h => f_X11_remember h) (fun _ _ _ _ _ h => r_X11_remember h) ?_
  refine s_aload_n (k := 0) C (by decide +kernel) ?_
  refine s_aload_n (k := 0) C (by decide +kernel) ?_
  refine s_getR C w_2_234 (by decide +kernel) rfl ?_
  refine s_iload_n (k := 1) C (by decide +kernel) ?_
  refine s_fnV2 C (j2 := jX10_comes) (cl := 10) (nf := 6) rfl rfl (by decide +kernel) rfl w_4_59 w_4_60 w_4_61 w_1_2 w_4_62 (by decide +kernel) (fun _ _ _ _ _ h => f_X10_comes h) (fun _ _ _ _ _ h => r_X10_comes h) ?_
  refine s_fnV C (j2 := jX11_kept) (cl := 11) (nf := 11) rfl rfl (by decide +kernel) rfl w_3_79 w_3_81 w_p1_2 w_1_1 w_3_82 (by decide +kernel) (fun _ _ _ _ _ h => f_X11_kept h) (fun _ _ _ _ _ h => r_X11_kept h) ?_
  exact s_iret C rfl (by decide +kernel)
theorem ms_X11_come {Z : Zt} {d : Nat} {S : Sh} {μ : Mi} {ρ : Mr} {Rp : RT} (a0 : Nat) (x1 : Int32) (h : ∀ G : Nat → PT, w_X11_come_0 (MS Z (d + 6)) G Rp [.ref a0, .int x1] [] S (0, 0) μ ρ) : MS Z (d + 7) jX11_come [.ref a0, .int x1] S μ ρ Rp :=
  MS_of [.ref a0, .int x1] (by decide +kernel) rfl rfl (Nat.le_of_ble_eq_true rfl) rfl (fun p e R s m args below meth c C => b_X11_come_0 C _ _ _ _ _ _ (h _ ))
def F_X11_come : FT2 := fun As S μ ρ k => match As with
  | [.ref a, .int i] => S.2 a = (11, 11) ∧ a = 1 ∧ ∃ (A : Rw) (u : Nat) (D : Nat → Rw), TC A u D S μ ρ ∧ Gd A ∧ ∀ (μ' : Mi) (ρ' : Mr), TP (aCome A i).1 A (aCome A i).2 u D S μ' ρ' → KT μ μ' → KR ρ ρ' → k (some (.int (aCome A i).1)) μ' ρ'
  | _ => False
theorem r_X11_come {As S μ ρ k} (h : F_X11_come As S μ ρ k) : ∃ a As', As = Value.ref a :: As' ∧ S.2 a = (11, 11) := by
  unfold F_X11_come at h
  split at h
  · exact ⟨_, _, rfl, h.1⟩
  · exact h.elim
set_option maxHeartbeats 1000000 in
theorem f_X11_come {Z : Zt} {d : Nat} {As : List Value} {S : Sh} {μ : Mi} {ρ : Mr} {Rp : RT} (h : F_X11_come As S μ ρ (fun r μ' ρ' => Rp r S μ' ρ')) : MS Z (d + 7) jX11_come As S μ ρ Rp := by
  unfold F_X11_come at h
  split at h
  · rename_i a i
    obtain ⟨h1, rfl, A, u, D, hT, hG, h⟩ := h
    refine ms_X11_come _ _ (fun G => ?_)
    have hT0 := hT.1
    have hr := hT0.2.1
    have i1 := (RR_W hT.2.1).2.1.1
    simp only [w_X11_come_0, tAload, tIload, nth, tGetI, tGetR, tConst, tLconst, tBin, tUn, tI2l, tAld, tAldR, tAlen, tIast, tBast, tZast, tAast, tIret, tZret, tVret, tAret, tIf, tIf2, tGoto, tIstore, tAstore, sset, tIinc, tDup, tDup2, tPop, tPutI, tPutZ, tPutR, tCallV, tCallS, popN, tFn, tCopy, tMax, tMin, tSw, swc, tRem, tObjI, Option.toList, List.nil_append, List.cons_append, okR, true_and, and_true, true_or, or_true, Nat.zero_le, ne_eq, not_false_eq_true, Nat.reduceEqDiff, tFn2, F_X11_remember, F_X10_comes, F_X11_kept, h1, hr, i1]
    refine ⟨A, u, D, hT, fun μ1 sp t1 rA rS d1 e6 hsp e7 hu o1 => ⟨A, rA, hG, fun μ2 ρ2 rB o2 f2 => ?_⟩⟩
    have eq : ∀ i, μ2 1 i = μ 1 i := fun i => by rw [o2 1 (by omega), o1 1 (by omega)]
    exact ⟨sp, u, by rw [eq]; exact e6, hsp, by rw [eq]; exact e7, hu, fun cv => h _ _ (Or.inl ⟨cv, TC_no t1 d1 e6 hsp e7 hu o1 rB o2 f2⟩) (KT_no hsp o1 o2) (KR_2 f2), fun cv => h _ _ (Or.inr ⟨cv, TC_yes t1 rS d1 hsp hu rB o2 f2⟩) (KT_yes hsp o1 o2) (KR_2 f2)⟩
  · exact h.elim
def w_X11_lose_0 (M : CT) (G : Nat → PT) (Rp : RT) : PT := tAload 0 <| tFn 1 F_X11_remember <| tAload 0 <| tAload 0 <| tGetR 11 11 0 <| tIload 1 <| tFn2 2 F_X10_loses <| tFn 2 F_X11_kept <| tIret Rp
set_option maxRecDepth 20000 in
theorem b_X11_lose_0 {Z : Zt} {d : Nat} {p : Program} {e : Env} {R : Room} {s : State} {m : MethodId} {args : Array Value} {below : List Frame} {meth : Method} {c : Code} {Rp : RT} (C : Cx Z (d + 4) jX11_lose RX11 p R s m args meth c) : Sd Z jX11_lose p e R s m args below meth c (MQ below (QcS Z Rp) args s 0 0 (fun a => Z.2.2.1 < a)) 0 (w_X11_lose_0 (MS Z (d + 4)) (Gw Z 2 p e R s m args below meth c (MQ below (QcS Z Rp) args s 0 0 (fun a => Z.2.2.1 < a))) Rp) := by
  unfold w_X11_lose_0
  refine s_aload_n (k := 0) C (by decide +kernel) ?_
  refine s_fnV C (j2 := jX11_remember) (cl := 11) (nf := 11) rfl rfl (by decide +kernel) rfl w_3_32 w_3_34 w_p1_1 w_1_1 w_3_35 (by decide +kernel) (fun _ _ _ _ _ h => f_X11_remember h) (fun _ _ _ _ _ h => r_X11_remember h) ?_
  refine s_aload_n (k := 0) C (by decide +kernel) ?_
  refine s_aload_n (k := 0) C (by decide +kernel) ?_
  refine s_getR C w_2_234 (by decide +kernel) rfl ?_
  refine s_iload_n (k := 1) C (by decide +kernel) ?_
  refine s_fnV2 C (j2 := jX10_loses) (cl := 10) (nf := 6) rfl rfl (by decide +kernel) rfl w_4_142 w_4_143 w_4_144 w_1_2 w_4_145 (by decide +kernel) (fun _ _ _ _ _ h => f_X10_loses h) (fun _ _ _ _ _ h => r_X10_loses h) ?_
  refine s_fnV C (j2 := jX11_kept) (cl := 11) (nf := 11) rfl rfl (by decide +kernel) rfl w_3_79 w_3_81 w_p1_2 w_1_1 w_3_82 (by decide +kernel) (fun _ _ _ _ _ h => f_X11_kept h) (fun _ _ _ _ _ h => r_X11_kept h) ?_
  exact s_iret C rfl (by decide +kernel)
theorem ms_X11_lose {Z : Zt} {d : Nat} {S : Sh} {μ : Mi} {ρ : Mr} {Rp : RT} (a0 : Nat) (x1 : Int32) (h : ∀ G : Nat → PT, w_X11_lose_0 (MS Z (d + 4)) G Rp [.ref a0, .int x1] [] S (0, 0) μ ρ) : MS Z (d + 5) jX11_lose [.ref a0, .int x1] S μ ρ Rp :=
  MS_of [.ref a0, .int x1] (by decide +kernel) rfl rfl (Nat.le_of_ble_eq_true rfl) rfl (fun p e R s m args below meth c C => b_X11_lose_0 C _ _ _ _ _ _ (h _ ))
def F_X11_lose : FT2 := fun As S μ ρ k => match As with
  | [.ref a, .int i] => S.2 a = (11, 11) ∧ a = 1 ∧ ∃ (A : Rw) (u : Nat) (D : Nat → Rw), TC A u D S μ ρ ∧ Gd A ∧ ∀ (μ' : Mi) (ρ' : Mr), TP (aLose A i).1 A (aLose A i).2 u D S μ' ρ' → KT μ μ' → KR ρ ρ' → k (some (.int (aLose A i).1)) μ' ρ'
  | _ => False
theorem r_X11_lose {As S μ ρ k} (h : F_X11_lose As S μ ρ k) : ∃ a As', As = Value.ref a :: As' ∧ S.2 a = (11, 11) := by
  unfold F_X11_lose at h
  split at h
  · exact ⟨_, _, rfl, h.1⟩
  · exact h.elim
set_option maxHeartbeats 1000000 in
theorem f_X11_lose {Z : Zt} {d : Nat} {As : List Value} {S : Sh} {μ : Mi} {ρ : Mr} {Rp : RT} (h : F_X11_lose As S μ ρ (fun r μ' ρ' => Rp r S μ' ρ')) : MS Z (d + 5) jX11_lose As S μ ρ Rp := by
  unfold F_X11_lose at h
  split at h
  · rename_i a i
    obtain ⟨h1, rfl, A, u, D, hT, hG, h⟩ := h
    refine ms_X11_lose _ _ (fun G => ?_)
    have hT0 := hT.1
    have hr := hT0.2.1
    have i1 := (RR_W hT.2.1).2.1.1
    simp only [w_X11_lose_0, tAload, tIload, nth, tGetI, tGetR, tConst, tLconst, tBin, tUn, tI2l, tAld, tAldR, tAlen, tIast, tBast, tZast, tAast, tIret, tZret, tVret, tAret, tIf, tIf2, tGoto, tIstore, tAstore, sset, tIinc, tDup, tDup2, tPop, tPutI, tPutZ, tPutR, tCallV, tCallS, popN, tFn, tCopy, tMax, tMin, tSw, swc, tRem, tObjI, Option.toList, List.nil_append, List.cons_append, okR, true_and, and_true, true_or, or_true, Nat.zero_le, ne_eq, not_false_eq_true, Nat.reduceEqDiff, tFn2, F_X11_remember, F_X10_loses, F_X11_kept, h1, hr, i1]
    refine ⟨A, u, D, hT, fun μ1 sp t1 rA rS d1 e6 hsp e7 hu o1 => ⟨A, rA, hG, fun μ2 ρ2 rB o2 f2 => ?_⟩⟩
    have eq : ∀ i, μ2 1 i = μ 1 i := fun i => by rw [o2 1 (by omega), o1 1 (by omega)]
    exact ⟨sp, u, by rw [eq]; exact e6, hsp, by rw [eq]; exact e7, hu, fun cv => h _ _ (Or.inl ⟨cv, TC_no t1 d1 e6 hsp e7 hu o1 rB o2 f2⟩) (KT_no hsp o1 o2) (KR_2 f2), fun cv => h _ _ (Or.inr ⟨cv, TC_yes t1 rS d1 hsp hu rB o2 f2⟩) (KT_yes hsp o1 o2) (KR_2 f2)⟩
  · exact h.elim
def w_X11_twice_0 (M : CT) (G : Nat → PT) (Rp : RT) : PT := tAload 0 <| tFn 1 F_X11_remember <| tAload 0 <| tAload 0 <| tGetR 11 11 0 <| tIload 1 <| tFn 2 F_X10_doubles <| tFn 2 F_X11_kept <| tIret Rp
set_option maxRecDepth 20000 in
theorem b_X11_twice_0 {Z : Zt} {d : Nat} {p : Program} {e : Env} {R : Room} {s : State} {m : MethodId} {args : Array Value} {below : List Frame} {meth : Method} {c : Code} {Rp : RT} (C : Cx Z (d + 4) jX11_twice RX11 p R s m args meth c) : Sd Z jX11_twice p e R s m args below meth c (MQ below (QcS Z Rp) args s 0 0 (fun a => Z.2.2.1 < a)) 0 (w_X11_twice_0 (MS Z (d + 4)) (Gw Z 2 p e R s m args below meth c (MQ below (QcS Z Rp) args s 0 0 (fun a => Z.2.2.1 < a))) Rp) := by
  unfold w_X11_twice_0
  refine s_aload_n (k := 0) C (by decide +kernel) ?_
  refine s_fnV C (j2 := jX11_remember) (cl := 11) (nf := 11) rfl rfl (by decide +kernel) rfl w_3_32 w_3_34 w_p1_1 w_1_1 w_3_35 (by decide +kernel) (fun _ _ _ _ _ h => f_X11_remember h) (fun _ _ _ _ _ h => r_X11_remember h) ?_
  refine s_aload_n (k := 0) C (by decide +kernel) ?_
  refine s_aload_n (k := 0) C (by decide +kernel) ?_
  refine s_getR C w_2_234 (by decide +kernel) rfl ?_
  refine s_iload_n (k := 1) C (by decide +kernel) ?_
  refine s_fnV C (j2 := jX10_doubles) (cl := 10) (nf := 6) rfl rfl (by decide +kernel) rfl w_4_150 w_4_151 w_4_152 w_1_2 w_4_153 (by decide +kernel) (fun _ _ _ _ _ h => f_X10_doubles h) (fun _ _ _ _ _ h => r_X10_doubles h) ?_
  refine s_fnV C (j2 := jX11_kept) (cl := 11) (nf := 11) rfl rfl (by decide +kernel) rfl w_3_79 w_3_81 w_p1_2 w_1_1 w_3_82 (by decide +kernel) (fun _ _ _ _ _ h => f_X11_kept h) (fun _ _ _ _ _ h => r_X11_kept h) ?_
  exact s_iret C rfl (by decide +kernel)
theorem ms_X11_twice {Z : Zt} {d : Nat} {S : Sh} {μ : Mi} {ρ : Mr} {Rp : RT} (a0 : Nat) (x1 : Int32) (h : ∀ G : Nat → PT, w_X11_twice_0 (MS Z (d + 4)) G Rp [.ref a0, .int x1] [] S (0, 0) μ ρ) : MS Z (d + 5) jX11_twice [.ref a0, .int x1] S μ ρ Rp :=
  MS_of [.ref a0, .int x1] (by decide +kernel) rfl rfl (Nat.le_of_ble_eq_true rfl) rfl (fun p e R s m args below meth c C => b_X11_twice_0 C _ _ _ _ _ _ (h _ ))
def F_X11_twice : FT2 := fun As S μ ρ k => match As with
  | [.ref a, .int i] => S.2 a = (11, 11) ∧ a = 1 ∧ ∃ (A : Rw) (u : Nat) (D : Nat → Rw), TC A u D S μ ρ ∧ Gd A ∧ ∀ (μ' : Mi) (ρ' : Mr), TP (aTwice A i).1 A (aTwice A i).2 u D S μ' ρ' → KT μ μ' → KR ρ ρ' → k (some (.int (aTwice A i).1)) μ' ρ'
  | _ => False
theorem r_X11_twice {As S μ ρ k} (h : F_X11_twice As S μ ρ k) : ∃ a As', As = Value.ref a :: As' ∧ S.2 a = (11, 11) := by
  unfold F_X11_twice at h
  split at h
  · exact ⟨_, _, rfl, h.1⟩
  · exact h.elim
set_option maxHeartbeats 1000000 in
theorem f_X11_twice {Z : Zt} {d : Nat} {As : List Value} {S : Sh} {μ : Mi} {ρ : Mr} {Rp : RT} (h : F_X11_twice As S μ ρ (fun r μ' ρ' => Rp r S μ' ρ')) : MS Z (d + 5) jX11_twice As S μ ρ Rp := by
  unfold F_X11_twice at h
  split at h
  · rename_i a i
    obtain ⟨h1, rfl, A, u, D, hT, hG, h⟩ := h
    refine ms_X11_twice _ _ (fun G => ?_)
    have hT0 := hT.1
    have hr := hT0.2.1
    have i1 := (RR_W hT.2.1).2.1.1
    simp only [w_X11_twice_0, tAload, tIload, nth, tGetI, tGetR, tConst, tLconst, tBin, tUn, tI2l, tAld, tAldR, tAlen, tIast, tBast, tZast, tAast, tIret, tZret, tVret, tAret, tIf, tIf2, tGoto, tIstore, tAstore, sset, tIinc, tDup, tDup2, tPop, tPutI, tPutZ, tPutR, tCallV, tCallS, popN, tFn, tCopy, tMax, tMin, tSw, swc, tRem, tObjI, Option.toList, List.nil_append, List.cons_append, okR, true_and, and_true, true_or, or_true, Nat.zero_le, ne_eq, not_false_eq_true, Nat.reduceEqDiff, tFn2, F_X11_remember, F_X10_doubles, F_X11_kept, h1, hr, i1]
    refine ⟨A, u, D, hT, fun μ1 sp t1 rA rS d1 e6 hsp e7 hu o1 => ⟨A, rA, hG, fun μ2 rB o2 => ?_⟩⟩
    have eq : ∀ i, μ2 1 i = μ 1 i := fun i => by rw [o2 1 (by omega), o1 1 (by omega)]
    exact ⟨sp, u, by rw [eq]; exact e6, hsp, by rw [eq]; exact e7, hu, fun cv => h _ _ (Or.inl ⟨cv, TC_no t1 d1 e6 hsp e7 hu o1 rB o2 (fun _ _ => rfl)⟩) (KT_no hsp o1 o2) (fun _ _ => rfl), fun cv => h _ _ (Or.inr ⟨cv, TC_yes t1 rS d1 hsp hu rB o2 (fun _ _ => rfl)⟩) (KT_yes hsp o1 o2) (fun _ _ => rfl)⟩
  · exact h.elim
def w_X11_settle_0 (M : CT) (G : Nat → PT) (Rp : RT) : PT := tAload 0 <| tFn 1 F_X11_remember <| tAload 0 <| tAload 0 <| tGetR 11 11 0 <| tIload 1 <| tFn2 2 F_X10_settles <| tFn 2 F_X11_kept <| tIret Rp
set_option maxRecDepth 20000 in
theorem b_X11_settle_0 {Z : Zt} {d : Nat} {p : Program} {e : Env} {R : Room} {s : State} {m : MethodId} {args : Array Value} {below : List Frame} {meth : Method} {c : Code} {Rp : RT} (C : Cx Z (d + 6) jX11_settle RX11 p R s m args meth c) : Sd Z jX11_settle p e R s m args below meth c (MQ below (QcS Z Rp) args s 0 0 (fun a => Z.2.2.1 < a)) 0 (w_X11_settle_0 (MS Z (d + 6)) (Gw Z 2 p e R s m args below meth c (MQ below (QcS Z Rp) args s 0 0 (fun a => Z.2.2.1 < a))) Rp) := by
  unfold w_X11_settle_0
  refine s_aload_n (k := 0) C (by decide +kernel) ?_
  refine s_fnV C (j2 := jX11_remember) (cl := 11) (nf := 11) rfl rfl (by decide +kernel) rfl w_3_32 w_3_34 w_p1_1 w_1_1 w_3_35 (by decide +kernel) (fun _ _ _ _ _ h => f_X11_remember h) (fun _ _ _ _ _ h => r_X11_remember h) ?_
  refine s_aload_n (k := 0) C (by decide +kernel) ?_
  refine s_aload_n (k := 0) C (by decide +kernel) ?_
  refine s_getR C w_2_234 (by decide +kernel) rfl ?_
  refine s_iload_n (k := 1) C (by decide +kernel) ?_
  refine s_fnV2 C (j2 := jX10_settles) (cl := 10) (nf := 6) rfl rfl (by decide +kernel) rfl w_4_159 w_4_160 w_4_161 w_1_2 w_4_162 (by decide +kernel) (fun _ _ _ _ _ h => f_X10_settles h) (fun _ _ _ _ _ h => r_X10_settles h) ?_
  refine s_fnV C (j2 := jX11_kept) (cl := 11) (nf := 11) rfl rfl (by decide +kernel) rfl w_3_79 w_3_81 w_p1_2 w_1_1 w_3_82 (by decide +kernel) (fun _ _ _ _ _ h => f_X11_kept h) (fun _ _ _ _ _ h => r_X11_kept h) ?_
  exact s_iret C rfl (by decide +kernel)
theorem ms_X11_settle {Z : Zt} {d : Nat} {S : Sh} {μ : Mi} {ρ : Mr} {Rp : RT} (a0 : Nat) (x1 : Int32) (h : ∀ G : Nat → PT, w_X11_settle_0 (MS Z (d + 6)) G Rp [.ref a0, .int x1] [] S (0, 0) μ ρ) : MS Z (d + 7) jX11_settle [.ref a0, .int x1] S μ ρ Rp :=
  MS_of [.ref a0, .int x1] (by decide +kernel) rfl rfl (Nat.le_of_ble_eq_true rfl) rfl (fun p e R s m args below meth c C => b_X11_settle_0 C _ _ _ _ _ _ (h _ ))
def F_X11_settle : FT2 := fun As S μ ρ k => match As with
  | [.ref a, .int n] => S.2 a = (11, 11) ∧ a = 1 ∧ ∃ (A : Rw) (u : Nat) (D : Nat → Rw), TC A u D S μ ρ ∧ Gd A ∧ ∀ (μ' : Mi) (ρ' : Mr), TP (aSettle A n).1 A (aSettle A n).2 u D S μ' ρ' → KT μ μ' → KR ρ ρ' → k (some (.int (aSettle A n).1)) μ' ρ'
  | _ => False
theorem r_X11_settle {As S μ ρ k} (h : F_X11_settle As S μ ρ k) : ∃ a As', As = Value.ref a :: As' ∧ S.2 a = (11, 11) := by
  unfold F_X11_settle at h
  split at h
  · exact ⟨_, _, rfl, h.1⟩
  · exact h.elim
set_option maxHeartbeats 1000000 in
theorem f_X11_settle {Z : Zt} {d : Nat} {As : List Value} {S : Sh} {μ : Mi} {ρ : Mr} {Rp : RT} (h : F_X11_settle As S μ ρ (fun r μ' ρ' => Rp r S μ' ρ')) : MS Z (d + 7) jX11_settle As S μ ρ Rp := by
  unfold F_X11_settle at h
  split at h
  · rename_i a n
    obtain ⟨h1, rfl, A, u, D, hT, hG, h⟩ := h
    refine ms_X11_settle _ _ (fun G => ?_)
    have hT0 := hT.1
    have hr := hT0.2.1
    have i1 := (RR_W hT.2.1).2.1.1
    simp only [w_X11_settle_0, tAload, tIload, nth, tGetI, tGetR, tConst, tLconst, tBin, tUn, tI2l, tAld, tAldR, tAlen, tIast, tBast, tZast, tAast, tIret, tZret, tVret, tAret, tIf, tIf2, tGoto, tIstore, tAstore, sset, tIinc, tDup, tDup2, tPop, tPutI, tPutZ, tPutR, tCallV, tCallS, popN, tFn, tCopy, tMax, tMin, tSw, swc, tRem, tObjI, Option.toList, List.nil_append, List.cons_append, okR, true_and, and_true, true_or, or_true, Nat.zero_le, ne_eq, not_false_eq_true, Nat.reduceEqDiff, tFn2, F_X11_remember, F_X10_settles, F_X11_kept, h1, hr, i1]
    refine ⟨A, u, D, hT, fun μ1 sp t1 rA rS d1 e6 hsp e7 hu o1 => ⟨A, rA, hG, fun μ2 ρ2 rB o2 f2 => ?_⟩⟩
    have eq : ∀ i, μ2 1 i = μ 1 i := fun i => by rw [o2 1 (by omega), o1 1 (by omega)]
    exact ⟨sp, u, by rw [eq]; exact e6, hsp, by rw [eq]; exact e7, hu, fun cv => h _ _ (Or.inl ⟨cv, TC_no t1 d1 e6 hsp e7 hu o1 rB o2 f2⟩) (KT_no hsp o1 o2) (KR_2 f2), fun cv => h _ _ (Or.inr ⟨cv, TC_yes t1 rS d1 hsp hu rB o2 f2⟩) (KT_yes hsp o1 o2) (KR_2 f2)⟩
  · exact h.elim
