/-! ===== the class: what is still to be done ===== -/
def fnK (B : Rw) (s : Nat) : Prop := B (514 * s + 3) = 2 ∧ agOK B s ∧ agR B s ∧ rg (B (514 * s + 1)) 1 200
theorem agR_of {A B : Rw} {s : Nat} (h : agR A s) (h5 : B (514 * s + 5) = A (514 * s + 5)) (h7 : B (514 * s + 7) = A (514 * s + 7)) (h4 : B (514 * s + 4) = A (514 * s + 4)) : agR B s := by
  unfold agR at *
  rw [h5, h7, h4]
  exact h
theorem fnK_feeds {B : Rw} {s : Nat} (hs : s < 5) (h : fnK B s) : fnK (qFeedsAll B s) s :=
  ⟨by rw [qFeedsAll_lo (by omega)]; exact h.1, agOK_feeds hs h.2.1, agR_of h.2.2.1 (qFeedsAll_lo (by omega)) (qFeedsAll_lo (by omega)) (qFeedsAll_lo (by omega)), by rw [qFeedsAll_lo (by omega)]; exact h.2.2.2⟩
theorem qAgr1_out {A : Rw} {s i : Nat} (hs : s < 5) (ha : agOK A s) (h1 : i < 514 * s + 16 ∨ 514 * s + 20 ≤ i) (h2 : i < 3830 ∨ 4310 ≤ i) (h3 : i ≠ 514 * s + 7) : qAgr1 A s i = A i :=
  qDoes_out hs ha (top_ok ha).1 (Or.inl (top_ok ha).2) h1 h2 h3
theorem qAgr1_7 {A : Rw} {s : Nat} (hs : s < 5) (ha : agOK A s) : qAgr1 A s (514 * s + 7) = if A (514 * s + 7) < nI (qTop A s (A (514 * s + 4)).toNatClampNeg) then nI (qTop A s (A (514 * s + 4)).toNatClampNeg) else A (514 * s + 7) :=
  qDoes_7 hs ha (top_ok ha).1 (Or.inl (top_ok ha).2)
theorem agR_1 {A : Rw} {s : Nat} (hs : s < 5) (ha : agOK A s) (hr : agR A s) : agR (qAgr1 A s) s := by
  unfold agR at *
  rw [qAgr1_7 hs ha, qAgr1_out hs ha (by omega) (by omega) (by omega), qAgr1_out hs ha (by omega) (by omega) (by omega)]
  have := (top_ok ha).2
  by_cases c : A (514 * s + 7) < nI (qTop A s (A (514 * s + 4)).toNatClampNeg)
  · rw [if_pos c]
    rw [Int32.lt_iff_toInt_lt] at c
    omega
  · rw [if_neg c]
    exact hr
theorem fnK_1 {B : Rw} {s : Nat} (hs : s < 5) (h : fnK B s) : fnK (qAgr1 B s) s :=
  ⟨by rw [qAgr1_out hs h.2.1 (by omega) (by omega) (by omega)]; exact h.1, agOK_1 hs h.2.1, agR_1 hs h.2.1 h.2.2.1, by rw [qAgr1_out hs h.2.1 (by omega) (by omega) (by omega)]; exact h.2.2.2⟩
theorem fnK_put {B : Rw} {s l : Nat} {t kd x y : Int32} (hs : s < 5) (h : fnK B s) (hl : B (514 * s + 4) = nI l) (hl1 : l < 120) (hk : kd = 1 ∨ kd = 2 → rg x 0 3) : fnK (qPut B s t kd x y) s := by
  have o := fun i a b => qPut_out (A := B) (s := s) (l := l) (tm := t) (kd := kd) (x := x) (y := y) (i := i) hl (by omega) a b
  refine ⟨by rw [o _ (by omega) (by omega)]; exact h.1, agOK_put hs h.2.1 (by rw [hl]; exact (rg_nI (by omega)).mpr ⟨by omega, by omega⟩) hk, ?_, by rw [o _ (by omega) (by omega)]; exact h.2.2.2⟩
  have := h.2.2.1
  unfold agR at *
  rw [hl, nI_toInt (by omega)] at this
  rw [o _ (by omega) (by omega), o _ (by omega) (by omega), qPut_4 hl, nI_toInt (by omega)]
  omega
theorem qMem_1 {A : Rw} {s : Nat} (hs : s < 5) (ha : agOK A s) : qMem (qAgr1 A s) s = qMem A s := by
  unfold qMem
  obtain ⟨l, l1, l2, -, l3⟩ := rg_ex ha.1.2.1
  rw [qAgr1_out hs ha (by omega) (by omega) (by omega), l1, nI_clamp l2]
  refine qCfg_c ?_ ?_ ?_ ?_ l (fun i i1 i2 => ?_) <;> exact qAgr1_out hs ha (by omega) (by omega) (by omega)
theorem lvs_1 {A : Rw} {s : Nat} (hs : s < 5) (ha : agOK A s) : lvs (qAgr1 A s) s ↔ leaves A s := by
  unfold lvs leaves
  rw [qMem_1 hs ha]
theorem qFin_fin {A : Rw} {s : Nat} (hs : s < 5) (ha : rg (A (514 * s + 4)) 0 120) : qFin (qFin A s) s = qFin A s := by
  by_cases c : (qMem A s).2.1 = 0 ∧ ¬ A (514 * s + 7) < (qMem A s).2.2.2 ∧ ¬ ((qMem A s).1 >>> (nI s &&& 31)) &&& 1 = 1
  · have e : qFin A s = qPlays A s 0 := by unfold qFin; rw [if_pos c]
    rw [e]
    unfold qFin
    split
    · have : ∀ B : Rw, B (514 * s + 3) = 0 → qPlays B s 0 = B := fun B hB => by unfold qPlays; rw [if_pos hB]
      exact this _ qPlays_3
    · rfl
  · have e : qFin A s = A := by unfold qFin; rw [if_neg c]
    rw [e, e]
def finQ (A : Rw) (s f : Nat) (o todo : Int32) (B : Rw) : Prop := (todo = 0 ∧ B = A) ∨ (todo = 1 ∧ B = qStands A s ∧ agOK A s ∧ agR A s ∧ rg (A (514 * s + 1)) 0 199) ∨ (todo = 2 ∧ B = qLeads A s ∧ agOK A s ∧ agR A s ∧ rg (A (514 * s + 1)) 1 200) ∨ (todo = 12 ∧ B = qAgr (qFeedsAll A s) s ∧ fnK A s) ∨ (todo = 24 ∧ B = qGoesOn A s f ∧ fnK A s ∧ ¬ s = f ∧ o = nI f ∧ f < 5)
theorem fnK_lead {A : Rw} {s : Nat} (hs : s < 5) (ha : agOK A s) (hr : agR A s) (ht : rg (A (514 * s + 1)) 1 200) : fnK (qLead1 A s) s := by
  have hld : ldOK A s := ⟨ha, by unfold agR at hr; omega, ht⟩
  obtain ⟨t, t1, t2, t3, t4⟩ := rg_ex ht
  have o := fun i a b c => qLead0_out (A := A) (s := s) (tm := t) (i := i) t1 t2 a b c
  have er : qLead0 A s (514 * s + 3) = 2 := by
    show nx5 _ s _ (514 * s + 3) = 2
    rw [nx5_out (by omega)]
    have : (qReadsNothing (qPlays A s 2) s) (514 * s + 1) = nI t := by rw [qRN_out (by omega), qPlays_out (by omega), t1]
    simp only [this, nI_clamp t2]
    rw [up_ne (by omega), qRN_out (by omega), qPlays_3]
  have k0 : fnK (qLead0 A s) s := ⟨er, agOK_lead0 hs hld, agR_of hr (o _ (by omega) (by omega) (by omega)) (o _ (by omega) (by omega) (by omega)) (o _ (by omega) (by omega) (by omega)), by rw [o _ (by omega) (by omega) (by omega)]; exact ht⟩
  rw [qLead1_eq]
  obtain ⟨l, l1, l2, -, l3⟩ := rg_ex k0.2.1.1.2.1
  split
  · rename_i c
    rw [l1, show (120 : Int32) = nI 120 from rfl, nI_ltI l2 (by decide)] at c
    exact fnK_put hs k0 l1 c (fun z => absurd z (by decide))
  · exact k0
def w_X10_finish_178 (M : CT) (G : Nat → PT) (Rp : RT) : PT := tVret Rp
def w_X10_finish_143 (M : CT) (G : Nat → PT) (Rp : RT) : PT := tIload 4 <| tConst 16 <| tBin (fun x y => x &&& y) <| tIf (fun x => x = 0) (w_X10_finish_178 M G Rp) <| tAload 1 <| tGetI 7 18 4 <| tConst 2 <| tIf2 (fun x y => x ≠ y) (w_X10_finish_178 M G Rp) <| tAload 1 <| tGetR 7 18 14 <| tIload 3 <| tAld 20 <| tAload 1 <| tGetI 7 18 7 <| tIf2 (fun x y => y < x) (w_X10_finish_178 M G Rp) <| tAload 0 <| tAload 1 <| tIload 3 <| tFn 3 F_X10_send <| w_X10_finish_178 M G Rp
def w_X10_finish_131 (M : CT) (G : Nat → PT) (Rp : RT) : PT := tIstore 5 <| tIload 5 <| tIstore 6 <| tIinc 7 1 <| tGoto (G 71)
def w_X10_finish_130 (M : CT) (G : Nat → PT) (Rp : RT) : PT := tConst 0 <| w_X10_finish_131 M G Rp
def w_X10_finish_113 (M : CT) (G : Nat → PT) (Rp : RT) : PT := tIload 6 <| tIf (fun x => x = 0) (w_X10_finish_130 M G Rp) <| tAload 0 <| tAload 1 <| tFn 2 F_X10_leavesJoint <| tIf (fun x => x = 0) (w_X10_finish_130 M G Rp) <| tConst 1 <| tGoto (w_X10_finish_131 M G Rp)
def w_X10_finish_98 (M : CT) (G : Nat → PT) (Rp : RT) : PT := tIload 6 <| tIf (fun x => x = 0) (w_X10_finish_113 M G Rp) <| tAload 0 <| tAload 1 <| tAload 0 <| tAload 1 <| tFn 2 F_X10_greatestShared <| tFn 3 F_X10_agreeUpTo <| w_X10_finish_113 M G Rp
def w_X10_finish_88 (M : CT) (G : Nat → PT) (Rp : RT) : PT := tIload 5 <| tIf (fun x => x = 0) (w_X10_finish_98 M G Rp) <| tAload 0 <| tAload 1 <| tFn 2 F_X10_sendToAll <| w_X10_finish_98 M G Rp
def w_X10_finish_71 (M : CT) (G : Nat → PT) (Rp : RT) : PT := tIload 7 <| tConst 8 <| tIf2 (fun x y => y ≤ x) (w_X10_finish_143 M G Rp) <| tIload 5 <| tIf (fun x => x ≠ 0) (w_X10_finish_88 M G Rp) <| tIload 6 <| tIf (fun x => x = 0) (w_X10_finish_143 M G Rp) <| w_X10_finish_88 M G Rp
def w_X10_finish_66 (M : CT) (G : Nat → PT) (Rp : RT) : PT := tIstore 6 <| tConst 0 <| tIstore 7 <| G 71
def w_X10_finish_65 (M : CT) (G : Nat → PT) (Rp : RT) : PT := tConst 0 <| w_X10_finish_66 M G Rp
def w_X10_finish_51 (M : CT) (G : Nat → PT) (Rp : RT) : PT := tIstore 5 <| tIload 4 <| tConst 8 <| tBin (fun x y => x &&& y) <| tIf (fun x => x = 0) (w_X10_finish_65 M G Rp) <| tConst 1 <| tGoto (w_X10_finish_66 M G Rp)
def w_X10_finish_50 (M : CT) (G : Nat → PT) (Rp : RT) : PT := tConst 0 <| w_X10_finish_51 M G Rp
def w_X10_finish_39 (M : CT) (G : Nat → PT) (Rp : RT) : PT := tIload 4 <| tConst 4 <| tBin (fun x y => x &&& y) <| tIf (fun x => x = 0) (w_X10_finish_50 M G Rp) <| tConst 1 <| tGoto (w_X10_finish_51 M G Rp)
def w_X10_finish_20 (M : CT) (G : Nat → PT) (Rp : RT) : PT := tIload 4 <| tConst 2 <| tBin (fun x y => x &&& y) <| tIf (fun x => x = 0) (w_X10_finish_39 M G Rp) <| tAload 0 <| tAload 1 <| tFn 2 F_X10_lead <| tIload 4 <| tConst 12 <| tBin (fun x y => x ||| y) <| tIstore 4 <| w_X10_finish_39 M G Rp
def w_X10_finish_0 (M : CT) (G : Nat → PT) (Rp : RT) : PT := tIload 2 <| tIstore 4 <| tIload 4 <| tConst 1 <| tBin (fun x y => x &&& y) <| tIf (fun x => x = 0) (w_X10_finish_20 M G Rp) <| tIload 4 <| tAload 0 <| tAload 1 <| tFn 2 F_X10_stand <| tBin (fun x y => x ||| y) <| tIstore 4 <| w_X10_finish_20 M G Rp
set_option maxRecDepth 20000 in
theorem b_X10_finish_178 {Z : Zt} {d : Nat} {p : Program} {e : Env} {R : Room} {s : State} {m : MethodId} {args : Array Value} {below : List Frame} {meth : Method} {c : Code} {Rp : RT} (C : Cx Z (d + 3) jX10_finish RX10 p R s m args meth c) : Sd Z jX10_finish p e R s m args below meth c (MQ below (QcS Z Rp) args s 0 0 (fun a => Z.2.2.1 < a)) 178 (w_X10_finish_178 (MS Z (d + 3)) (Gw Z 8 p e R s m args below meth c (MQ below (QcS Z Rp) args s 0 0 (fun a => Z.2.2.1 < a))) Rp) := by
  unfold w_X10_finish_178
  exact s_vret C rfl (by decide +kernel)
set_option maxRecDepth 20000 in
theorem b_X10_finish_143 {Z : Zt} {d : Nat} {p : Program} {e : Env} {R : Room} {s : State} {m : MethodId} {args : Array Value} {below : List Frame} {meth : Method} {c : Code} {Rp : RT} (C : Cx Z (d + 3) jX10_finish RX10 p R s m args meth c) : Sd Z jX10_finish p e R s m args below meth c (MQ below (QcS Z Rp) args s 0 0 (fun a => Z.2.2.1 < a)) 143 (w_X10_finish_143 (MS Z (d + 3)) (Gw Z 8 p e R s m args below meth c (MQ below (QcS Z Rp) args s 0 0 (fun a => Z.2.2.1 < a))) Rp) := by
  unfold w_X10_finish_143
  refine s_iload (k := 4) C (by decide +kernel) ?_
  refine s_bipush (n := 16) C (by decide +kernel) (by decide) ?_
  refine s_iand C (by decide +kernel) ?_
  refine s_if_eq (off := 30) (tgt := 178) C (by decide +kernel) (by decide) (b_X10_finish_178 C) ?_
  refine s_aload_n (k := 1) C (by decide +kernel) ?_
  refine s_getI C w_1_234 (by decide +kernel) rfl ?_
  refine s_iconst (n := 2) C (by decide +kernel) (by decide) ?_
  refine s_icmp_ne (off := 22) (tgt := 178) C (by decide +kernel) (by decide) (b_X10_finish_178 C) ?_
  refine s_aload_n (k := 1) C (by decide +kernel) ?_
  refine s_getR C w_2_28 (by decide +kernel) rfl ?_
  refine s_iload_n (k := 3) C (by decide +kernel) ?_
  refine s_iald C (by decide +kernel) ?_
  refine s_aload_n (k := 1) C (by decide +kernel) ?_
  refine s_getI C w_2_5 (by decide +kernel) rfl ?_
  refine s_icmp_gt (off := 9) (tgt := 178) C (by decide +kernel) (by decide) (b_X10_finish_178 C) ?_
  refine s_aload_n (k := 0) C (by decide +kernel) ?_
  refine s_aload_n (k := 1) C (by decide +kernel) ?_
  refine s_iload_n (k := 3) C (by decide +kernel) ?_
  refine s_fnV C (j2 := jX10_send) (cl := 10) (nf := 6) rfl rfl (by decide +kernel) rfl w_3_162 w_3_163 w_3_164 w_1_2 w_3_165 (by decide +kernel) (fun _ _ _ _ _ h => f_X10_send h) (fun _ _ _ _ _ h => r_X10_send h) ?_
  exact (b_X10_finish_178 C)
set_option maxRecDepth 20000 in
theorem b_X10_finish_131 {Z : Zt} {d : Nat} {p : Program} {e : Env} {R : Room} {s : State} {m : MethodId} {args : Array Value} {below : List Frame} {meth : Method} {c : Code} {Rp : RT} (C : Cx Z (d + 3) jX10_finish RX10 p R s m args meth c) : Sd Z jX10_finish p e R s m args below meth c (MQ below (QcS Z Rp) args s 0 0 (fun a => Z.2.2.1 < a)) 131 (w_X10_finish_131 (MS Z (d + 3)) (Gw Z 8 p e R s m args below meth c (MQ below (QcS Z Rp) args s 0 0 (fun a => Z.2.2.1 < a))) Rp) := by
  unfold w_X10_finish_131
  refine s_istore (k := 5) C (by decide +kernel) ?_
  refine s_iload (k := 5) C (by decide +kernel) ?_
  refine s_istore (k := 6) C (by decide +kernel) ?_
  refine s_iinc (n := 1) C (by decide +kernel) (by decide) ?_
  exact s_goto (off := (-69)) (tgt := 71) C (by decide +kernel) (by decide) (fun _ _ _ _ _ _ h => h)
set_option maxRecDepth 20000 in
theorem b_X10_finish_130 {Z : Zt} {d : Nat} {p : Program} {e : Env} {R : Room} {s : State} {m : MethodId} {args : Array Value} {below : List Frame} {meth : Method} {c : Code} {Rp : RT} (C : Cx Z (d + 3) jX10_finish RX10 p R s m args meth c) : Sd Z jX10_finish p e R s m args below meth c (MQ below (QcS Z Rp) args s 0 0 (fun a => Z.2.2.1 < a)) 130 (w_X10_finish_130 (MS Z (d + 3)) (Gw Z 8 p e R s m args below meth c (MQ below (QcS Z Rp) args s 0 0 (fun a => Z.2.2.1 < a))) Rp) := by
  unfold w_X10_finish_130
  refine s_iconst (n := 0) C (by decide +kernel) (by decide) ?_
  exact (b_X10_finish_131 C)
set_option maxRecDepth 20000 in
theorem b_X10_finish_113 {Z : Zt} {d : Nat} {p : Program} {e : Env} {R : Room} {s : State} {m : MethodId} {args : Array Value} {below : List Frame} {meth : Method} {c : Code} {Rp : RT} (C : Cx Z (d + 3) jX10_finish RX10 p R s m args meth c) : Sd Z jX10_finish p e R s m args below meth c (MQ below (QcS Z Rp) args s 0 0 (fun a => Z.2.2.1 < a)) 113 (w_X10_finish_113 (MS Z (d + 3)) (Gw Z 8 p e R s m args below meth c (MQ below (QcS Z Rp) args s 0 0 (fun a => Z.2.2.1 < a))) Rp) := by
  unfold w_X10_finish_113
  refine s_iload (k := 6) C (by decide +kernel) ?_
  refine s_if_eq (off := 15) (tgt := 130) C (by decide +kernel) (by decide) (b_X10_finish_130 C) ?_
  refine s_aload_n (k := 0) C (by decide +kernel) ?_
  refine s_aload_n (k := 1) C (by decide +kernel) ?_
  refine s_fnV C (j2 := jX10_leavesJoint) (cl := 10) (nf := 6) rfl rfl (by decide +kernel) rfl w_3_186 w_3_188 w_p1_10 w_1_2 w_3_189 (by decide +kernel) (fun _ _ _ _ _ h => f_X10_leavesJoint h) (fun _ _ _ _ _ h => r_X10_leavesJoint h) ?_
  refine s_if_eq (off := 7) (tgt := 130) C (by decide +kernel) (by decide) (b_X10_finish_130 C) ?_
  refine s_iconst (n := 1) C (by decide +kernel) (by decide) ?_
  exact s_goto (off := 4) (tgt := 131) C (by decide +kernel) (by decide) (b_X10_finish_131 C)
set_option maxRecDepth 20000 in
theorem b_X10_finish_98 {Z : Zt} {d : Nat} {p : Program} {e : Env} {R : Room} {s : State} {m : MethodId} {args : Array Value} {below : List Frame} {meth : Method} {c : Code} {Rp : RT} (C : Cx Z (d + 3) jX10_finish RX10 p R s m args meth c) : Sd Z jX10_finish p e R s m args below meth c (MQ below (QcS Z Rp) args s 0 0 (fun a => Z.2.2.1 < a)) 98 (w_X10_finish_98 (MS Z (d + 3)) (Gw Z 8 p e R s m args below meth c (MQ below (QcS Z Rp) args s 0 0 (fun a => Z.2.2.1 < a))) Rp) := by
  unfold w_X10_finish_98
  refine s_iload (k := 6) C (by decide +kernel) ?_
  refine s_if_eq (off := 13) (tgt := 113) C (by decide +kernel) (by decide) (b_X10_finish_113 C) ?_
  refine s_aload_n (k := 0) C (by decide +kernel) ?_
  refine s_aload_n (k := 1) C (by decide +kernel) ?_
  refine s_aload_n (k := 0) C (by decide +kernel) ?_
  refine s_aload_n (k := 1) C (by decide +kernel) ?_
  refine s_fnV C (j2 := jX10_greatestShared) (cl := 10) (nf := 6) rfl rfl (by decide +kernel) rfl w_3_170 w_3_172 w_p1_8 w_1_2 w_3_173 (by decide +kernel) (fun _ _ _ _ _ h => f_X10_greatestShared h) (fun _ _ _ _ _ h => r_X10_greatestShared h) ?_
  refine s_fnV C (j2 := jX10_agreeUpTo) (cl := 10) (nf := 6) rfl rfl (by decide +kernel) rfl w_3_177 w_3_179 w_p1_9 w_1_2 w_3_180 (by decide +kernel) (fun _ _ _ _ _ h => f_X10_agreeUpTo h) (fun _ _ _ _ _ h => r_X10_agreeUpTo h) ?_
  exact (b_X10_finish_113 C)
set_option maxRecDepth 20000 in
theorem b_X10_finish_88 {Z : Zt} {d : Nat} {p : Program} {e : Env} {R : Room} {s : State} {m : MethodId} {args : Array Value} {below : List Frame} {meth : Method} {c : Code} {Rp : RT} (C : Cx Z (d + 3) jX10_finish RX10 p R s m args meth c) : Sd Z jX10_finish p e R s m args below meth c (MQ below (QcS Z Rp) args s 0 0 (fun a => Z.2.2.1 < a)) 88 (w_X10_finish_88 (MS Z (d + 3)) (Gw Z 8 p e R s m args below meth c (MQ below (QcS Z Rp) args s 0 0 (fun a => Z.2.2.1 < a))) Rp) := by
  unfold w_X10_finish_88
  refine s_iload (k := 5) C (by decide +kernel) ?_
  refine s_if_eq (off := 8) (tgt := 98) C (by decide +kernel) (by decide) (b_X10_finish_98 C) ?_
  refine s_aload_n (k := 0) C (by decide +kernel) ?_
  refine s_aload_n (k := 1) C (by decide +kernel) ?_
  refine s_fnV C (j2 := jX10_sendToAll) (cl := 10) (nf := 6) rfl rfl (by decide +kernel) rfl w_3_158 w_3_159 w_3_160 w_1_2 w_3_161 (by decide +kernel) (fun _ _ _ _ _ h => f_X10_sendToAll h) (fun _ _ _ _ _ h => r_X10_sendToAll h) ?_
  exact (b_X10_finish_98 C)
set_option maxRecDepth 20000 in
theorem b_X10_finish_71 {Z : Zt} {d : Nat} {p : Program} {e : Env} {R : Room} {s : State} {m : MethodId} {args : Array Value} {below : List Frame} {meth : Method} {c : Code} {Rp : RT} (C : Cx Z (d + 3) jX10_finish RX10 p R s m args meth c) : Sd Z jX10_finish p e R s m args below meth c (MQ below (QcS Z Rp) args s 0 0 (fun a => Z.2.2.1 < a)) 71 (w_X10_finish_71 (MS Z (d + 3)) (Gw Z 8 p e R s m args below meth c (MQ below (QcS Z Rp) args s 0 0 (fun a => Z.2.2.1 < a))) Rp) := by
  unfold w_X10_finish_71
  refine s_iload (k := 7) C (by decide +kernel) ?_
  refine s_bipush (n := 8) C (by decide +kernel) (by decide) ?_
  refine s_icmp_ge (off := 68) (tgt := 143) C (by decide +kernel) (by decide) (b_X10_finish_143 C) ?_
  refine s_iload (k := 5) C (by decide +kernel) ?_
  refine s_if_ne (off := 8) (tgt := 88) C (by decide +kernel) (by decide) (b_X10_finish_88 C) ?_
  refine s_iload (k := 6) C (by decide +kernel) ?_
  refine s_if_eq (off := 58) (tgt := 143) C (by decide +kernel) (by decide) (b_X10_finish_143 C) ?_
  exact (b_X10_finish_88 C)
set_option maxRecDepth 20000 in
theorem b_X10_finish_66 {Z : Zt} {d : Nat} {p : Program} {e : Env} {R : Room} {s : State} {m : MethodId} {args : Array Value} {below : List Frame} {meth : Method} {c : Code} {Rp : RT} (C : Cx Z (d + 3) jX10_finish RX10 p R s m args meth c) : Sd Z jX10_finish p e R s m args below meth c (MQ below (QcS Z Rp) args s 0 0 (fun a => Z.2.2.1 < a)) 66 (w_X10_finish_66 (MS Z (d + 3)) (Gw Z 8 p e R s m args below meth c (MQ below (QcS Z Rp) args s 0 0 (fun a => Z.2.2.1 < a))) Rp) := by
  unfold w_X10_finish_66
  refine s_istore (k := 6) C (by decide +kernel) ?_
  refine s_iconst (n := 0) C (by decide +kernel) (by decide) ?_
  refine s_istore (k := 7) C (by decide +kernel) ?_
  exact (fun _ _ _ _ _ _ h => h)
set_option maxRecDepth 20000 in
theorem b_X10_finish_65 {Z : Zt} {d : Nat} {p : Program} {e : Env} {R : Room} {s : State} {m : MethodId} {args : Array Value} {below : List Frame} {meth : Method} {c : Code} {Rp : RT} (C : Cx Z (d + 3) jX10_finish RX10 p R s m args meth c) : Sd Z jX10_finish p e R s m args below meth c (MQ below (QcS Z Rp) args s 0 0 (fun a => Z.2.2.1 < a)) 65 (w_X10_finish_65 (MS Z (d + 3)) (Gw Z 8 p e R s m args below meth c (MQ below (QcS Z Rp) args s 0 0 (fun a => Z.2.2.1 < a))) Rp) := by
  unfold w_X10_finish_65
  refine s_iconst (n := 0) C (by decide +kernel) (by decide) ?_
  exact (b_X10_finish_66 C)
set_option maxRecDepth 20000 in
theorem b_X10_finish_51 {Z : Zt} {d : Nat} {p : Program} {e : Env} {R : Room} {s : State} {m : MethodId} {args : Array Value} {below : List Frame} {meth : Method} {c : Code} {Rp : RT} (C : Cx Z (d + 3) jX10_finish RX10 p R s m args meth c) : Sd Z jX10_finish p e R s m args below meth c (MQ below (QcS Z Rp) args s 0 0 (fun a => Z.2.2.1 < a)) 51 (w_X10_finish_51 (MS Z (d + 3)) (Gw Z 8 p e R s m args below meth c (MQ below (QcS Z Rp) args s 0 0 (fun a => Z.2.2.1 < a))) Rp) := by
  unfold w_X10_finish_51
  refine s_istore (k := 5) C (by decide +kernel) ?_
  refine s_iload (k := 4) C (by decide +kernel) ?_
  refine s_bipush (n := 8) C (by decide +kernel) (by decide) ?_
  refine s_iand C (by decide +kernel) ?_
  refine s_if_eq (off := 7) (tgt := 65) C (by decide +kernel) (by decide) (b_X10_finish_65 C) ?_
  refine s_iconst (n := 1) C (by decide +kernel) (by decide) ?_
  exact s_goto (off := 4) (tgt := 66) C (by decide +kernel) (by decide) (b_X10_finish_66 C)
set_option maxRecDepth 20000 in
theorem b_X10_finish_50 {Z : Zt} {d : Nat} {p : Program} {e : Env} {R : Room} {s : State} {m : MethodId} {args : Array Value} {below : List Frame} {meth : Method} {c : Code} {Rp : RT} (C : Cx Z (d + 3) jX10_finish RX10 p R s m args meth c) : Sd Z jX10_finish p e R s m args below meth c (MQ below (QcS Z Rp) args s 0 0 (fun a => Z.2.2.1 < a)) 50 (w_X10_finish_50 (MS Z (d + 3)) (Gw Z 8 p e R s m args below meth c (MQ below (QcS Z Rp) args s 0 0 (fun a => Z.2.2.1 < a))) Rp) := by
  unfold w_X10_finish_50
  refine s_iconst (n := 0) C (by decide +kernel) (by decide) ?_
  exact (b_X10_finish_51 C)
set_option maxRecDepth 20000 in
theorem b_X10_finish_39 {Z : Zt} {d : Nat} {p : Program} {e : Env} {R : Room} {s : State} {m : MethodId} {args : Array Value} {below : List Frame} {meth : Method} {c : Code} {Rp : RT} (C : Cx Z (d + 3) jX10_finish RX10 p R s m args meth c) : Sd Z jX10_finish p e R s m args below meth c (MQ below (QcS Z Rp) args s 0 0 (fun a => Z.2.2.1 < a)) 39 (w_X10_finish_39 (MS Z (d + 3)) (Gw Z 8 p e R s m args below meth c (MQ below (QcS Z Rp) args s 0 0 (fun a => Z.2.2.1 < a))) Rp) := by
  unfold w_X10_finish_39
  refine s_iload (k := 4) C (by decide +kernel) ?_
  refine s_iconst (n := 4) C (by decide +kernel) (by decide) ?_
  refine s_iand C (by decide +kernel) ?_
  refine s_if_eq (off := 7) (tgt := 50) C (by decide +kernel) (by decide) (b_X10_finish_50 C) ?_
  refine s_iconst (n := 1) C (by decide +kernel) (by decide) ?_
  exact s_goto (off := 4) (tgt := 51) C (by decide +kernel) (by decide) (b_X10_finish_51 C)
set_option maxRecDepth 20000 in
theorem b_X10_finish_20 {Z : Zt} {d : Nat} {p : Program} {e : Env} {R : Room} {s : State} {m : MethodId} {args : Array Value} {below : List Frame} {meth : Method} {c : Code} {Rp : RT} (C : Cx Z (d + 3) jX10_finish RX10 p R s m args meth c) : Sd Z jX10_finish p e R s m args below meth c (MQ below (QcS Z Rp) args s 0 0 (fun a => Z.2.2.1 < a)) 20 (w_X10_finish_20 (MS Z (d + 3)) (Gw Z 8 p e R s m args below meth c (MQ below (QcS Z Rp) args s 0 0 (fun a => Z.2.2.1 < a))) Rp) := by
  unfold w_X10_finish_20
  refine s_iload (k := 4) C (by decide +kernel) ?_
  refine s_iconst (n := 2) C (by decide +kernel) (by decide) ?_
  refine s_iand C (by decide +kernel) ?_
  refine s_if_eq (off := 15) (tgt := 39) C (by decide +kernel) (by decide) (b_X10_finish_39 C) ?_
  refine s_aload_n (k := 0) C (by decide +kernel) ?_
  refine s_aload_n (k := 1) C (by decide +kernel) ?_
  refine s_fnV C (j2 := jX10_lead) (cl := 10) (nf := 6) rfl rfl (by decide +kernel) rfl w_3_146 w_3_148 w_p1_7 w_1_2 w_3_149 (by decide +kernel) (fun _ _ _ _ _ h => f_X10_lead h) (fun _ _ _ _ _ h => r_X10_lead h) ?_
  refine s_iload (k := 4) C (by decide +kernel) ?_
  refine s_bipush (n := 12) C (by decide +kernel) (by decide) ?_
  refine s_ior C (by decide +kernel) ?_
  refine s_istore (k := 4) C (by decide +kernel) ?_
  exact (b_X10_finish_39 C)
set_option maxRecDepth 20000 in
theorem b_X10_finish_0 {Z : Zt} {d : Nat} {p : Program} {e : Env} {R : Room} {s : State} {m : MethodId} {args : Array Value} {below : List Frame} {meth : Method} {c : Code} {Rp : RT} (C : Cx Z (d + 3) jX10_finish RX10 p R s m args meth c) : Sd Z jX10_finish p e R s m args below meth c (MQ below (QcS Z Rp) args s 0 0 (fun a => Z.2.2.1 < a)) 0 (w_X10_finish_0 (MS Z (d + 3)) (Gw Z 8 p e R s m args below meth c (MQ below (QcS Z Rp) args s 0 0 (fun a => Z.2.2.1 < a))) Rp) := by
  unfold w_X10_finish_0
  refine s_iload_n (k := 2) C (by decide +kernel) ?_
  refine s_istore (k := 4) C (by decide +kernel) ?_
  refine s_iload (k := 4) C (by decide +kernel) ?_
  refine s_iconst (n := 1) C (by decide +kernel) (by decide) ?_
  refine s_iand C (by decide +kernel) ?_
  refine s_if_eq (off := 13) (tgt := 20) C (by decide +kernel) (by decide) (b_X10_finish_20 C) ?_
  refine s_iload (k := 4) C (by decide +kernel) ?_
  refine s_aload_n (k := 0) C (by decide +kernel) ?_
  refine s_aload_n (k := 1) C (by decide +kernel) ?_
  refine s_fnV C (j2 := jX10_stand) (cl := 10) (nf := 6) rfl rfl (by decide +kernel) rfl w_3_142 w_3_144 w_p1_6 w_1_2 w_3_145 (by decide +kernel) (fun _ _ _ _ _ h => f_X10_stand h) (fun _ _ _ _ _ h => r_X10_stand h) ?_
  refine s_ior C (by decide +kernel) ?_
  refine s_istore (k := 4) C (by decide +kernel) ?_
  exact (b_X10_finish_20 C)
theorem ms_X10_finish {Z : Zt} {d : Nat} {S : Sh} {μ : Mi} {ρ : Mr} {Rp : RT} (a0 : Nat) (a1 : Nat) (x2 : Int32) (x3 : Int32) (h : ∀ G : Nat → PT, (∀ (L st : List Value) (S : Sh) (q : Nat × Nat) (μ : Mi) (ρ : Mr), w_X10_finish_71 (MS Z (d + 3)) G Rp L st S q μ ρ → G 71 L st S q μ ρ) → w_X10_finish_0 (MS Z (d + 3)) G Rp [.ref a0, .ref a1, .int x2, .int x3, .null, .null, .null, .null] [] S (0, 0) μ ρ) : MS Z (d + 4) jX10_finish [.ref a0, .ref a1, .int x2, .int x3] S μ ρ Rp :=
  MS_of [.ref a0, .ref a1, .int x2, .int x3, .null, .null, .null, .null] (by decide +kernel) rfl rfl (Nat.le_of_ble_eq_true rfl) rfl (fun p e R s m args below meth c C => b_X10_finish_0 C _ _ _ _ _ _ (h _ (b_X10_finish_71 C)))
def F_X10_finish : FT := fun As S μ ρ k => match As with
  | [.ref a, .ref x, .int todo, .int o] => S.2 a = (10, 6) ∧ ∃ (s f : Nat) (A B : Rw), s < 5 ∧ x = a + 130 + 8 * s ∧ RR A a S μ ρ ∧ finQ A s f o todo B ∧ ∀ μ', RR B a S μ' ρ → Ot a μ μ' → k none μ'
  | _ => False
theorem r_X10_finish {As S μ ρ k} (h : F_X10_finish As S μ ρ k) : ∃ a As', As = Value.ref a :: As' ∧ S.2 a = (10, 6) := by
  unfold F_X10_finish at h
  split at h
  · exact ⟨_, _, rfl, h.1⟩
  · exact h.elim
set_option maxHeartbeats 1000000 in
theorem f_X10_finish {Z : Zt} {d : Nat} {As : List Value} {S : Sh} {μ : Mi} {ρ : Mr} {Rp : RT} (h : F_X10_finish As S μ ρ (fun r μ' => Rp r S μ' ρ)) : MS Z (d + 4) jX10_finish As S μ ρ Rp := by
  unfold F_X10_finish at h
  split at h
  · rename_i a x todo o
    obtain ⟨a, hNa⟩ : ∃ n : Nat, n = a := ⟨a, rfl⟩
    subst hNa
    obtain ⟨h1, s, f, A, B, hs, rfl, hR, hq, h⟩ := h
    refine ms_X10_finish _ _ _ _ (fun G g71 => ?_)
    have hW := RR_W hR
    obtain ⟨x1, x2, -⟩ := W_st hW hs
    have x2' := x2
    unfold StS at x2
    have ta : ∀ (left : Int32) (v5 v6 v7 : Value) (ν : Mi), left &&& 16 = 0 → RR B a S ν ρ → Ot a μ ν → w_X10_finish_143 (MS Z (d + 3)) G Rp [.ref a, .ref (a + 130 + 8 * s), .int todo, .int o, .int left, v5, v6, v7] [] S (0, 0) ν ρ := by
      intro left v5 v6 v7 ν c r oo
      simp only [w_X10_finish_143, w_X10_finish_178, tAload, tIload, nth, tGetI, tGetR, tConst, tLconst, tBin, tUn, tI2l, tAld, tAldR, tAlen, tIast, tBast, tZast, tAast, tIret, tZret, tVret, tAret, tIf, tIf2, tGoto, tIstore, tAstore, sset, tIinc, tDup, tDup2, tPop, tPutI, tPutZ, tPutR, tCallV, tCallS, popN, tFn, tCopy, tMax, tMin, tSw, swc, tRem, tObjI, Option.toList, List.nil_append, List.cons_append, okR, true_and, and_true, true_or, or_true, Nat.zero_le, ne_eq, not_false_eq_true, Nat.reduceEqDiff, c]
      exact ⟨fun _ => h ν r oo, fun z => absurd trivial z⟩
    have tb : ∀ (v5 v6 v7 : Value) (C : Rw) (ν : Mi), RR C a S ν ρ → Ot a μ ν → (∀ t, t < 5 → rg (C (514 * s + 24 + t)) 0 121) → ¬ s = f → o = nI f → f < 5 → B = (if C (514 * s + 3) = 2 ∧ ¬ C (514 * s + 4) < C (514 * s + 24 + f) then qFeed C s f else C) → w_X10_finish_143 (MS Z (d + 3)) G Rp [.ref a, .ref (a + 130 + 8 * s), .int todo, .int o, .int 24, v5, v6, v7] [] S (0, 0) ν ρ := by
      intro v5 v6 v7 C ν r oo hn hsf hof hf hB
      subst hof
      have hSt := RR_st r hs
      have e4 : ν (a + 130 + 8 * s) 4 = C (514 * s + 3) := hSt.1.2.2.2.2.1
      have e7 : ν (a + 130 + 8 * s) 7 = C (514 * s + 4) := hSt.1.2.2.2.2.2.2.2.1
      simp only [w_X10_finish_143, w_X10_finish_178, tAload, tIload, nth, tGetI, tGetR, tConst, tLconst, tBin, tUn, tI2l, tAld, tAldR, tAlen, tIast, tBast, tZast, tAast, tIret, tZret, tVret, tAret, tIf, tIf2, tGoto, tIstore, tAstore, sset, tIinc, tDup, tDup2, tPop, tPutI, tPutZ, tPutR, tCallV, tCallS, popN, tFn, tCopy, tMax, tMin, tSw, swc, tRem, tObjI, Option.toList, List.nil_append, List.cons_append, okR, true_and, and_true, true_or, or_true, Nat.zero_le, ne_eq, not_false_eq_true, Nat.reduceEqDiff, F_X10_send, h1, x1, x2, e4, e7]
      refine ⟨fun z => absurd z (by decide), fun _ => ⟨fun c => ?_, fun c => ?_⟩⟩
      · rw [if_neg (fun z => c z.1)] at hB
        subst hB
        exact h ν r oo
      · have c' := Decidable.not_not.mp c
        have hN := r.2 s hs c' f hf
        rw [nI_clamp (by omega), hN.1]
        refine ⟨inb_nI hf (by decide), fun c2 => ?_, fun c2 => ⟨s, f, C, hs, rfl, rfl, hf, hsf, r, c', hn f hf, fun μ' q1 q2 => ?_⟩⟩
        · rw [if_neg (fun z => z.2 c2)] at hB
          subst hB
          exact h ν r oo
        · rw [if_pos ⟨c', c2⟩] at hB
          subst hB
          exact h μ' q1 (ot_trans oo (Fm_Ot q2))
    have stop : ∀ (left : Int32) (i : Nat) (ν : Mi), i < 8 → (∀ v5 v6 v7 : Value, w_X10_finish_143 (MS Z (d + 3)) G Rp [.ref a, .ref (a + 130 + 8 * s), .int todo, .int o, .int left, v5, v6, v7] [] S (0, 0) ν ρ) → G 71 [.ref a, .ref (a + 130 + 8 * s), .int todo, .int o, .int left, .int 0, .int 0, .int (nI i)] [] S (0, 0) ν ρ := by
      intro left i ν hi hh
      apply g71
      simp only [w_X10_finish_71, tAload, tIload, nth, tGetI, tGetR, tConst, tLconst, tBin, tUn, tI2l, tAld, tAldR, tAlen, tIast, tBast, tZast, tAast, tIret, tZret, tVret, tAret, tIf, tIf2, tGoto, tIstore, tAstore, sset, tIinc, tDup, tDup2, tPop, tPutI, tPutZ, tPutR, tCallV, tCallS, popN, tFn, tCopy, tMax, tMin, tSw, swc, tRem, tObjI, Option.toList, List.nil_append, List.cons_append, okR, true_and, and_true, true_or, or_true, Nat.zero_le, ne_eq, not_false_eq_true, Nat.reduceEqDiff]
      exact ⟨fun _ => hh _ _ _, fun _ => ⟨fun z => absurd trivial z, fun _ => ⟨fun _ => hh _ _ _, fun z => absurd trivial z⟩⟩⟩
    have it : ∀ (left : Int32) (i : Nat) (C : Rw) (ν : Mi) (sn : Int32), i < 8 → (sn = 0 ∨ sn = 1) → RR C a S ν ρ → Ot a μ ν → fnK C s →
        (lvs (qAgr1 (if sn = 1 then qFeedsAll C s else C) s) s → ∀ ν', RR (qPut (qAgr1 (if sn = 1 then qFeedsAll C s else C) s) s ((qAgr1 (if sn = 1 then qFeedsAll C s else C) s) (514 * s + 1)) 4 (qMem (qAgr1 (if sn = 1 then qFeedsAll C s else C) s) s).2.1 0) a S ν' ρ → Ot a μ ν' → G 71 [.ref a, .ref (a + 130 + 8 * s), .int todo, .int o, .int left, .int 1, .int 1, .int (nI (i + 1))] [] S (0, 0) ν' ρ) →
        (¬ lvs (qAgr1 (if sn = 1 then qFeedsAll C s else C) s) s → ∀ ν', RR (qFin (qAgr1 (if sn = 1 then qFeedsAll C s else C) s) s) a S ν' ρ → Ot a μ ν' → G 71 [.ref a, .ref (a + 130 + 8 * s), .int todo, .int o, .int left, .int 0, .int 0, .int (nI (i + 1))] [] S (0, 0) ν' ρ) →
        G 71 [.ref a, .ref (a + 130 + 8 * s), .int todo, .int o, .int left, .int sn, .int 1, .int (nI i)] [] S (0, 0) ν ρ := by
      intro left i C ν sn hi hsn r oo hk hy hn
      have f98 : ∀ (D : Rw) (ν1 : Mi), RR D a S ν1 ρ → Ot a μ ν1 → fnK D s → D = (if sn = 1 then qFeedsAll C s else C) → w_X10_finish_98 (MS Z (d + 3)) G Rp [.ref a, .ref (a + 130 + 8 * s), .int todo, .int o, .int left, .int sn, .int 1, .int (nI i)] [] S (0, 0) ν1 ρ := by
        intro D ν1 r1 o1 k1 e1
        subst e1
        simp only [w_X10_finish_98, w_X10_finish_113, w_X10_finish_130, w_X10_finish_131, tAload, tIload, nth, tGetI, tGetR, tConst, tLconst, tBin, tUn, tI2l, tAld, tAldR, tAlen, tIast, tBast, tZast, tAast, tIret, tZret, tVret, tAret, tIf, tIf2, tGoto, tIstore, tAstore, sset, tIinc, tDup, tDup2, tPop, tPutI, tPutZ, tPutR, tCallV, tCallS, popN, tFn, tCopy, tMax, tMin, tSw, swc, tRem, tObjI, Option.toList, List.nil_append, List.cons_append, okR, true_and, and_true, true_or, or_true, Nat.zero_le, ne_eq, not_false_eq_true, Nat.reduceEqDiff, F_X10_greatestShared, F_X10_agreeUpTo, F_X10_leavesJoint, h1, nI_s1]
        refine ⟨fun z => absurd z (by decide), fun _ => ⟨s, _, hs, rfl, r1, k1.1, k1.2.2.1, s, _, hs, rfl, r1, k1.2.2.1.1, k1.2.1.2.1, (top_ok k1.2.1).1, (top_ok k1.2.1).2, fun μ2 r2 o2 => ⟨fun z => absurd z (by decide), fun _ => ⟨s, _, hs, rfl, r2, (fnK_1 hs k1).2.2.2, fun c μ3 r3 o3 => ⟨fun z => absurd z (by decide), fun _ => hy c μ3 r3 (ot_trans o1 (ot_trans (Ka_Ot hs o2) o3))⟩, fun c μ3 r3 o3 => ⟨fun _ => hn c μ3 r3 (ot_trans o1 (ot_trans (Ka_Ot hs o2) o3)), fun z => absurd trivial z⟩⟩⟩⟩⟩
      have f88 : w_X10_finish_88 (MS Z (d + 3)) G Rp [.ref a, .ref (a + 130 + 8 * s), .int todo, .int o, .int left, .int sn, .int 1, .int (nI i)] [] S (0, 0) ν ρ := by
        simp only [w_X10_finish_88, tAload, tIload, nth, tGetI, tGetR, tConst, tLconst, tBin, tUn, tI2l, tAld, tAldR, tAlen, tIast, tBast, tZast, tAast, tIret, tZret, tVret, tAret, tIf, tIf2, tGoto, tIstore, tAstore, sset, tIinc, tDup, tDup2, tPop, tPutI, tPutZ, tPutR, tCallV, tCallS, popN, tFn, tCopy, tMax, tMin, tSw, swc, tRem, tObjI, Option.toList, List.nil_append, List.cons_append, okR, true_and, and_true, true_or, or_true, Nat.zero_le, ne_eq, not_false_eq_true, Nat.reduceEqDiff, F_X10_sendToAll, h1]
        refine ⟨fun c => f98 C ν r oo hk (by rw [c, if_neg (by decide)]), fun c => ⟨s, C, hs, rfl, r, hk.1, hk.2.1.1.2.2.2, fun μ' r' o' => f98 _ μ' r' (ot_trans oo (Fm_Ot o')) (fnK_feeds hs hk) ?_⟩⟩
        rcases hsn with z | z
        · exact absurd z c
        · rw [if_pos z]
      apply g71
      simp only [w_X10_finish_71, tAload, tIload, nth, tGetI, tGetR, tConst, tLconst, tBin, tUn, tI2l, tAld, tAldR, tAlen, tIast, tBast, tZast, tAast, tIret, tZret, tVret, tAret, tIf, tIf2, tGoto, tIstore, tAstore, sset, tIinc, tDup, tDup2, tPop, tPutI, tPutZ, tPutR, tCallV, tCallS, popN, tFn, tCopy, tMax, tMin, tSw, swc, tRem, tObjI, Option.toList, List.nil_append, List.cons_append, okR, true_and, and_true, true_or, or_true, Nat.zero_le, ne_eq, not_false_eq_true, Nat.reduceEqDiff]
      refine ⟨fun z => ?_, fun _ => ⟨fun _ => f88, fun _ => ⟨fun z => absurd z (by decide), fun _ => f88⟩⟩⟩
      rw [show (8 : Int32) = nI 8 from rfl, nI_leI (by decide) (by omega)] at z
      omega
    have core : ∀ (left : Int32) (C : Rw) (ν : Mi) (sn : Int32), (sn = 0 ∨ sn = 1) → RR C a S ν ρ → Ot a μ ν → fnK C s →
        (∀ (v5 v6 v7 : Value) (ν' : Mi), RR (qAgr (if sn = 1 then qFeedsAll C s else C) s) a S ν' ρ → Ot a μ ν' → w_X10_finish_143 (MS Z (d + 3)) G Rp [.ref a, .ref (a + 130 + 8 * s), .int todo, .int o, .int left, v5, v6, v7] [] S (0, 0) ν' ρ) →
        G 71 [.ref a, .ref (a + 130 + 8 * s), .int todo, .int o, .int left, .int sn, .int 1, .int (nI 0)] [] S (0, 0) ν ρ := by
      intro left C ν sn hsn r oo hk hh
      have hD : fnK (if sn = 1 then qFeedsAll C s else C) s := by
        split
        · exact fnK_feeds hs hk
        · exact hk
      refine it left 0 C ν sn (by decide) hsn r oo hk (fun c ν1 r1 o1 => ?_) (fun c ν1 r1 o1 => ?_)
      · generalize (if sn = 1 then qFeedsAll C s else C) = D at *
        have hl := (lvs_1 hs hD.2.1).mp c
        have hD1 := fnK_1 hs hD
        obtain ⟨l, l1, l2, -, l3⟩ := rg_ex hD1.2.1.1.2.1
        have hl1 : l < 120 := by
          have := c.2.2
          rw [l1, show (120 : Int32) = nI 120 from rfl, nI_ltI l2 (by decide)] at this
          exact this
        have hp : fnK (qPut (qAgr1 D s) s ((qAgr1 D s) (514 * s + 1)) 4 (qMem (qAgr1 D s) s).2.1 0) s := fnK_put hs hD1 l1 hl1 (fun z => absurd z (by decide))
        have ej : qFeedsAll (qPut (qAgr1 D s) s ((qAgr1 D s) (514 * s + 1)) 4 (qMem (qAgr1 D s) s).2.1 0) s = qJoin D s := by unfold qJoin; rw [qMem_1 hs hD.2.1]
        have hst : ¬ leaves (qJoin D s) s := join_stays hs hD.2.1 (by have := hD.2.2.1; unfold agR at this; omega) hl
        have hj : fnK (qJoin D s) s := by rw [← ej]; exact fnK_feeds hs hp
        refine it left 1 _ ν1 1 (by decide) (Or.inr rfl) r1 o1 hp (fun c2 => ?_) (fun c2 ν2 r2 o2 => ?_)
        · rw [if_pos rfl, ej] at c2
          exact absurd ((lvs_1 hs hj.2.1).mp c2) hst
        · rw [if_pos rfl, ej] at r2
          refine stop left 2 ν2 (by decide) (fun v5 v6 v7 => hh v5 v6 v7 ν2 ?_ o2)
          unfold qAgr
          rw [if_pos hl]
          unfold qAgr0
          rw [qFin_fin hs (fnK_1 hs hj).2.1.1.2.1]
          exact r2
      · refine stop left 1 ν1 (by decide) (fun v5 v6 v7 => hh v5 v6 v7 ν1 ?_ o1)
        unfold qAgr
        rw [if_neg (fun z => c ((lvs_1 hs hD.2.1).mpr z))]
        exact r1
    have f39 : ∀ (left : Int32) (C : Rw) (ν : Mi), (left &&& 4 = 0 ∨ left &&& 4 = 4) → left &&& 8 = 8 → RR C a S ν ρ → Ot a μ ν → fnK C s →
        (∀ (v5 v6 v7 : Value) (ν' : Mi), RR (qAgr (if left &&& 4 = 0 then C else qFeedsAll C s) s) a S ν' ρ → Ot a μ ν' → w_X10_finish_143 (MS Z (d + 3)) G Rp [.ref a, .ref (a + 130 + 8 * s), .int todo, .int o, .int left, v5, v6, v7] [] S (0, 0) ν' ρ) →
        w_X10_finish_39 (MS Z (d + 3)) G Rp [.ref a, .ref (a + 130 + 8 * s), .int todo, .int o, .int left, .null, .null, .null] [] S (0, 0) ν ρ := by
      intro left C ν h4 h8 r oo hk hh
      simp only [w_X10_finish_39, w_X10_finish_50, w_X10_finish_51, w_X10_finish_65, w_X10_finish_66, tAload, tIload, nth, tGetI, tGetR, tConst, tLconst, tBin, tUn, tI2l, tAld, tAldR, tAlen, tIast, tBast, tZast, tAast, tIret, tZret, tVret, tAret, tIf, tIf2, tGoto, tIstore, tAstore, sset, tIinc, tDup, tDup2, tPop, tPutI, tPutZ, tPutR, tCallV, tCallS, popN, tFn, tCopy, tMax, tMin, tSw, swc, tRem, tObjI, Option.toList, List.nil_append, List.cons_append, okR, true_and, and_true, true_or, or_true, Nat.zero_le, ne_eq, not_false_eq_true, Nat.reduceEqDiff, h8]
      refine ⟨fun c => ⟨fun z => absurd z (by decide), fun _ => core left C ν 0 (Or.inl rfl) r oo hk ?_⟩, fun c => ⟨fun z => absurd z (by decide), fun _ => core left C ν 1 (Or.inr rfl) r oo hk ?_⟩⟩
      · rw [if_pos c] at hh
        rw [if_neg (by decide)]
        exact hh
      · rw [if_neg c] at hh
        rw [if_pos rfl]
        exact hh
    have f20 : ∀ (left : Int32) (C : Rw) (ν : Mi), (left = 2 ∨ left = 3) → RR C a S ν ρ → Ot a μ ν → agOK C s → agR C s → rg (C (514 * s + 1)) 1 200 → B = qLeads C s → w_X10_finish_20 (MS Z (d + 3)) G Rp [.ref a, .ref (a + 130 + 8 * s), .int todo, .int o, .int left, .null, .null, .null] [] S (0, 0) ν ρ := by
      intro left C ν hl r oo k1 k2 k3 hB
      have z2 : ¬ left &&& 2 = 0 := by rcases hl with z | z <;> rw [z] <;> decide
      have z4 : ¬ (left ||| 12) &&& 4 = 0 := by rcases hl with z | z <;> rw [z] <;> decide
      simp only [w_X10_finish_20, tAload, tIload, nth, tGetI, tGetR, tConst, tLconst, tBin, tUn, tI2l, tAld, tAldR, tAlen, tIast, tBast, tZast, tAast, tIret, tZret, tVret, tAret, tIf, tIf2, tGoto, tIstore, tAstore, sset, tIinc, tDup, tDup2, tPop, tPutI, tPutZ, tPutR, tCallV, tCallS, popN, tFn, tCopy, tMax, tMin, tSw, swc, tRem, tObjI, Option.toList, List.nil_append, List.cons_append, okR, true_and, and_true, true_or, or_true, Nat.zero_le, ne_eq, not_false_eq_true, Nat.reduceEqDiff, F_X10_lead, h1]
      refine ⟨fun z => absurd z z2, fun _ => ⟨s, C, hs, rfl, r, k3, fun μ1 r1 o1 => f39 _ _ μ1 (Or.inr ?_) ?_ r1 (ot_trans oo o1) (fnK_lead hs k1 k2 k3) (fun v5 v6 v7 ν' r' o' => ta _ _ _ _ _ ?_ ?_ o')⟩⟩
      · rcases hl with z | z <;> rw [z] <;> decide
      · rcases hl with z | z <;> rw [z] <;> decide
      · rcases hl with z | z <;> rw [z] <;> decide
      · rw [if_neg z4] at r'
        rw [hB]
        exact r'
    have none20 : ∀ (left : Int32) (ν : Mi), (left = 0 ∨ left = 1) → RR B a S ν ρ → Ot a μ ν → w_X10_finish_20 (MS Z (d + 3)) G Rp [.ref a, .ref (a + 130 + 8 * s), .int todo, .int o, .int left, .null, .null, .null] [] S (0, 0) ν ρ := by
      intro left ν hl r oo
      have z2 : left &&& 2 = 0 := by rcases hl with z | z <;> rw [z] <;> decide
      have z4 : left &&& 4 = 0 := by rcases hl with z | z <;> rw [z] <;> decide
      have z8 : left &&& 8 = 0 := by rcases hl with z | z <;> rw [z] <;> decide
      have z16 : left &&& 16 = 0 := by rcases hl with z | z <;> rw [z] <;> decide
      simp only [w_X10_finish_20, w_X10_finish_39, w_X10_finish_50, w_X10_finish_51, w_X10_finish_65, w_X10_finish_66, tAload, tIload, nth, tGetI, tGetR, tConst, tLconst, tBin, tUn, tI2l, tAld, tAldR, tAlen, tIast, tBast, tZast, tAast, tIret, tZret, tVret, tAret, tIf, tIf2, tGoto, tIstore, tAstore, sset, tIinc, tDup, tDup2, tPop, tPutI, tPutZ, tPutR, tCallV, tCallS, popN, tFn, tCopy, tMax, tMin, tSw, swc, tRem, tObjI, Option.toList, List.nil_append, List.cons_append, okR, true_and, and_true, true_or, or_true, Nat.zero_le, ne_eq, not_false_eq_true, Nat.reduceEqDiff, z2, z4, z8]
      refine ⟨fun _ => ⟨fun _ => ⟨fun _ => stop left 0 ν (by decide) (fun v5 v6 v7 => ta left v5 v6 v7 ν z16 r oo), fun z => absurd trivial z⟩, fun z => absurd trivial z⟩, fun z => absurd trivial z⟩
    rcases hq with ⟨rfl, rfl⟩ | ⟨rfl, hB, k1, k2, k3⟩ | ⟨rfl, hB, k1, k2, k3⟩ | ⟨rfl, hB, k1⟩ | ⟨rfl, hB, k1, k2, k4, k5⟩
    · simp only [w_X10_finish_0, tAload, tIload, nth, tGetI, tGetR, tConst, tLconst, tBin, tUn, tI2l, tAld, tAldR, tAlen, tIast, tBast, tZast, tAast, tIret, tZret, tVret, tAret, tIf, tIf2, tGoto, tIstore, tAstore, sset, tIinc, tDup, tDup2, tPop, tPutI, tPutZ, tPutR, tCallV, tCallS, popN, tFn, tCopy, tMax, tMin, tSw, swc, tRem, tObjI, Option.toList, List.nil_append, List.cons_append, okR, true_and, and_true, true_or, or_true, Nat.zero_le, ne_eq, not_false_eq_true, Nat.reduceEqDiff]
      exact ⟨fun _ => none20 0 μ (Or.inl rfl) hR (fun _ _ => rfl), fun z => absurd (by decide) z⟩
    · simp only [w_X10_finish_0, tAload, tIload, nth, tGetI, tGetR, tConst, tLconst, tBin, tUn, tI2l, tAld, tAldR, tAlen, tIast, tBast, tZast, tAast, tIret, tZret, tVret, tAret, tIf, tIf2, tGoto, tIstore, tAstore, sset, tIinc, tDup, tDup2, tPop, tPutI, tPutZ, tPutR, tCallV, tCallS, popN, tFn, tCopy, tMax, tMin, tSw, swc, tRem, tObjI, Option.toList, List.nil_append, List.cons_append, okR, true_and, and_true, true_or, or_true, Nat.zero_le, ne_eq, not_false_eq_true, Nat.reduceEqDiff, F_X10_stand, h1]
      refine ⟨fun z => absurd z (by decide), fun _ => ⟨s, A, hs, rfl, hR, fun c μ1 r1 o1 => ?_, fun c μ1 r1 o1 => ?_⟩⟩
      · have hsu : suOK A s := ⟨k1, by unfold agR at k2; omega, k3⟩
        have hld := stand1_ok hs hsu
        have lo : ∀ i, i < 2570 → qAsksAll (qStand1 A s) s 0 i = qStand1 A s i := fun i hi => qAsksAll_lo hi
        refine f20 (1 ||| 2) _ μ1 (Or.inr rfl) r1 o1 hld.1 (agR_of k2 ?_ ?_ ?_) hld.2.2 ?_
        · rw [lo _ (by omega), qStand1_out (by omega)]
        · rw [lo _ (by omega), qStand1_out (by omega)]
        · rw [lo _ (by omega), qStand1_out (by omega)]
        · rw [hB]
          unfold qStands
          rw [if_pos c]
      · refine none20 (1 ||| 0) μ1 (Or.inr rfl) ?_ o1
        rw [hB]
        unfold qStands
        rw [if_neg c]
        exact r1
    · simp only [w_X10_finish_0, tAload, tIload, nth, tGetI, tGetR, tConst, tLconst, tBin, tUn, tI2l, tAld, tAldR, tAlen, tIast, tBast, tZast, tAast, tIret, tZret, tVret, tAret, tIf, tIf2, tGoto, tIstore, tAstore, sset, tIinc, tDup, tDup2, tPop, tPutI, tPutZ, tPutR, tCallV, tCallS, popN, tFn, tCopy, tMax, tMin, tSw, swc, tRem, tObjI, Option.toList, List.nil_append, List.cons_append, okR, true_and, and_true, true_or, or_true, Nat.zero_le, ne_eq, not_false_eq_true, Nat.reduceEqDiff]
      exact ⟨fun _ => f20 2 A μ (Or.inl rfl) hR (fun _ _ => rfl) k1 k2 k3 hB, fun z => absurd (by decide) z⟩
    · simp only [w_X10_finish_0, w_X10_finish_20, tAload, tIload, nth, tGetI, tGetR, tConst, tLconst, tBin, tUn, tI2l, tAld, tAldR, tAlen, tIast, tBast, tZast, tAast, tIret, tZret, tVret, tAret, tIf, tIf2, tGoto, tIstore, tAstore, sset, tIinc, tDup, tDup2, tPop, tPutI, tPutZ, tPutR, tCallV, tCallS, popN, tFn, tCopy, tMax, tMin, tSw, swc, tRem, tObjI, Option.toList, List.nil_append, List.cons_append, okR, true_and, and_true, true_or, or_true, Nat.zero_le, ne_eq, not_false_eq_true, Nat.reduceEqDiff]
      refine ⟨fun _ => ⟨fun _ => f39 12 A μ (Or.inr rfl) rfl hR (fun _ _ => rfl) k1 (fun v5 v6 v7 ν' r' o' => ta 12 _ _ _ _ rfl ?_ o'), fun z => absurd (by decide) z⟩, fun z => absurd (by decide) z⟩
      rw [if_neg (by decide)] at r'
      rw [hB]
      exact r'
    · simp only [w_X10_finish_0, w_X10_finish_20, tAload, tIload, nth, tGetI, tGetR, tConst, tLconst, tBin, tUn, tI2l, tAld, tAldR, tAlen, tIast, tBast, tZast, tAast, tIret, tZret, tVret, tAret, tIf, tIf2, tGoto, tIstore, tAstore, sset, tIinc, tDup, tDup2, tPop, tPutI, tPutZ, tPutR, tCallV, tCallS, popN, tFn, tCopy, tMax, tMin, tSw, swc, tRem, tObjI, Option.toList, List.nil_append, List.cons_append, okR, true_and, and_true, true_or, or_true, Nat.zero_le, ne_eq, not_false_eq_true, Nat.reduceEqDiff]
      refine ⟨fun _ => ⟨fun _ => f39 24 A μ (Or.inl rfl) rfl hR (fun _ _ => rfl) k1 (fun v5 v6 v7 ν' r' o' => ?_), fun z => absurd (by decide) z⟩, fun z => absurd (by decide) z⟩
      rw [if_pos (by decide)] at r'
      exact tb v5 v6 v7 _ ν' r' o' (agOK_agr hs k1.2.1).1.2.2.2 k2 k4 k5 hB
  · exact h.elim
