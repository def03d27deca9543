/-! ===== the class: going on in a program ===== -/
def mvM (μ : Mi) (v : Int32) (o : Nat) (L : Rw) : Mi := upI (upI (upF μ 866 L) 859 8 (nI o)) 859 9 v
theorem mvM_9 {μ : Mi} {v : Int32} {o : Nat} {L : Rw} : mvM μ v o L 859 9 = v := by unfold mvM; rw [upI_at]
theorem mvM_8 {μ : Mi} {v : Int32} {o : Nat} {L : Rw} : mvM μ v o L 859 8 = nI o := by unfold mvM; rw [upI_k (by omega), upI_at]
theorem mvM_866 {μ : Mi} {v : Int32} {o : Nat} {L : Rw} : mvM μ v o L 866 = L := by unfold mvM; rw [upI_ne (by omega), upI_ne (by omega), upF_same]
theorem mvM_o {μ : Mi} {v : Int32} {o b : Nat} {L : Rw} (h1 : b ≠ 859) (h2 : b ≠ 866) : mvM μ v o L b = μ b := by unfold mvM; rw [upI_ne h1, upI_ne h1, upF_ne h2]
theorem mvM_7 {μ : Mi} {v : Int32} {o i : Nat} {L : Rw} (h1 : i ≠ 8) (h2 : i ≠ 9) : mvM μ v o L 859 i = μ 859 i := by unfold mvM; rw [upI_k h2, upI_k h1, upF_ne (by omega)]
theorem mvM_self {μ : Mi} {o : Nat} (h : μ 859 8 = nI o) : mvM μ (μ 859 9) o (μ 866) = μ := by
  unfold mvM
  rw [upF_id, ← h, upI_self, upI_self]
theorem mvM_u9 {μ : Mi} {v w : Int32} {o : Nat} {L : Rw} : upI (mvM μ v o L) 859 9 w = mvM μ w o L := by unfold mvM; rw [upI_upI]
theorem mvM_u8 {μ : Mi} {v : Int32} {o o' : Nat} {L : Rw} : upI (mvM μ v o L) 859 8 (nI o') = mvM μ v o' L := by
  funext b i
  unfold mvM upI upF
  by_cases h : b = 859
  · subst h
    by_cases h8 : i = 8
    · simp [h8]
    · simp [h8]
  · simp [h]
theorem mvM_uL {μ : Mi} {v w : Int32} {o j : Nat} {L : Rw} : upI (mvM μ v o L) 866 j w = mvM μ v o (up L j w) := by
  funext b i
  unfold mvM upI upF up
  by_cases h : b = 866
  · subst h; simp
  · simp [h]
def w_X4_turn_64 (M : CT) (G : Nat → PT) (Rp : RT) : PT := tVret Rp
def w_X4_turn_54 (M : CT) (G : Nat → PT) (Rp : RT) : PT := tAload 0 <| tDup <| tGetI 4 10 8 <| tConst 1 <| tBin (fun x y => x - y) <| tPutI 4 10 8 <| w_X4_turn_64 M G Rp
def w_X4_turn_9 (M : CT) (G : Nat → PT) (Rp : RT) : PT := tAload 0 <| tGetR 4 10 6 <| tAload 0 <| tGetI 4 10 8 <| tConst 1 <| tBin (fun x y => x - y) <| tDup2 <| tAld 20 <| tConst 1 <| tBin (fun x y => x - y) <| tIast <| tAload 0 <| tGetR 4 10 6 <| tAload 0 <| tGetI 4 10 8 <| tConst 1 <| tBin (fun x y => x - y) <| tAld 20 <| tIf (fun x => x ≤ 0) (w_X4_turn_54 M G Rp) <| tAload 0 <| tAload 0 <| tGetR 4 10 2 <| tAload 0 <| tGetI 4 10 9 <| tAld 20 <| tPutI 4 10 9 <| tGoto (w_X4_turn_64 M G Rp)
def w_X4_turn_0 (M : CT) (G : Nat → PT) (Rp : RT) : PT := tAload 0 <| tGetI 4 10 8 <| tConst 1 <| tIf2 (fun x y => y ≤ x) (w_X4_turn_9 M G Rp) <| tVret Rp
set_option maxRecDepth 20000 in
theorem b_X4_turn_64 {Z : Zt} {d : Nat} {p : Program} {e : Env} {R : Room} {s : State} {m : MethodId} {args : Array Value} {below : List Frame} {meth : Method} {c : Code} {Rp : RT} (C : Cx Z d jX4_turn RX4 p R s m args meth c) : Sd Z jX4_turn p e R s m args below meth c (MQ below (QcS Z Rp) args s 0 0 (fun a => Z.2.2.1 < a)) 64 (w_X4_turn_64 (MS Z d) (Gw Z 1 p e R s m args below meth c (MQ below (QcS Z Rp) args s 0 0 (fun a => Z.2.2.1 < a))) Rp) := by
  unfold w_X4_turn_64
  exact s_vret C rfl (by decide +kernel)
set_option maxRecDepth 20000 in
theorem b_X4_turn_54 {Z : Zt} {d : Nat} {p : Program} {e : Env} {R : Room} {s : State} {m : MethodId} {args : Array Value} {below : List Frame} {meth : Method} {c : Code} {Rp : RT} (C : Cx Z d jX4_turn RX4 p R s m args meth c) : Sd Z jX4_turn p e R s m args below meth c (MQ below (QcS Z Rp) args s 0 0 (fun a => Z.2.2.1 < a)) 54 (w_X4_turn_54 (MS Z d) (Gw Z 1 p e R s m args below meth c (MQ below (QcS Z Rp) args s 0 0 (fun a => Z.2.2.1 < a))) Rp) := by
  unfold w_X4_turn_54
  refine s_aload_n (k := 0) C (by decide +kernel) ?_
  refine s_dup C (by decide +kernel) ?_
  refine s_getI C w_2_209 (by decide +kernel) rfl ?_
  refine s_iconst (n := 1) C (by decide +kernel) (by decide) ?_
  refine s_isub C (by decide +kernel) ?_
  refine s_putI C w_2_209 (by decide +kernel) rfl (Or.inl rfl) ?_
  exact (b_X4_turn_64 C)
set_option maxRecDepth 20000 in
theorem b_X4_turn_9 {Z : Zt} {d : Nat} {p : Program} {e : Env} {R : Room} {s : State} {m : MethodId} {args : Array Value} {below : List Frame} {meth : Method} {c : Code} {Rp : RT} (C : Cx Z d jX4_turn RX4 p R s m args meth c) : Sd Z jX4_turn p e R s m args below meth c (MQ below (QcS Z Rp) args s 0 0 (fun a => Z.2.2.1 < a)) 9 (w_X4_turn_9 (MS Z d) (Gw Z 1 p e R s m args below meth c (MQ below (QcS Z Rp) args s 0 0 (fun a => Z.2.2.1 < a))) Rp) := by
  unfold w_X4_turn_9
  refine s_aload_n (k := 0) C (by decide +kernel) ?_
  refine s_getR C w_2_207 (by decide +kernel) rfl ?_
  refine s_aload_n (k := 0) C (by decide +kernel) ?_
  refine s_getI C w_2_209 (by decide +kernel) rfl ?_
  refine s_iconst (n := 1) C (by decide +kernel) (by decide) ?_
  refine s_isub C (by decide +kernel) ?_
  refine s_dup2 C (by decide +kernel) ?_
  refine s_iald C (by decide +kernel) ?_
  refine s_iconst (n := 1) C (by decide +kernel) (by decide) ?_
  refine s_isub C (by decide +kernel) ?_
  refine s_iast C (by decide +kernel) ?_
  refine s_aload_n (k := 0) C (by decide +kernel) ?_
  refine s_getR C w_2_207 (by decide +kernel) rfl ?_
  refine s_aload_n (k := 0) C (by decide +kernel) ?_
  refine s_getI C w_2_209 (by decide +kernel) rfl ?_
  refine s_iconst (n := 1) C (by decide +kernel) (by decide) ?_
  refine s_isub C (by decide +kernel) ?_
  refine s_iald C (by decide +kernel) ?_
  refine s_if_le (off := 19) (tgt := 54) C (by decide +kernel) (by decide) (b_X4_turn_54 C) ?_
  refine s_aload_n (k := 0) C (by decide +kernel) ?_
  refine s_aload_n (k := 0) C (by decide +kernel) ?_
  refine s_getR C w_2_200 (by decide +kernel) rfl ?_
  refine s_aload_n (k := 0) C (by decide +kernel) ?_
  refine s_getI C w_2_211 (by decide +kernel) rfl ?_
  refine s_iald C (by decide +kernel) ?_
  refine s_putI C w_2_211 (by decide +kernel) rfl (Or.inl rfl) ?_
  exact s_goto (off := 13) (tgt := 64) C (by decide +kernel) (by decide) (b_X4_turn_64 C)
set_option maxRecDepth 20000 in
theorem b_X4_turn_0 {Z : Zt} {d : Nat} {p : Program} {e : Env} {R : Room} {s : State} {m : MethodId} {args : Array Value} {below : List Frame} {meth : Method} {c : Code} {Rp : RT} (C : Cx Z d jX4_turn RX4 p R s m args meth c) : Sd Z jX4_turn p e R s m args below meth c (MQ below (QcS Z Rp) args s 0 0 (fun a => Z.2.2.1 < a)) 0 (w_X4_turn_0 (MS Z d) (Gw Z 1 p e R s m args below meth c (MQ below (QcS Z Rp) args s 0 0 (fun a => Z.2.2.1 < a))) Rp) := by
  unfold w_X4_turn_0
  refine s_aload_n (k := 0) C (by decide +kernel) ?_
  refine s_getI C w_2_209 (by decide +kernel) rfl ?_
  refine s_iconst (n := 1) C (by decide +kernel) (by decide) ?_
  refine s_icmp_ge (off := 4) (tgt := 9) C (by decide +kernel) (by decide) (b_X4_turn_9 C) ?_
  exact s_vret C rfl (by decide +kernel)
theorem ms_X4_turn {Z : Zt} {d : Nat} {S : Sh} {μ : Mi} {ρ : Mr} {Rp : RT} (a0 : Nat) (h : ∀ G : Nat → PT, w_X4_turn_0 (MS Z d) G Rp [.ref a0] [] S (0, 0) μ ρ) : MS Z (d + 1) jX4_turn [.ref a0] S μ ρ Rp :=
  MS_of [.ref a0] (by decide +kernel) rfl rfl (Nat.le_of_ble_eq_true rfl) rfl (fun p e R s m args below meth c C => b_X4_turn_0 C _ _ _ _ _ _ (h _ ))
def F_X4_turn : FT := fun As S μ ρ k => match As with
  | [.ref a] => S.2 a = (4, 10) ∧ a = 859 ∧ PgS S ρ ∧ ∃ (ν : Mi) (pc o : Nat) (L : Rw), μ = mvM ν (nI pc) o L ∧ 1 ≤ o ∧ o ≤ 3 ∧ pc < 300 ∧ (¬ L (o - 1) - 1 ≤ 0 → k none (mvM ν (ν 862 pc) o (up L (o - 1) (L (o - 1) - 1)))) ∧ (L (o - 1) - 1 ≤ 0 → k none (mvM ν (nI pc) (o - 1) (up L (o - 1) (L (o - 1) - 1))))
  | _ => False
theorem r_X4_turn {As S μ ρ k} (h : F_X4_turn As S μ ρ k) : ∃ a As', As = Value.ref a :: As' ∧ S.2 a = (4, 10) := by
  unfold F_X4_turn at h
  split at h
  · exact ⟨_, _, rfl, h.1⟩
  · exact h.elim
set_option maxHeartbeats 1000000 in
theorem f_X4_turn {Z : Zt} {d : Nat} {As : List Value} {S : Sh} {μ : Mi} {ρ : Mr} {Rp : RT} (h : F_X4_turn As S μ ρ (fun r μ' => Rp r S μ' ρ)) : MS Z (d + 1) jX4_turn As S μ ρ Rp := by
  unfold F_X4_turn at h
  split at h
  · rename_i a
    obtain ⟨h1, rfl, hP, ν, pc, o, L, rfl, ho1, ho3, hpc, ha, hb⟩ := h
    obtain ⟨-, ⟨s0, s1, s2, s3, s4, s5, s6⟩, r0, r1, r2, r3, r4, r5, r6⟩ := hP
    refine ms_X4_turn _ (fun G => ?_)
    have e1 : nI o - 1 = nI (o - 1) := by rw [show (1 : Int32) = nI 1 from rfl, pk_sub (by omega)]
    have e6 : ∀ v o' L', mvM ν v o' L' 862 = ν 862 := fun v o' L' => mvM_o (by omega) (by omega)
    simp only [w_X4_turn_0, w_X4_turn_9, w_X4_turn_54, w_X4_turn_64, tAload, tIload, nth, tGetI, tGetR, tConst, tLconst, tBin, tUn, tI2l, tAld, tAldR, tAlen, tIast, tBast, tZast, tAast, tIret, tZret, tVret, tAret, tIf, tIf2, tGoto, tIstore, tAstore, sset, tIinc, tDup, tDup2, tPop, tPutI, tPutZ, tPutR, tCallV, tCallS, popN, tFn, tCopy, tMax, tMin, tSw, swc, tRem, tObjI, Option.toList, List.nil_append, List.cons_append, okR, true_and, and_true, true_or, or_true, Nat.zero_le, ne_eq, not_false_eq_true, Nat.reduceEqDiff, h1, s6, s2, r6, r2, mvM_8, mvM_9, mvM_866, e1, nI_clamp (show o - 1 < 2 ^ 31 by omega), nI_clamp (show pc < 2 ^ 31 by omega), mvM_uL, mvM_u8, mvM_u9, up_at, e6]
    refine ⟨fun _ => ⟨inb_nI (by omega) (by decide), inb_nI (by omega) (by decide), inb_nI (by omega) (by decide), fun c => hb c, fun c => ⟨inb_nI hpc (by decide), ha c⟩⟩, fun c => absurd (by rw [show (1 : Int32) = nI 1 from rfl, nI_leI (by decide) (by omega)]; exact ho1) c⟩
  · exact h.elim
def w_X4_moveOn_114 (M : CT) (G : Nat → PT) (Rp : RT) : PT := tConst 0 <| tZret Rp
def w_X4_moveOn_108 (M : CT) (G : Nat → PT) (Rp : RT) : PT := tIinc 1 1 <| tGoto (G 2)
def w_X4_moveOn_106 (M : CT) (G : Nat → PT) (Rp : RT) : PT := tConst 1 <| tZret Rp
def w_X4_moveOn_85 (M : CT) (G : Nat → PT) (Rp : RT) : PT := tAload 0 <| tGetR 4 10 0 <| tAload 0 <| tGetI 4 10 9 <| tAld 20 <| tConst 101 <| tIf2 (fun x y => x ≠ y) (w_X4_moveOn_106 M G Rp) <| tAload 0 <| tFn 1 F_X4_turn <| tGoto (w_X4_moveOn_108 M G Rp)
def w_X4_moveOn_32 (M : CT) (G : Nat → PT) (Rp : RT) : PT := tAload 0 <| tGetR 4 10 0 <| tAload 0 <| tGetI 4 10 9 <| tAld 20 <| tConst 100 <| tIf2 (fun x y => x ≠ y) (w_X4_moveOn_85 M G Rp) <| tAload 0 <| tGetI 4 10 8 <| tConst 3 <| tIf2 (fun x y => y ≤ x) (w_X4_moveOn_108 M G Rp) <| tAload 0 <| tGetR 4 10 6 <| tAload 0 <| tGetI 4 10 8 <| tAload 0 <| tGetR 4 10 2 <| tAload 0 <| tGetI 4 10 9 <| tAld 20 <| tIast <| tAload 0 <| tDup <| tGetI 4 10 8 <| tConst 1 <| tBin (fun x y => x + y) <| tPutI 4 10 8 <| tGoto (w_X4_moveOn_108 M G Rp)
def w_X4_moveOn_2 (M : CT) (G : Nat → PT) (Rp : RT) : PT := tIload 1 <| tConst 300 <| tIf2 (fun x y => y ≤ x) (w_X4_moveOn_114 M G Rp) <| tAload 0 <| tDup <| tGetI 4 10 9 <| tConst 1 <| tBin (fun x y => x + y) <| tPutI 4 10 9 <| tAload 0 <| tGetI 4 10 9 <| tAload 0 <| tGetI 4 10 7 <| tIf2 (fun x y => x < y) (w_X4_moveOn_32 M G Rp) <| tConst 0 <| tZret Rp
def w_X4_moveOn_0 (M : CT) (G : Nat → PT) (Rp : RT) : PT := tConst 0 <| tIstore 1 <| G 2
set_option maxRecDepth 20000 in
theorem b_X4_moveOn_114 {Z : Zt} {d : Nat} {p : Program} {e : Env} {R : Room} {s : State} {m : MethodId} {args : Array Value} {below : List Frame} {meth : Method} {c : Code} {Rp : RT} (C : Cx Z (d + 1) jX4_moveOn RX4 p R s m args meth c) : Sd Z jX4_moveOn p e R s m args below meth c (MQ below (QcS Z Rp) args s 0 0 (fun a => Z.2.2.1 < a)) 114 (w_X4_moveOn_114 (MS Z (d + 1)) (Gw Z 2 p e R s m args below meth c (MQ below (QcS Z Rp) args s 0 0 (fun a => Z.2.2.1 < a))) Rp) := by
  unfold w_X4_moveOn_114
  refine s_iconst (n := 0) C (by decide +kernel) (by decide) ?_
  exact s_zret C rfl (by decide +kernel)
set_option maxRecDepth 20000 in
theorem b_X4_moveOn_108 {Z : Zt} {d : Nat} {p : Program} {e : Env} {R : Room} {s : State} {m : MethodId} {args : Array Value} {below : List Frame} {meth : Method} {c : Code} {Rp : RT} (C : Cx Z (d + 1) jX4_moveOn RX4 p R s m args meth c) : Sd Z jX4_moveOn p e R s m args below meth c (MQ below (QcS Z Rp) args s 0 0 (fun a => Z.2.2.1 < a)) 108 (w_X4_moveOn_108 (MS Z (d + 1)) (Gw Z 2 p e R s m args below meth c (MQ below (QcS Z Rp) args s 0 0 (fun a => Z.2.2.1 < a))) Rp) := by
  unfold w_X4_moveOn_108
  refine s_iinc (n := 1) C (by decide +kernel) (by decide) ?_
  exact s_goto (off := (-109)) (tgt := 2) C (by decide +kernel) (by decide) (fun _ _ _ _ _ _ h => h)
set_option maxRecDepth 20000 in
theorem b_X4_moveOn_106 {Z : Zt} {d : Nat} {p : Program} {e : Env} {R : Room} {s : State} {m : MethodId} {args : Array Value} {below : List Frame} {meth : Method} {c : Code} {Rp : RT} (C : Cx Z (d + 1) jX4_moveOn RX4 p R s m args meth c) : Sd Z jX4_moveOn p e R s m args below meth c (MQ below (QcS Z Rp) args s 0 0 (fun a => Z.2.2.1 < a)) 106 (w_X4_moveOn_106 (MS Z (d + 1)) (Gw Z 2 p e R s m args below meth c (MQ below (QcS Z Rp) args s 0 0 (fun a => Z.2.2.1 < a))) Rp) := by
  unfold w_X4_moveOn_106
  refine s_iconst (n := 1) C (by decide +kernel) (by decide) ?_
  exact s_zret C rfl (by decide +kernel)
set_option maxRecDepth 20000 in
theorem b_X4_moveOn_85 {Z : Zt} {d : Nat} {p : Program} {e : Env} {R : Room} {s : State} {m : MethodId} {args : Array Value} {below : List Frame} {meth : Method} {c : Code} {Rp : RT} (C : Cx Z (d + 1) jX4_moveOn RX4 p R s m args meth c) : Sd Z jX4_moveOn p e R s m args below meth c (MQ below (QcS Z Rp) args s 0 0 (fun a => Z.2.2.1 < a)) 85 (w_X4_moveOn_85 (MS Z (d + 1)) (Gw Z 2 p e R s m args below meth c (MQ below (QcS Z Rp) args s 0 0 (fun a => Z.2.2.1 < a))) Rp) := by
  unfold w_X4_moveOn_85
  refine s_aload_n (k := 0) C (by decide +kernel) ?_
  refine s_getR C w_2_196 (by decide +kernel) rfl ?_
  refine s_aload_n (k := 0) C (by decide +kernel) ?_
  refine s_getI C w_2_211 (by decide +kernel) rfl ?_
  refine s_iald C (by decide +kernel) ?_
  refine s_bipush (n := 101) C (by decide +kernel) (by decide) ?_
  refine s_icmp_ne (off := 10) (tgt := 106) C (by decide +kernel) (by decide) (b_X4_moveOn_106 C) ?_
  refine s_aload_n (k := 0) C (by decide +kernel) ?_
  refine s_fnV C (j2 := jX4_turn) (cl := 4) (nf := 10) rfl rfl (by decide +kernel) rfl w_5_55 w_5_57 w_p3_1 w_1_12 w_5_58 (by decide +kernel) (fun _ _ _ _ _ h => f_X4_turn h) (fun _ _ _ _ _ h => r_X4_turn h) ?_
  exact s_goto (off := 5) (tgt := 108) C (by decide +kernel) (by decide) (b_X4_moveOn_108 C)
set_option maxRecDepth 20000 in
theorem b_X4_moveOn_32 {Z : Zt} {d : Nat} {p : Program} {e : Env} {R : Room} {s : State} {m : MethodId} {args : Array Value} {below : List Frame} {meth : Method} {c : Code} {Rp : RT} (C : Cx Z (d + 1) jX4_moveOn RX4 p R s m args meth c) : Sd Z jX4_moveOn p e R s m args below meth c (MQ below (QcS Z Rp) args s 0 0 (fun a => Z.2.2.1 < a)) 32 (w_X4_moveOn_32 (MS Z (d + 1)) (Gw Z 2 p e R s m args below meth c (MQ below (QcS Z Rp) args s 0 0 (fun a => Z.2.2.1 < a))) Rp) := by
  unfold w_X4_moveOn_32
  refine s_aload_n (k := 0) C (by decide +kernel) ?_
  refine s_getR C w_2_196 (by decide +kernel) rfl ?_
  refine s_aload_n (k := 0) C (by decide +kernel) ?_
  refine s_getI C w_2_211 (by decide +kernel) rfl ?_
  refine s_iald C (by decide +kernel) ?_
  refine s_bipush (n := 100) C (by decide +kernel) (by decide) ?_
  refine s_icmp_ne (off := 42) (tgt := 85) C (by decide +kernel) (by decide) (b_X4_moveOn_85 C) ?_
  refine s_aload_n (k := 0) C (by decide +kernel) ?_
  refine s_getI C w_2_209 (by decide +kernel) rfl ?_
  refine s_iconst (n := 3) C (by decide +kernel) (by decide) ?_
  refine s_icmp_ge (off := 57) (tgt := 108) C (by decide +kernel) (by decide) (b_X4_moveOn_108 C) ?_
  refine s_aload_n (k := 0) C (by decide +kernel) ?_
  refine s_getR C w_2_207 (by decide +kernel) rfl ?_
  refine s_aload_n (k := 0) C (by decide +kernel) ?_
  refine s_getI C w_2_209 (by decide +kernel) rfl ?_
  refine s_aload_n (k := 0) C (by decide +kernel) ?_
  refine s_getR C w_2_200 (by decide +kernel) rfl ?_
  refine s_aload_n (k := 0) C (by decide +kernel) ?_
  refine s_getI C w_2_211 (by decide +kernel) rfl ?_
  refine s_iald C (by decide +kernel) ?_
  refine s_iast C (by decide +kernel) ?_
  refine s_aload_n (k := 0) C (by decide +kernel) ?_
  refine s_dup C (by decide +kernel) ?_
  refine s_getI C w_2_209 (by decide +kernel) rfl ?_
  refine s_iconst (n := 1) C (by decide +kernel) (by decide) ?_
  refine s_iadd C (by decide +kernel) ?_
  refine s_putI C w_2_209 (by decide +kernel) rfl (Or.inl rfl) ?_
  exact s_goto (off := 26) (tgt := 108) C (by decide +kernel) (by decide) (b_X4_moveOn_108 C)
set_option maxRecDepth 20000 in
theorem b_X4_moveOn_2 {Z : Zt} {d : Nat} {p : Program} {e : Env} {R : Room} {s : State} {m : MethodId} {args : Array Value} {below : List Frame} {meth : Method} {c : Code} {Rp : RT} (C : Cx Z (d + 1) jX4_moveOn RX4 p R s m args meth c) : Sd Z jX4_moveOn p e R s m args below meth c (MQ below (QcS Z Rp) args s 0 0 (fun a => Z.2.2.1 < a)) 2 (w_X4_moveOn_2 (MS Z (d + 1)) (Gw Z 2 p e R s m args below meth c (MQ below (QcS Z Rp) args s 0 0 (fun a => Z.2.2.1 < a))) Rp) := by
  unfold w_X4_moveOn_2
  refine s_iload_n (k := 1) C (by decide +kernel) ?_
  refine s_sipush (n := 300) C (by decide +kernel) (by decide) ?_
  refine s_icmp_ge (off := 108) (tgt := 114) C (by decide +kernel) (by decide) (b_X4_moveOn_114 C) ?_
  refine s_aload_n (k := 0) C (by decide +kernel) ?_
  refine s_dup C (by decide +kernel) ?_
  refine s_getI C w_2_211 (by decide +kernel) rfl ?_
  refine s_iconst (n := 1) C (by decide +kernel) (by decide) ?_
  refine s_iadd C (by decide +kernel) ?_
  refine s_putI C w_2_211 (by decide +kernel) rfl (Or.inl rfl) ?_
  refine s_aload_n (k := 0) C (by decide +kernel) ?_
  refine s_getI C w_2_211 (by decide +kernel) rfl ?_
  refine s_aload_n (k := 0) C (by decide +kernel) ?_
  refine s_getI C w_2_208 (by decide +kernel) rfl ?_
  refine s_icmp_lt (off := 5) (tgt := 32) C (by decide +kernel) (by decide) (b_X4_moveOn_32 C) ?_
  refine s_iconst (n := 0) C (by decide +kernel) (by decide) ?_
  exact s_zret C rfl (by decide +kernel)
set_option maxRecDepth 20000 in
theorem b_X4_moveOn_0 {Z : Zt} {d : Nat} {p : Program} {e : Env} {R : Room} {s : State} {m : MethodId} {args : Array Value} {below : List Frame} {meth : Method} {c : Code} {Rp : RT} (C : Cx Z (d + 1) jX4_moveOn RX4 p R s m args meth c) : Sd Z jX4_moveOn p e R s m args below meth c (MQ below (QcS Z Rp) args s 0 0 (fun a => Z.2.2.1 < a)) 0 (w_X4_moveOn_0 (MS Z (d + 1)) (Gw Z 2 p e R s m args below meth c (MQ below (QcS Z Rp) args s 0 0 (fun a => Z.2.2.1 < a))) Rp) := by
  unfold w_X4_moveOn_0
  refine s_iconst (n := 0) C (by decide +kernel) (by decide) ?_
  refine s_istore_n (k := 1) C (by decide +kernel) ?_
  exact (fun _ _ _ _ _ _ h => h)
theorem ms_X4_moveOn {Z : Zt} {d : Nat} {S : Sh} {μ : Mi} {ρ : Mr} {Rp : RT} (a0 : Nat) (h : ∀ G : Nat → PT, (∀ (L st : List Value) (S : Sh) (q : Nat × Nat) (μ : Mi) (ρ : Mr), w_X4_moveOn_2 (MS Z (d + 1)) G Rp L st S q μ ρ → G 2 L st S q μ ρ) → w_X4_moveOn_0 (MS Z (d + 1)) G Rp [.ref a0, .null] [] S (0, 0) μ ρ) : MS Z (d + 2) jX4_moveOn [.ref a0] S μ ρ Rp :=
  MS_of [.ref a0, .null] (by decide +kernel) rfl rfl (Nat.le_of_ble_eq_true rfl) rfl (fun p e R s m args below meth c C => b_X4_moveOn_0 C _ _ _ _ _ _ (h _ (b_X4_moveOn_2 C)))
def F_X4_moveOn : FT := fun As S μ ρ k => match As with
  | [.ref a] => S.2 a = (4, 10) ∧ a = 859 ∧ PgS S ρ ∧ ∃ (pc o sz : Nat), μ 859 9 + 1 = nI pc ∧ pc ≤ 301 ∧ μ 859 8 = nI o ∧ o ≤ 3 ∧ μ 859 7 = nI sz ∧ sz ≤ 300 ∧ mvP (μ 860) (μ 862) sz (fun pc' o' L' => pc' < sz → o' ≤ 3 → k (some (.int 1)) (mvM μ (nI pc') o' L')) (∀ v o' L', k (some (.int 0)) (mvM μ v o' L')) 300 pc o (μ 866)
  | _ => False
theorem r_X4_moveOn {As S μ ρ k} (h : F_X4_moveOn As S μ ρ k) : ∃ a As', As = Value.ref a :: As' ∧ S.2 a = (4, 10) := by
  unfold F_X4_moveOn at h
  split at h
  · exact ⟨_, _, rfl, h.1⟩
  · exact h.elim
set_option maxHeartbeats 1000000 in
theorem f_X4_moveOn {Z : Zt} {d : Nat} {As : List Value} {S : Sh} {μ : Mi} {ρ : Mr} {Rp : RT} (h : F_X4_moveOn As S μ ρ (fun r μ' => Rp r S μ' ρ)) : MS Z (d + 2) jX4_moveOn As S μ ρ Rp := by
  unfold F_X4_moveOn at h
  split at h
  · rename_i a
    obtain ⟨h1, rfl, hP, pc, o, sz, e9, hpc, e8, ho, e7, hsz, h⟩ := h
    have hP' := hP
    obtain ⟨-, ⟨s0, s1, s2, s3, s4, s5, s6⟩, r0, r1, r2, r3, r4, r5, r6⟩ := hP
    refine ms_X4_moveOn _ (fun G g2 => ?_)
    have x0 : ∀ v o' L', mvM μ v o' L' 860 = μ 860 := fun v o' L' => mvM_o (by omega) (by omega)
    have x2 : ∀ v o' L', mvM μ v o' L' 862 = μ 862 := fun v o' L' => mvM_o (by omega) (by omega)
    have x7 : ∀ v o' L', mvM μ v o' L' 859 7 = nI sz := fun v o' L' => by rw [mvM_7 (by omega) (by omega)]; exact e7
    have loop : ∀ (f i pc o : Nat) (L : Rw) (v : Int32), i + f = 300 → v + 1 = nI pc → pc ≤ 301 → o ≤ 3 → mvP (μ 860) (μ 862) sz (fun pc' o' L' => pc' < sz → o' ≤ 3 → Rp (some (.int 1)) S (mvM μ (nI pc') o' L') ρ) (∀ v o' L', Rp (some (.int 0)) S (mvM μ v o' L') ρ) f pc o L → G 2 [.ref 859, .int (nI i)] [] S (0, 0) (mvM μ v o L) ρ := by
      intro f
      induction f with
      | zero =>
        intro i pc o L v hi hv hpc ho hm
        apply g2
        simp only [w_X4_moveOn_2, w_X4_moveOn_114, tAload, tIload, nth, tGetI, tGetR, tConst, tLconst, tBin, tUn, tI2l, tAld, tAldR, tAlen, tIast, tBast, tZast, tAast, tIret, tZret, tVret, tAret, tIf, tIf2, tGoto, tIstore, tAstore, sset, tIinc, tDup, tDup2, tPop, tPutI, tPutZ, tPutR, tCallV, tCallS, popN, tFn, tCopy, tMax, tMin, tSw, swc, tRem, tObjI, Option.toList, List.nil_append, List.cons_append, okR, true_and, and_true, true_or, or_true, Nat.zero_le, ne_eq, not_false_eq_true, Nat.reduceEqDiff]
        exact ⟨fun _ => hm v o L, fun c => absurd (by rw [show (300 : Int32) = nI 300 from rfl, nI_leI (by decide) (by omega)]; omega) c⟩
      | succ f ih =>
        intro i pc o L v hi hv hpc ho hm
        rw [mvP_s] at hm
        obtain ⟨m0, m1⟩ := hm
        have nx : ∀ (v' : Int32) (pc' o' : Nat) (L' : Rw), v' + 1 = nI pc' → pc' ≤ 301 → o' ≤ 3 → mvP (μ 860) (μ 862) sz (fun pc' o' L' => pc' < sz → o' ≤ 3 → Rp (some (.int 1)) S (mvM μ (nI pc') o' L') ρ) (∀ v o' L', Rp (some (.int 0)) S (mvM μ v o' L') ρ) f pc' o' L' → w_X4_moveOn_108 (MS Z (d + 1)) G Rp [.ref 859, .int (nI i)] [] S (0, 0) (mvM μ v' o' L') ρ := by
          intro v' pc' o' L' a1 a2 a3 a4
          simp only [w_X4_moveOn_108, tAload, tIload, nth, tGetI, tGetR, tConst, tLconst, tBin, tUn, tI2l, tAld, tAldR, tAlen, tIast, tBast, tZast, tAast, tIret, tZret, tVret, tAret, tIf, tIf2, tGoto, tIstore, tAstore, sset, tIinc, tDup, tDup2, tPop, tPutI, tPutZ, tPutR, tCallV, tCallS, popN, tFn, tCopy, tMax, tMin, tSw, swc, tRem, tObjI, Option.toList, List.nil_append, List.cons_append, okR, true_and, and_true, true_or, or_true, Nat.zero_le, ne_eq, not_false_eq_true, Nat.reduceEqDiff, nI_s1]
          exact ih (i + 1) pc' o' L' v' (by omega) a1 a2 a3 a4
        apply g2
        simp only [w_X4_moveOn_2, tAload, tIload, nth, tGetI, tGetR, tConst, tLconst, tBin, tUn, tI2l, tAld, tAldR, tAlen, tIast, tBast, tZast, tAast, tIret, tZret, tVret, tAret, tIf, tIf2, tGoto, tIstore, tAstore, sset, tIinc, tDup, tDup2, tPop, tPutI, tPutZ, tPutR, tCallV, tCallS, popN, tFn, tCopy, tMax, tMin, tSw, swc, tRem, tObjI, Option.toList, List.nil_append, List.cons_append, okR, true_and, and_true, true_or, or_true, Nat.zero_le, ne_eq, not_false_eq_true, Nat.reduceEqDiff, h1, mvM_9, mvM_u9, hv, x7]
        refine ⟨fun c => absurd c (by rw [show (300 : Int32) = nI 300 from rfl, nI_leI (by decide) (by omega)]; omega), fun _ => ⟨fun c => ?_, fun c => m0 (by rw [nI_ltI (by omega) (by omega)] at c; omega) _ _ _⟩⟩
        rw [nI_ltI (by omega) (by omega)] at c
        obtain ⟨m2, m3, m4⟩ := m1 c
        simp only [w_X4_moveOn_32, tAload, tIload, nth, tGetI, tGetR, tConst, tLconst, tBin, tUn, tI2l, tAld, tAldR, tAlen, tIast, tBast, tZast, tAast, tIret, tZret, tVret, tAret, tIf, tIf2, tGoto, tIstore, tAstore, sset, tIinc, tDup, tDup2, tPop, tPutI, tPutZ, tPutR, tCallV, tCallS, popN, tFn, tCopy, tMax, tMin, tSw, swc, tRem, tObjI, Option.toList, List.nil_append, List.cons_append, okR, true_and, and_true, true_or, or_true, Nat.zero_le, ne_eq, not_false_eq_true, Nat.reduceEqDiff, h1, s0, r0, mvM_9, x0, nI_clamp (show pc < 2 ^ 31 by omega)]
        refine ⟨inb_nI (by omega) (by decide), fun c2 => ?_, fun c2 => ?_⟩
        · simp only [w_X4_moveOn_85, w_X4_moveOn_106, tAload, tIload, nth, tGetI, tGetR, tConst, tLconst, tBin, tUn, tI2l, tAld, tAldR, tAlen, tIast, tBast, tZast, tAast, tIret, tZret, tVret, tAret, tIf, tIf2, tGoto, tIstore, tAstore, sset, tIinc, tDup, tDup2, tPop, tPutI, tPutZ, tPutR, tCallV, tCallS, popN, tFn, tCopy, tMax, tMin, tSw, swc, tRem, tObjI, Option.toList, List.nil_append, List.cons_append, okR, true_and, and_true, true_or, or_true, Nat.zero_le, ne_eq, not_false_eq_true, Nat.reduceEqDiff, F_X4_turn, h1, s0, r0, mvM_9, x0, nI_clamp (show pc < 2 ^ 31 by omega)]
          refine ⟨inb_nI (by omega) (by decide), fun c3 => m4 c2 c3 c ho, fun c3 => ?_⟩
          obtain ⟨n1, n2, n3, n4⟩ := m3 (Classical.not_not.mp c3)
          refine ⟨hP', μ, pc, o, L, rfl, n1, n2, by omega, fun q => ?_, fun q => ?_⟩
          · obtain ⟨j, j1, j2, j3⟩ := n3 q
            rw [j1]
            exact nx _ (j + 1) o _ nI_s1 (by omega) ho j3
          · exact nx _ (pc + 1) (o - 1) _ nI_s1 (by omega) (by omega) (n4 q)
        · obtain ⟨n1, n2⟩ := m2 (Classical.not_not.mp c2)
          simp only [tAload, tIload, nth, tGetI, tGetR, tConst, tLconst, tBin, tUn, tI2l, tAld, tAldR, tAlen, tIast, tBast, tZast, tAast, tIret, tZret, tVret, tAret, tIf, tIf2, tGoto, tIstore, tAstore, sset, tIinc, tDup, tDup2, tPop, tPutI, tPutZ, tPutR, tCallV, tCallS, popN, tFn, tCopy, tMax, tMin, tSw, swc, tRem, tObjI, Option.toList, List.nil_append, List.cons_append, okR, true_and, and_true, true_or, or_true, Nat.zero_le, ne_eq, not_false_eq_true, Nat.reduceEqDiff, h1, s6, s2, r6, r2, mvM_8, mvM_9, mvM_866, x2, nI_clamp (show o < 2 ^ 31 by omega), nI_clamp (show pc < 2 ^ 31 by omega), mvM_uL, mvM_u8, nI_s1]
          refine ⟨fun q => absurd q (by rw [show (3 : Int32) = nI 3 from rfl, nI_leI (by decide) (by omega)]; omega), fun _ => ⟨inb_nI (by omega) (by decide), inb_nI (by omega) (by decide), ?_⟩⟩
          exact nx _ (pc + 1) (o + 1) _ nI_s1 (by omega) (by omega) n2
    simp only [w_X4_moveOn_0, tAload, tIload, nth, tGetI, tGetR, tConst, tLconst, tBin, tUn, tI2l, tAld, tAldR, tAlen, tIast, tBast, tZast, tAast, tIret, tZret, tVret, tAret, tIf, tIf2, tGoto, tIstore, tAstore, sset, tIinc, tDup, tDup2, tPop, tPutI, tPutZ, tPutR, tCallV, tCallS, popN, tFn, tCopy, tMax, tMin, tSw, swc, tRem, tObjI, Option.toList, List.nil_append, List.cons_append, okR, true_and, and_true, true_or, or_true, Nat.zero_le, ne_eq, not_false_eq_true, Nat.reduceEqDiff]
    have := loop 300 0 pc o (μ 866) (μ 859 9) (by omega) e9 hpc ho h
    rw [mvM_self e8] at this
    exact this
  · exact h.elim
