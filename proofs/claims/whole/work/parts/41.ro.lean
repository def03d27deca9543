/-! ===== the reference: what a message does ===== -/
theorem qSend_post {A : Rw} {m8 : Int32} {f t : Nat} {kd x y : Int32} : qSend A m8 f t kd x y = qPost A f t (rowS (nI f) (nI t) (A (514 * f + 1)) kd x y (rndS A m8 f kd)) := rfl
theorem rndS_z {A : Rw} {m8 : Int32} {f : Nat} {kd : Int32} (h : kd = 0 ∨ kd = 1 ∨ kd = 6 ∨ kd = 7 ∨ kd = 8) : rndS A m8 f kd = 0 := by rcases h with rfl | rfl | rfl | rfl | rfl <;> rfl
/-- a store's log is in range -/
def bsOK (A : Rw) (s : Nat) : Prop := rg (A 4510) 0 60 ∧ rg (A (514 * s + 4)) 0 120 ∧ rg (A (514 * s + 5)) 0 120
def w_X12_asked_69 (M : CT) (G : Nat → PT) (Rp : RT) : PT := tConst 0 <| tFn 6 F_X12_sends <| tIstore 7 <| tVret Rp
def w_X12_asked_68 (M : CT) (G : Nat → PT) (Rp : RT) : PT := tConst 0 <| w_X12_asked_69 M G Rp
def w_X12_asked_55 (M : CT) (G : Nat → PT) (Rp : RT) : PT := tAload 0 <| tIload 1 <| tIload 2 <| tConst 1 <| tIload 6 <| tIf (fun x => x = 0) (w_X12_asked_68 M G Rp) <| tConst 1 <| tGoto (w_X12_asked_69 M G Rp)
def w_X12_asked_41 (M : CT) (G : Nat → PT) (Rp : RT) : PT := tIstore 6 <| tIload 6 <| tIf (fun x => x = 0) (w_X12_asked_55 M G Rp) <| tAload 0 <| tIload 1 <| tConst 2 <| tIload 2 <| tFn 4 F_X12_lays <| w_X12_asked_55 M G Rp
def w_X12_asked_40 (M : CT) (G : Nat → PT) (Rp : RT) : PT := tConst 0 <| w_X12_asked_41 M G Rp
def w_X12_asked_24 (M : CT) (G : Nat → PT) (Rp : RT) : PT := tAload 0 <| tIload 1 <| tIload 4 <| tIload 5 <| tFn 4 F_X12_isAsFar <| tIf (fun x => x = 0) (w_X12_asked_40 M G Rp) <| tConst 1 <| tGoto (w_X12_asked_41 M G Rp)
def w_X12_asked_0 (M : CT) (G : Nat → PT) (Rp : RT) : PT := tIload 3 <| tIf (fun x => x = 0) (w_X12_asked_40 M G Rp) <| tAload 0 <| tIload 1 <| tConst 2 <| tFn 3 F_X12_of <| tConst (-1) <| tIf2 (fun x y => x = y) (w_X12_asked_24 M G Rp) <| tAload 0 <| tIload 1 <| tConst 2 <| tFn 3 F_X12_of <| tIload 2 <| tIf2 (fun x y => x ≠ y) (w_X12_asked_40 M G Rp) <| w_X12_asked_24 M G Rp
set_option maxRecDepth 20000 in
theorem b_X12_asked_69 {Z : Zt} {d : Nat} {p : Program} {e : Env} {R : Room} {s : State} {m : MethodId} {args : Array Value} {below : List Frame} {meth : Method} {c : Code} {Rp : RT} (C : Cx Z (d + 4) jX12_asked RX12 p R s m args meth c) : Sd Z jX12_asked p e R s m args below meth c (MQ below (QcS Z Rp) args s 0 0 (fun a => Z.2.2.1 < a)) 69 (w_X12_asked_69 (MS Z (d + 4)) (Gw Z 8 p e R s m args below meth c (MQ below (QcS Z Rp) args s 0 0 (fun a => Z.2.2.1 < a))) Rp) := by
  unfold w_X12_asked_69
  refine s_iconst (n := 0) C (by decide +kernel) (by decide) ?_
  refine s_fnV C (j2 := jX12_sends) (cl := 12) (nf := 27) rfl rfl (by decide +kernel) rfl w_7_27 w_7_29 w_p4_6 w_1_13 w_7_30 (by decide +kernel) (fun _ _ _ _ _ h => f_X12_sends h) (fun _ _ _ _ _ h => r_X12_sends h) ?_
  refine s_istore (k := 7) C (by decide +kernel) ?_
  exact s_vret C rfl (by decide +kernel)
set_option maxRecDepth 20000 in
theorem b_X12_asked_68 {Z : Zt} {d : Nat} {p : Program} {e : Env} {R : Room} {s : State} {m : MethodId} {args : Array Value} {below : List Frame} {meth : Method} {c : Code} {Rp : RT} (C : Cx Z (d + 4) jX12_asked RX12 p R s m args meth c) : Sd Z jX12_asked p e R s m args below meth c (MQ below (QcS Z Rp) args s 0 0 (fun a => Z.2.2.1 < a)) 68 (w_X12_asked_68 (MS Z (d + 4)) (Gw Z 8 p e R s m args below meth c (MQ below (QcS Z Rp) args s 0 0 (fun a => Z.2.2.1 < a))) Rp) := by
  unfold w_X12_asked_68
  refine s_iconst (n := 0) C (by decide +kernel) (by decide) ?_
  exact (b_X12_asked_69 C)
set_option maxRecDepth 20000 in
theorem b_X12_asked_55 {Z : Zt} {d : Nat} {p : Program} {e : Env} {R : Room} {s : State} {m : MethodId} {args : Array Value} {below : List Frame} {meth : Method} {c : Code} {Rp : RT} (C : Cx Z (d + 4) jX12_asked RX12 p R s m args meth c) : Sd Z jX12_asked p e R s m args below meth c (MQ below (QcS Z Rp) args s 0 0 (fun a => Z.2.2.1 < a)) 55 (w_X12_asked_55 (MS Z (d + 4)) (Gw Z 8 p e R s m args below meth c (MQ below (QcS Z Rp) args s 0 0 (fun a => Z.2.2.1 < a))) Rp) := by
  unfold w_X12_asked_55
  refine s_aload_n (k := 0) C (by decide +kernel) ?_
  refine s_iload_n (k := 1) C (by decide +kernel) ?_
  refine s_iload_n (k := 2) C (by decide +kernel) ?_
  refine s_iconst (n := 1) C (by decide +kernel) (by decide) ?_
  refine s_iload (k := 6) C (by decide +kernel) ?_
  refine s_if_eq (off := 7) (tgt := 68) C (by decide +kernel) (by decide) (b_X12_asked_68 C) ?_
  refine s_iconst (n := 1) C (by decide +kernel) (by decide) ?_
  exact s_goto (off := 4) (tgt := 69) C (by decide +kernel) (by decide) (b_X12_asked_69 C)
set_option maxRecDepth 20000 in
theorem b_X12_asked_41 {Z : Zt} {d : Nat} {p : Program} {e : Env} {R : Room} {s : State} {m : MethodId} {args : Array Value} {below : List Frame} {meth : Method} {c : Code} {Rp : RT} (C : Cx Z (d + 4) jX12_asked RX12 p R s m args meth c) : Sd Z jX12_asked p e R s m args below meth c (MQ below (QcS Z Rp) args s 0 0 (fun a => Z.2.2.1 < a)) 41 (w_X12_asked_41 (MS Z (d + 4)) (Gw Z 8 p e R s m args below meth c (MQ below (QcS Z Rp) args s 0 0 (fun a => Z.2.2.1 < a))) Rp) := by
  unfold w_X12_asked_41
  refine s_istore (k := 6) C (by decide +kernel) ?_
  refine s_iload (k := 6) C (by decide +kernel) ?_
  refine s_if_eq (off := 10) (tgt := 55) C (by decide +kernel) (by decide) (b_X12_asked_55 C) ?_
  refine s_aload_n (k := 0) C (by decide +kernel) ?_
  refine s_iload_n (k := 1) C (by decide +kernel) ?_
  refine s_iconst (n := 2) C (by decide +kernel) (by decide) ?_
  refine s_iload_n (k := 2) C (by decide +kernel) ?_
  refine s_fnV C (j2 := jX12_lays) (cl := 12) (nf := 27) rfl rfl (by decide +kernel) rfl w_6_82 w_6_84 w_p3_4 w_1_13 w_6_85 (by decide +kernel) (fun _ _ _ _ _ h => f_X12_lays h) (fun _ _ _ _ _ h => r_X12_lays h) ?_
  exact (b_X12_asked_55 C)
set_option maxRecDepth 20000 in
theorem b_X12_asked_40 {Z : Zt} {d : Nat} {p : Program} {e : Env} {R : Room} {s : State} {m : MethodId} {args : Array Value} {below : List Frame} {meth : Method} {c : Code} {Rp : RT} (C : Cx Z (d + 4) jX12_asked RX12 p R s m args meth c) : Sd Z jX12_asked p e R s m args below meth c (MQ below (QcS Z Rp) args s 0 0 (fun a => Z.2.2.1 < a)) 40 (w_X12_asked_40 (MS Z (d + 4)) (Gw Z 8 p e R s m args below meth c (MQ below (QcS Z Rp) args s 0 0 (fun a => Z.2.2.1 < a))) Rp) := by
  unfold w_X12_asked_40
  refine s_iconst (n := 0) C (by decide +kernel) (by decide) ?_
  exact (b_X12_asked_41 C)
set_option maxRecDepth 20000 in
theorem b_X12_asked_24 {Z : Zt} {d : Nat} {p : Program} {e : Env} {R : Room} {s : State} {m : MethodId} {args : Array Value} {below : List Frame} {meth : Method} {c : Code} {Rp : RT} (C : Cx Z (d + 4) jX12_asked RX12 p R s m args meth c) : Sd Z jX12_asked p e R s m args below meth c (MQ below (QcS Z Rp) args s 0 0 (fun a => Z.2.2.1 < a)) 24 (w_X12_asked_24 (MS Z (d + 4)) (Gw Z 8 p e R s m args below meth c (MQ below (QcS Z Rp) args s 0 0 (fun a => Z.2.2.1 < a))) Rp) := by
  unfold w_X12_asked_24
  refine s_aload_n (k := 0) C (by decide +kernel) ?_
  refine s_iload_n (k := 1) C (by decide +kernel) ?_
  refine s_iload (k := 4) C (by decide +kernel) ?_
  refine s_iload (k := 5) C (by decide +kernel) ?_
  refine s_fnV C (j2 := jX12_isAsFar) (cl := 12) (nf := 27) rfl rfl (by decide +kernel) rfl w_7_188 w_7_190 w_p6_1 w_1_13 w_7_191 (by decide +kernel) (fun _ _ _ _ _ h => f_X12_isAsFar h) (fun _ _ _ _ _ h => r_X12_isAsFar h) ?_
  refine s_if_eq (off := 7) (tgt := 40) C (by decide +kernel) (by decide) (b_X12_asked_40 C) ?_
  refine s_iconst (n := 1) C (by decide +kernel) (by decide) ?_
  exact s_goto (off := 4) (tgt := 41) C (by decide +kernel) (by decide) (b_X12_asked_41 C)
set_option maxRecDepth 20000 in
theorem b_X12_asked_0 {Z : Zt} {d : Nat} {p : Program} {e : Env} {R : Room} {s : State} {m : MethodId} {args : Array Value} {below : List Frame} {meth : Method} {c : Code} {Rp : RT} (C : Cx Z (d + 4) jX12_asked RX12 p R s m args meth c) : Sd Z jX12_asked p e R s m args below meth c (MQ below (QcS Z Rp) args s 0 0 (fun a => Z.2.2.1 < a)) 0 (w_X12_asked_0 (MS Z (d + 4)) (Gw Z 8 p e R s m args below meth c (MQ below (QcS Z Rp) args s 0 0 (fun a => Z.2.2.1 < a))) Rp) := by
  unfold w_X12_asked_0
  refine s_iload_n (k := 3) C (by decide +kernel) ?_
  refine s_if_eq (off := 39) (tgt := 40) C (by decide +kernel) (by decide) (b_X12_asked_40 C) ?_
  refine s_aload_n (k := 0) C (by decide +kernel) ?_
  refine s_iload_n (k := 1) C (by decide +kernel) ?_
  refine s_iconst (n := 2) C (by decide +kernel) (by decide) ?_
  refine s_fnV C (j2 := jX12_of) (cl := 12) (nf := 27) rfl rfl (by decide +kernel) rfl w_6_220 w_6_222 w_p3_11 w_1_13 w_6_223 (by decide +kernel) (fun _ _ _ _ _ h => f_X12_of h) (fun _ _ _ _ _ h => r_X12_of h) ?_
  refine s_iconst (n := (-1)) C (by decide +kernel) (by decide) ?_
  refine s_icmp_eq (off := 13) (tgt := 24) C (by decide +kernel) (by decide) (b_X12_asked_24 C) ?_
  refine s_aload_n (k := 0) C (by decide +kernel) ?_
  refine s_iload_n (k := 1) C (by decide +kernel) ?_
  refine s_iconst (n := 2) C (by decide +kernel) (by decide) ?_
  refine s_fnV C (j2 := jX12_of) (cl := 12) (nf := 27) rfl rfl (by decide +kernel) rfl w_6_220 w_6_222 w_p3_11 w_1_13 w_6_223 (by decide +kernel) (fun _ _ _ _ _ h => f_X12_of h) (fun _ _ _ _ _ h => r_X12_of h) ?_
  refine s_iload_n (k := 2) C (by decide +kernel) ?_
  refine s_icmp_ne (off := 19) (tgt := 40) C (by decide +kernel) (by decide) (b_X12_asked_40 C) ?_
  exact (b_X12_asked_24 C)
theorem ms_X12_asked {Z : Zt} {d : Nat} {S : Sh} {μ : Mi} {ρ : Mr} {Rp : RT} (a0 : Nat) (x1 : Int32) (x2 : Int32) (x3 : Int32) (x4 : Int32) (x5 : Int32) (h : ∀ G : Nat → PT, w_X12_asked_0 (MS Z (d + 4)) G Rp [.ref a0, .int x1, .int x2, .int x3, .int x4, .int x5, .null, .null] [] S (0, 0) μ ρ) : MS Z (d + 5) jX12_asked [.ref a0, .int x1, .int x2, .int x3, .int x4, .int x5] S μ ρ Rp :=
  MS_of [.ref a0, .int x1, .int x2, .int x3, .int x4, .int x5, .null, .null] (by decide +kernel) rfl rfl (Nat.le_of_ble_eq_true rfl) rfl (fun p e R s m args below meth c C => b_X12_asked_0 C _ _ _ _ _ _ (h _ ))
def F_X12_asked : FT := fun As S μ ρ k => match As with
  | [.ref a, .int s, .int f, .int o, .int l, .int t] => a = 2737 ∧ RS S ρ ∧ rg s 0 4 ∧ rg f 0 4 ∧ bsOK (μ 2738) s.toNatClampNeg ∧ k none (upF μ 2738 (qAsked (μ 2738) s.toNatClampNeg f.toNatClampNeg (¬ o = 0) l t))
  | _ => False
theorem r_X12_asked {As S μ ρ k} (h : F_X12_asked As S μ ρ k) : ∃ a As', As = Value.ref a :: As' ∧ S.2 a = (12, 27) := by
  unfold F_X12_asked at h
  split at h
  · exact ⟨_, _, rfl, by rw [h.1]; exact h.2.1.1⟩
  · exact h.elim
set_option maxHeartbeats 1000000 in
theorem f_X12_asked {Z : Zt} {d : Nat} {As : List Value} {S : Sh} {μ : Mi} {ρ : Mr} {Rp : RT} (h : F_X12_asked As S μ ρ (fun r μ' => Rp r S μ' ρ)) : MS Z (d + 5) jX12_asked As S μ ρ Rp := by
  unfold F_X12_asked at h
  split at h
  · rename_i a s f o l t
    obtain ⟨rfl, hS, h⟩ := h
    have hS0 := hS
    unfold RS at hS
    obtain ⟨h1, hf, h2, h⟩ := h
    obtain ⟨s, rfl, hs0, -, hs⟩ := rg_ex h1
    obtain ⟨f, rfl, hf0, -, hf1⟩ := rg_ex hf
    have hs5 : s < 5 := by omega
    have hrs := rg_T (lo := 0) (hi := 4) (n := s) (by omega) (by omega) hs0
    have hrf := rg_T (lo := 0) (hi := 4) (n := f) (by omega) (by omega) hf0
    simp (disch := omega) only [nI_clamp] at h h2
    obtain ⟨k1, k2, k3⟩ := h2
    refine ms_X12_asked _ _ _ _ _ _ (fun G => ?_)
    have i2 : (514 : Int32) * nI s + 2 = nI (514 * s + 2) := ixs 2 2 rfl
    have b2' : inb (nI (514 * s + 2)) 13548 := inb_nI (by omega) (by decide)
    have X0 : ¬ gives (μ 2738) s (nI f) (¬ o = 0) l t → ∀ v6 v7, w_X12_asked_40 (MS Z (d + 4)) G Rp [.ref 2737, .int (nI s), .int (nI f), .int o, .int l, .int t, v6, v7] [] S (0, 0) μ ρ := by
      intro c v6 v7
      simp only [w_X12_asked_40, w_X12_asked_41, w_X12_asked_55, w_X12_asked_68, w_X12_asked_69, tAload, tIload, nth, tGetI, tGetR, tConst, tLconst, tBin, tUn, tI2l, tAld, tAldR, tAlen, tIast, tBast, tZast, tAast, tIret, tZret, tVret, tAret, tIf, tIf2, tGoto, tIstore, tAstore, sset, tIinc, tDup, tDup2, tPop, tPutI, tPutZ, tPutR, tCallV, tCallS, popN, tFn, tCopy, tMax, tMin, tSw, swc, tRem, tObjI, Option.toList, List.nil_append, List.cons_append, okR, true_and, and_true, true_or, or_true, Nat.zero_le, ne_eq, not_false_eq_true, Nat.reduceEqDiff, F_X12_sends, hS0, hrs, hrf]
      simp (disch := omega) only [nI_clamp]
      refine ⟨fun _ => ⟨fun _ => ⟨k1, ?_⟩, fun z => absurd trivial z⟩, fun z => absurd trivial z⟩
      unfold qAsked at h
      rw [if_neg c] at h
      rw [qSend_post, rndS_z (by decide)]
      exact h
    have Y0 : (¬ o = 0) → (μ 2738 (514 * s + 2) = -1 ∨ μ 2738 (514 * s + 2) = nI f) → ∀ v6 v7, w_X12_asked_24 (MS Z (d + 4)) G Rp [.ref 2737, .int (nI s), .int (nI f), .int o, .int l, .int t, v6, v7] [] S (0, 0) μ ρ := by
      intro c1 c2 v6 v7
      simp only [w_X12_asked_24, tAload, tIload, nth, tGetI, tGetR, tConst, tLconst, tBin, tUn, tI2l, tAld, tAldR, tAlen, tIast, tBast, tZast, tAast, tIret, tZret, tVret, tAret, tIf, tIf2, tGoto, tIstore, tAstore, sset, tIinc, tDup, tDup2, tPop, tPutI, tPutZ, tPutR, tCallV, tCallS, popN, tFn, tCopy, tMax, tMin, tSw, swc, tRem, tObjI, Option.toList, List.nil_append, List.cons_append, okR, true_and, and_true, true_or, or_true, Nat.zero_le, ne_eq, not_false_eq_true, Nat.reduceEqDiff, F_X12_isAsFar, hS0, hrs, b2_z, Decidable.not_not]
      simp (disch := omega) only [nI_clamp]
      refine ⟨k2, k3, fun c => X0 (fun z => c z.2.2) _ _, fun c => ?_⟩
      simp only [w_X12_asked_41, w_X12_asked_55, w_X12_asked_68, w_X12_asked_69, tAload, tIload, nth, tGetI, tGetR, tConst, tLconst, tBin, tUn, tI2l, tAld, tAldR, tAlen, tIast, tBast, tZast, tAast, tIret, tZret, tVret, tAret, tIf, tIf2, tGoto, tIstore, tAstore, sset, tIinc, tDup, tDup2, tPop, tPutI, tPutZ, tPutR, tCallV, tCallS, popN, tFn, tCopy, tMax, tMin, tSw, swc, tRem, tObjI, Option.toList, List.nil_append, List.cons_append, okR, true_and, and_true, true_or, or_true, Nat.zero_le, ne_eq, not_false_eq_true, Nat.reduceEqDiff, F_X12_sends, F_X12_lays, hS0, hrs, hrf, upF_same, upF_upF, i2, b2']
      simp (disch := omega) only [nI_clamp]
      have n4 : up (μ 2738) (514 * s + 2) (nI f) 4510 = μ 2738 4510 := up_ne (by omega)
      have n1 : up (μ 2738) (514 * s + 2) (nI f) (514 * s + 1) = μ 2738 (514 * s + 1) := up_ne (by omega)
      rw [n4]
      refine ⟨fun z => absurd z (by decide), fun _ => ⟨fun z => absurd z (by decide), fun _ => ⟨k1, ?_⟩⟩⟩
      unfold qAsked at h
      rw [if_pos ⟨c1, c2, c⟩] at h
      rw [qSend_post, rndS_z (by decide), n1]
      exact h
    simp only [w_X12_asked_0, tAload, tIload, nth, tGetI, tGetR, tConst, tLconst, tBin, tUn, tI2l, tAld, tAldR, tAlen, tIast, tBast, tZast, tAast, tIret, tZret, tVret, tAret, tIf, tIf2, tGoto, tIstore, tAstore, sset, tIinc, tDup, tDup2, tPop, tPutI, tPutZ, tPutR, tCallV, tCallS, popN, tFn, tCopy, tMax, tMin, tSw, swc, tRem, tObjI, Option.toList, List.nil_append, List.cons_append, okR, true_and, and_true, true_or, or_true, Nat.zero_le, ne_eq, not_false_eq_true, Nat.reduceEqDiff, F_X12_of, hS0, i2, b2']
    simp (disch := omega) only [nI_clamp]
    refine ⟨fun c => X0 (fun z => z.1 c) _ _, fun c => ⟨fun c2 => Y0 c (Or.inl c2) _ _, fun c2 => ⟨fun c3 => X0 (fun z => z.2.1.elim c2 c3) _ _, fun c3 => Y0 c (Or.inr (Decidable.not_not.mp c3)) _ _⟩⟩⟩
  · exact h.elim
/-- one's votes don't matter for its log -/
theorem ldOK_up {A : Rw} {s k : Nat} {v : Int32} (hs : s < 5) (h : ldOK A s) (hk : k = 2 ∨ k = 3 ∨ k = 8 ∨ k = 11 ∨ k = 12 ∨ k = 13 ∨ k = 15) : ldOK (up A (514 * s + k) v) s := by
  refine ldOK_of hs h.1 h.2.1 (by rw [up_ne (by omega)]; exact h.2.2) (by rw [up_ne (by omega)]; exact h.1.1.1) (fun i q1 q2 c1 c2 c3 c4 c5 c6 c7 c8 => by rw [up_ne (by omega)])
def w_X12_voted_42 (M : CT) (G : Nat → PT) (Rp : RT) : PT := tVret Rp
def w_X12_voted_0 (M : CT) (G : Nat → PT) (Rp : RT) : PT := tAload 0 <| tIload 1 <| tConst 8 <| tAload 0 <| tIload 1 <| tConst 8 <| tFn 3 F_X12_of <| tConst 1 <| tIload 2 <| tBin (fun x y => x <<< (y &&& 31)) <| tBin (fun x y => x ||| y) <| tFn 4 F_X12_lays <| tAload 0 <| tIload 1 <| tFn 2 F_X12_laysMembers <| tAload 0 <| tAload 0 <| tIload 1 <| tConst 8 <| tFn 3 F_X12_of <| tFn 2 F_X12_isMajority <| tIf (fun x => x = 0) (w_X12_voted_42 M G Rp) <| tAload 0 <| tIload 1 <| tFn 2 F_X12_leads <| w_X12_voted_42 M G Rp
set_option maxRecDepth 20000 in
theorem b_X12_voted_42 {Z : Zt} {d : Nat} {p : Program} {e : Env} {R : Room} {s : State} {m : MethodId} {args : Array Value} {below : List Frame} {meth : Method} {c : Code} {Rp : RT} (C : Cx Z (d + 8) jX12_voted RX12 p R s m args meth c) : Sd Z jX12_voted p e R s m args below meth c (MQ below (QcS Z Rp) args s 0 0 (fun a => Z.2.2.1 < a)) 42 (w_X12_voted_42 (MS Z (d + 8)) (Gw Z 3 p e R s m args below meth c (MQ below (QcS Z Rp) args s 0 0 (fun a => Z.2.2.1 < a))) Rp) := by
  unfold w_X12_voted_42
  exact s_vret C rfl (by decide +kernel)
set_option maxRecDepth 20000 in
theorem b_X12_voted_0 {Z : Zt} {d : Nat} {p : Program} {e : Env} {R : Room} {s : State} {m : MethodId} {args : Array Value} {below : List Frame} {meth : Method} {c : Code} {Rp : RT} (C : Cx Z (d + 8) jX12_voted RX12 p R s m args meth c) : Sd Z jX12_voted p e R s m args below meth c (MQ below (QcS Z Rp) args s 0 0 (fun a => Z.2.2.1 < a)) 0 (w_X12_voted_0 (MS Z (d + 8)) (Gw Z 3 p e R s m args below meth c (MQ below (QcS Z Rp) args s 0 0 (fun a => Z.2.2.1 < a))) Rp) := by
  unfold w_X12_voted_0
  refine s_aload_n (k := 0) C (by decide +kernel) ?_
  refine s_iload_n (k := 1) C (by decide +kernel) ?_
  refine s_bipush (n := 8) C (by decide +kernel) (by decide) ?_
  refine s_aload_n (k := 0) C (by decide +kernel) ?_
  refine s_iload_n (k := 1) C (by decide +kernel) ?_
  refine s_bipush (n := 8) C (by decide +kernel) (by decide) ?_
  refine s_fnV C (j2 := jX12_of) (cl := 12) (nf := 27) rfl rfl (by decide +kernel) rfl w_6_220 w_6_222 w_p3_11 w_1_13 w_6_223 (by decide +kernel) (fun _ _ _ _ _ h => f_X12_of h) (fun _ _ _ _ _ h => r_X12_of h) ?_
  refine s_iconst (n := 1) C (by decide +kernel) (by decide) ?_
  refine s_iload_n (k := 2) C (by decide +kernel) ?_
  refine s_ishl C (by decide +kernel) ?_
  refine s_ior C (by decide +kernel) ?_
  refine s_fnV C (j2 := jX12_lays) (cl := 12) (nf := 27) rfl rfl (by decide +kernel) rfl w_6_82 w_6_84 w_p3_4 w_1_13 w_6_85 (by decide +kernel) (fun _ _ _ _ _ h => f_X12_lays h) (fun _ _ _ _ _ h => r_X12_lays h) ?_
  refine s_aload_n (k := 0) C (by decide +kernel) ?_
  refine s_iload_n (k := 1) C (by decide +kernel) ?_
  refine s_fnV C (j2 := jX12_laysMembers) (cl := 12) (nf := 27) rfl rfl (by decide +kernel) rfl w_6_216 w_6_218 w_p3_10 w_1_13 w_6_219 (by decide +kernel) (fun _ _ _ _ _ h => f_X12_laysMembers h) (fun _ _ _ _ _ h => r_X12_laysMembers h) ?_
  refine s_aload_n (k := 0) C (by decide +kernel) ?_
  refine s_aload_n (k := 0) C (by decide +kernel) ?_
  refine s_iload_n (k := 1) C (by decide +kernel) ?_
  refine s_bipush (n := 8) C (by decide +kernel) (by decide) ?_
  refine s_fnV C (j2 := jX12_of) (cl := 12) (nf := 27) rfl rfl (by decide +kernel) rfl w_6_220 w_6_222 w_p3_11 w_1_13 w_6_223 (by decide +kernel) (fun _ _ _ _ _ h => f_X12_of h) (fun _ _ _ _ _ h => r_X12_of h) ?_
  refine s_fnV C (j2 := jX12_isMajority) (cl := 12) (nf := 27) rfl rfl (by decide +kernel) rfl w_7_35 w_7_37 w_p4_8 w_1_13 w_7_38 (by decide +kernel) (fun _ _ _ _ _ h => f_X12_isMajority h) (fun _ _ _ _ _ h => r_X12_isMajority h) ?_
  refine s_if_eq (off := 8) (tgt := 42) C (by decide +kernel) (by decide) (b_X12_voted_42 C) ?_
  refine s_aload_n (k := 0) C (by decide +kernel) ?_
  refine s_iload_n (k := 1) C (by decide +kernel) ?_
  refine s_fnV C (j2 := jX12_leads) (cl := 12) (nf := 27) rfl rfl (by decide +kernel) rfl w_7_39 w_7_41 w_p4_9 w_1_13 w_7_42 (by decide +kernel) (fun _ _ _ _ _ h => f_X12_leads h) (fun _ _ _ _ _ h => r_X12_leads h) ?_
  exact (b_X12_voted_42 C)
theorem ms_X12_voted {Z : Zt} {d : Nat} {S : Sh} {μ : Mi} {ρ : Mr} {Rp : RT} (a0 : Nat) (x1 : Int32) (x2 : Int32) (h : ∀ G : Nat → PT, w_X12_voted_0 (MS Z (d + 8)) G Rp [.ref a0, .int x1, .int x2] [] S (0, 0) μ ρ) : MS Z (d + 9) jX12_voted [.ref a0, .int x1, .int x2] S μ ρ Rp :=
  MS_of [.ref a0, .int x1, .int x2] (by decide +kernel) rfl rfl (Nat.le_of_ble_eq_true rfl) rfl (fun p e R s m args below meth c C => b_X12_voted_0 C _ _ _ _ _ _ (h _ ))
def F_X12_voted : FT := fun As S μ ρ k => match As with
  | [.ref a, .int s, .int f] => a = 2737 ∧ RS S ρ ∧ rg s 0 4 ∧ rg f 0 4 ∧ ldOK (μ 2738) s.toNatClampNeg ∧ ∀ t : T4, k none (M3 μ t (qVoted (μ 2738) s.toNatClampNeg f.toNatClampNeg))
  | _ => False
theorem r_X12_voted {As S μ ρ k} (h : F_X12_voted As S μ ρ k) : ∃ a As', As = Value.ref a :: As' ∧ S.2 a = (12, 27) := by
  unfold F_X12_voted at h
  split at h
  · exact ⟨_, _, rfl, by rw [h.1]; exact h.2.1.1⟩
  · exact h.elim
set_option maxHeartbeats 1000000 in
theorem f_X12_voted {Z : Zt} {d : Nat} {As : List Value} {S : Sh} {μ : Mi} {ρ : Mr} {Rp : RT} (h : F_X12_voted As S μ ρ (fun r μ' => Rp r S μ' ρ)) : MS Z (d + 9) jX12_voted As S μ ρ Rp := by
  unfold F_X12_voted at h
  split at h
  · rename_i a s f
    obtain ⟨rfl, hS, h⟩ := h
    have hS0 := hS
    unfold RS at hS
    obtain ⟨h1, hf, h2, h⟩ := h
    obtain ⟨s, rfl, hs0, -, hs⟩ := rg_ex h1
    obtain ⟨f, rfl, hf0, -, hf1⟩ := rg_ex hf
    have hs5 : s < 5 := by omega
    have hrs := rg_T (lo := 0) (hi := 4) (n := s) (by omega) (by omega) hs0
    simp (disch := omega) only [nI_clamp] at h h2
    obtain ⟨t0, ht0⟩ := M3_self μ
    rw [ht0]
    generalize hA : μ 2738 = A at *
    have hl := ldOK_up (k := 8) (v := A (514 * s + 8) ||| (1 : Int32) <<< (nI f &&& 31)) hs5 h2 (by decide)
    have i8 : (514 : Int32) * nI s + 8 = nI (514 * s + 8) := ixs 8 8 rfl
    have b8 : inb (nI (514 * s + 8)) 13548 := inb_nI (by omega) (by decide)
    refine ms_X12_voted _ _ _ (fun G => ?_)
    simp only [w_X12_voted_0, w_X12_voted_42, tAload, tIload, nth, tGetI, tGetR, tConst, tLconst, tBin, tUn, tI2l, tAld, tAldR, tAlen, tIast, tBast, tZast, tAast, tIret, tZret, tVret, tAret, tIf, tIf2, tGoto, tIstore, tAstore, sset, tIinc, tDup, tDup2, tPop, tPutI, tPutZ, tPutR, tCallV, tCallS, popN, tFn, tCopy, tMax, tMin, tSw, swc, tRem, tObjI, Option.toList, List.nil_append, List.cons_append, okR, true_and, and_true, true_or, or_true, Nat.zero_le, ne_eq, not_false_eq_true, Nat.reduceEqDiff, F_X12_of, F_X12_lays, F_X12_laysMembers, F_X12_isMajority, F_X12_leads, hS0, hrs, i8, b8, M3_row, M3_upF, M3_setM, M3_M3, M3_8, M3_9, b2_z, Decidable.not_not]
    simp (disch := omega) only [nI_clamp]
    unfold qVoted at h
    refine ⟨hl.1.1.2.1, hl.1.1.2.2.1, fun c => ?_, fun c => ⟨hl, fun t => ?_⟩⟩
    · have := h (qMem (up A (514 * s + 8) (A (514 * s + 8) ||| (1 : Int32) <<< (nI f &&& 31))) s)
      rw [if_neg c] at this
      exact this
    · have := h t
      rw [if_pos c] at this
      exact this
  · exact h.elim
def w_X12_answers_0 (M : CT) (G : Nat → PT) (Rp : RT) : PT := tAload 0 <| tIload 1 <| tIload 2 <| tConst 3 <| tIload 3 <| tIload 4 <| tFn 6 F_X12_sends <| tIstore 5 <| tVret Rp
set_option maxRecDepth 20000 in
theorem b_X12_answers_0 {Z : Zt} {d : Nat} {p : Program} {e : Env} {R : Room} {s : State} {m : MethodId} {args : Array Value} {below : List Frame} {meth : Method} {c : Code} {Rp : RT} (C : Cx Z (d + 3) jX12_answers RX12 p R s m args meth c) : Sd Z jX12_answers p e R s m args below meth c (MQ below (QcS Z Rp) args s 0 0 (fun a => Z.2.2.1 < a)) 0 (w_X12_answers_0 (MS Z (d + 3)) (Gw Z 6 p e R s m args below meth c (MQ below (QcS Z Rp) args s 0 0 (fun a => Z.2.2.1 < a))) Rp) := by
  unfold w_X12_answers_0
  refine s_aload_n (k := 0) C (by decide +kernel) ?_
  refine s_iload_n (k := 1) C (by decide +kernel) ?_
  refine s_iload_n (k := 2) C (by decide +kernel) ?_
  refine s_iconst (n := 3) C (by decide +kernel) (by decide) ?_
  refine s_iload_n (k := 3) C (by decide +kernel) ?_
  refine s_iload (k := 4) C (by decide +kernel) ?_
  refine s_fnV C (j2 := jX12_sends) (cl := 12) (nf := 27) rfl rfl (by decide +kernel) rfl w_7_27 w_7_29 w_p4_6 w_1_13 w_7_30 (by decide +kernel) (fun _ _ _ _ _ h => f_X12_sends h) (fun _ _ _ _ _ h => r_X12_sends h) ?_
  refine s_istore (k := 5) C (by decide +kernel) ?_
  exact s_vret C rfl (by decide +kernel)
theorem ms_X12_answers {Z : Zt} {d : Nat} {S : Sh} {μ : Mi} {ρ : Mr} {Rp : RT} (a0 : Nat) (x1 : Int32) (x2 : Int32) (x3 : Int32) (x4 : Int32) (h : ∀ G : Nat → PT, w_X12_answers_0 (MS Z (d + 3)) G Rp [.ref a0, .int x1, .int x2, .int x3, .int x4, .null] [] S (0, 0) μ ρ) : MS Z (d + 4) jX12_answers [.ref a0, .int x1, .int x2, .int x3, .int x4] S μ ρ Rp :=
  MS_of [.ref a0, .int x1, .int x2, .int x3, .int x4, .null] (by decide +kernel) rfl rfl (Nat.le_of_ble_eq_true rfl) rfl (fun p e R s m args below meth c C => b_X12_answers_0 C _ _ _ _ _ _ (h _ ))
def F_X12_answers : FT := fun As S μ ρ k => match As with
  | [.ref a, .int s, .int f, .int x, .int y] => a = 2737 ∧ RS S ρ ∧ rg s 0 4 ∧ rg f 0 4 ∧ rg (μ 2738 4510) 0 60 ∧ k none (upF μ 2738 (qAnsTook (μ 2738) (μ 2744 8) s.toNatClampNeg f.toNatClampNeg x y))
  | _ => False
theorem r_X12_answers {As S μ ρ k} (h : F_X12_answers As S μ ρ k) : ∃ a As', As = Value.ref a :: As' ∧ S.2 a = (12, 27) := by
  unfold F_X12_answers at h
  split at h
  · exact ⟨_, _, rfl, by rw [h.1]; exact h.2.1.1⟩
  · exact h.elim
set_option maxHeartbeats 1000000 in
theorem f_X12_answers {Z : Zt} {d : Nat} {As : List Value} {S : Sh} {μ : Mi} {ρ : Mr} {Rp : RT} (h : F_X12_answers As S μ ρ (fun r μ' => Rp r S μ' ρ)) : MS Z (d + 4) jX12_answers As S μ ρ Rp := by
  unfold F_X12_answers at h
  split at h
  · rename_i a s f x y
    obtain ⟨rfl, hS, h⟩ := h
    have hS0 := hS
    unfold RS at hS
    obtain ⟨h1, hf, h2, h⟩ := h
    obtain ⟨s, rfl, hs0, -, hs⟩ := rg_ex h1
    obtain ⟨f, rfl, hf0, -, hf1⟩ := rg_ex hf
    have hrs := rg_T (lo := 0) (hi := 4) (n := s) (by omega) (by omega) hs0
    have hrf := rg_T (lo := 0) (hi := 4) (n := f) (by omega) (by omega) hf0
    simp (disch := omega) only [nI_clamp] at h h2
    refine ms_X12_answers _ _ _ _ _ (fun G => ?_)
    simp only [w_X12_answers_0, tAload, tIload, nth, tGetI, tGetR, tConst, tLconst, tBin, tUn, tI2l, tAld, tAldR, tAlen, tIast, tBast, tZast, tAast, tIret, tZret, tVret, tAret, tIf, tIf2, tGoto, tIstore, tAstore, sset, tIinc, tDup, tDup2, tPop, tPutI, tPutZ, tPutR, tCallV, tCallS, popN, tFn, tCopy, tMax, tMin, tSw, swc, tRem, tObjI, Option.toList, List.nil_append, List.cons_append, okR, true_and, and_true, true_or, or_true, Nat.zero_le, ne_eq, not_false_eq_true, Nat.reduceEqDiff, F_X12_sends, hS0, hrs, hrf]
    simp (disch := omega) only [nI_clamp]
    exact ⟨h2, h⟩
  · exact h.elim
def w_X12_answersRead_20 (M : CT) (G : Nat → PT) (Rp : RT) : PT := tAload 0 <| tIload 1 <| tConst 11 <| tConst 2 <| tFn 4 F_X12_lays <| tAload 0 <| tIload 1 <| tConst 13 <| tAload 0 <| tIload 1 <| tConst 16 <| tAload 0 <| tIload 1 <| tConst 12 <| tFn 3 F_X12_of <| tBin (fun x y => x + y) <| tFn 3 F_X12_of <| tFn 4 F_X12_lays <| tAload 0 <| tIload 1 <| tConst 15 <| tConst 0 <| tFn 4 F_X12_lays <| tVret Rp
def w_X12_answersRead_0 (M : CT) (G : Nat → PT) (Rp : RT) : PT := tAload 0 <| tIload 1 <| tFn 2 F_X12_laysMembers <| tAload 0 <| tAload 0 <| tIload 1 <| tConst 15 <| tFn 3 F_X12_of <| tFn 2 F_X12_isMajority <| tIf (fun x => x ≠ 0) (w_X12_answersRead_20 M G Rp) <| tVret Rp
set_option maxRecDepth 20000 in
theorem b_X12_answersRead_20 {Z : Zt} {d : Nat} {p : Program} {e : Env} {R : Room} {s : State} {m : MethodId} {args : Array Value} {below : List Frame} {meth : Method} {c : Code} {Rp : RT} (C : Cx Z (d + 4) jX12_answersRead RX12 p R s m args meth c) : Sd Z jX12_answersRead p e R s m args below meth c (MQ below (QcS Z Rp) args s 0 0 (fun a => Z.2.2.1 < a)) 20 (w_X12_answersRead_20 (MS Z (d + 4)) (Gw Z 2 p e R s m args below meth c (MQ below (QcS Z Rp) args s 0 0 (fun a => Z.2.2.1 < a))) Rp) := by
  unfold w_X12_answersRead_20
  refine s_aload_n (k := 0) C (by decide +kernel) ?_
  refine s_iload_n (k := 1) C (by decide +kernel) ?_
  refine s_bipush (n := 11) C (by decide +kernel) (by decide) ?_
  refine s_iconst (n := 2) C (by decide +kernel) (by decide) ?_
  refine s_fnV C (j2 := jX12_lays) (cl := 12) (nf := 27) rfl rfl (by decide +kernel) rfl w_6_82 w_6_84 w_p3_4 w_1_13 w_6_85 (by decide +kernel) (fun _ _ _ _ _ h => f_X12_lays h) (fun _ _ _ _ _ h => r_X12_lays h) ?_
  refine s_aload_n (k := 0) C (by decide +kernel) ?_
  refine s_iload_n (k := 1) C (by decide +kernel) ?_
  refine s_bipush (n := 13) C (by decide +kernel) (by decide) ?_
  refine s_aload_n (k := 0) C (by decide +kernel) ?_
  refine s_iload_n (k := 1) C (by decide +kernel) ?_
  refine s_bipush (n := 16) C (by decide +kernel) (by decide) ?_
  refine s_aload_n (k := 0) C (by decide +kernel) ?_
  refine s_iload_n (k := 1) C (by decide +kernel) ?_
  refine s_bipush (n := 12) C (by decide +kernel) (by decide) ?_
  refine s_fnV C (j2 := jX12_of) (cl := 12) (nf := 27) rfl rfl (by decide +kernel) rfl w_6_220 w_6_222 w_p3_11 w_1_13 w_6_223 (by decide +kernel) (fun _ _ _ _ _ h => f_X12_of h) (fun _ _ _ _ _ h => r_X12_of h) ?_
  refine s_iadd C (by decide +kernel) ?_
  refine s_fnV C (j2 := jX12_of) (cl := 12) (nf := 27) rfl rfl (by decide +kernel) rfl w_6_220 w_6_222 w_p3_11 w_1_13 w_6_223 (by decide +kernel) (fun _ _ _ _ _ h => f_X12_of h) (fun _ _ _ _ _ h => r_X12_of h) ?_
  refine s_fnV C (j2 := jX12_lays) (cl := 12) (nf := 27) rfl rfl (by decide +kernel) rfl w_6_82 w_6_84 w_p3_4 w_1_13 w_6_85 (by decide +kernel) (fun _ _ _ _ _ h => f_X12_lays h) (fun _ _ _ _ _ h => r_X12_lays h) ?_
  refine s_aload_n (k := 0) C (by decide +kernel) ?_
  refine s_iload_n (k := 1) C (by decide +kernel) ?_
  refine s_bipush (n := 15) C (by decide +kernel) (by decide) ?_
  refine s_iconst (n := 0) C (by decide +kernel) (by decide) ?_
  refine s_fnV C (j2 := jX12_lays) (cl := 12) (nf := 27) rfl rfl (by decide +kernel) rfl w_6_82 w_6_84 w_p3_4 w_1_13 w_6_85 (by decide +kernel) (fun _ _ _ _ _ h => f_X12_lays h) (fun _ _ _ _ _ h => r_X12_lays h) ?_
  exact s_vret C rfl (by decide +kernel)
set_option maxRecDepth 20000 in
theorem b_X12_answersRead_0 {Z : Zt} {d : Nat} {p : Program} {e : Env} {R : Room} {s : State} {m : MethodId} {args : Array Value} {below : List Frame} {meth : Method} {c : Code} {Rp : RT} (C : Cx Z (d + 4) jX12_answersRead RX12 p R s m args meth c) : Sd Z jX12_answersRead p e R s m args below meth c (MQ below (QcS Z Rp) args s 0 0 (fun a => Z.2.2.1 < a)) 0 (w_X12_answersRead_0 (MS Z (d + 4)) (Gw Z 2 p e R s m args below meth c (MQ below (QcS Z Rp) args s 0 0 (fun a => Z.2.2.1 < a))) Rp) := by
  unfold w_X12_answersRead_0
  refine s_aload_n (k := 0) C (by decide +kernel) ?_
  refine s_iload_n (k := 1) C (by decide +kernel) ?_
  refine s_fnV C (j2 := jX12_laysMembers) (cl := 12) (nf := 27) rfl rfl (by decide +kernel) rfl w_6_216 w_6_218 w_p3_10 w_1_13 w_6_219 (by decide +kernel) (fun _ _ _ _ _ h => f_X12_laysMembers h) (fun _ _ _ _ _ h => r_X12_laysMembers h) ?_
  refine s_aload_n (k := 0) C (by decide +kernel) ?_
  refine s_aload_n (k := 0) C (by decide +kernel) ?_
  refine s_iload_n (k := 1) C (by decide +kernel) ?_
  refine s_bipush (n := 15) C (by decide +kernel) (by decide) ?_
  refine s_fnV C (j2 := jX12_of) (cl := 12) (nf := 27) rfl rfl (by decide +kernel) rfl w_6_220 w_6_222 w_p3_11 w_1_13 w_6_223 (by decide +kernel) (fun _ _ _ _ _ h => f_X12_of h) (fun _ _ _ _ _ h => r_X12_of h) ?_
  refine s_fnV C (j2 := jX12_isMajority) (cl := 12) (nf := 27) rfl rfl (by decide +kernel) rfl w_7_35 w_7_37 w_p4_8 w_1_13 w_7_38 (by decide +kernel) (fun _ _ _ _ _ h => f_X12_isMajority h) (fun _ _ _ _ _ h => r_X12_isMajority h) ?_
  refine s_if_ne (off := 4) (tgt := 20) C (by decide +kernel) (by decide) (b_X12_answersRead_20 C) ?_
  exact s_vret C rfl (by decide +kernel)
theorem ms_X12_answersRead {Z : Zt} {d : Nat} {S : Sh} {μ : Mi} {ρ : Mr} {Rp : RT} (a0 : Nat) (x1 : Int32) (h : ∀ G : Nat → PT, w_X12_answersRead_0 (MS Z (d + 4)) G Rp [.ref a0, .int x1] [] S (0, 0) μ ρ) : MS Z (d + 5) jX12_answersRead [.ref a0, .int x1] S μ ρ Rp :=
  MS_of [.ref a0, .int x1] (by decide +kernel) rfl rfl (Nat.le_of_ble_eq_true rfl) rfl (fun p e R s m args below meth c C => b_X12_answersRead_0 C _ _ _ _ _ _ (h _ ))
def F_X12_answersRead : FT := fun As S μ ρ k => match As with
  | [.ref a, .int s] => a = 2737 ∧ RS S ρ ∧ rg s 0 4 ∧ bsOK (μ 2738) s.toNatClampNeg ∧ rg (μ 2738 (514 * s.toNatClampNeg + 12)) 0 3 ∧ k none (M3 μ (qMem (μ 2738) s.toNatClampNeg) (qAnsRead (μ 2738) s.toNatClampNeg))
  | _ => False
theorem r_X12_answersRead {As S μ ρ k} (h : F_X12_answersRead As S μ ρ k) : ∃ a As', As = Value.ref a :: As' ∧ S.2 a = (12, 27) := by
  unfold F_X12_answersRead at h
  split at h
  · exact ⟨_, _, rfl, by rw [h.1]; exact h.2.1.1⟩
  · exact h.elim
set_option maxHeartbeats 1000000 in
theorem f_X12_answersRead {Z : Zt} {d : Nat} {As : List Value} {S : Sh} {μ : Mi} {ρ : Mr} {Rp : RT} (h : F_X12_answersRead As S μ ρ (fun r μ' => Rp r S μ' ρ)) : MS Z (d + 5) jX12_answersRead As S μ ρ Rp := by
  unfold F_X12_answersRead at h
  split at h
  · rename_i a s
    obtain ⟨rfl, hS, h⟩ := h
    have hS0 := hS
    unfold RS at hS
    obtain ⟨h1, h2, h3, h⟩ := h
    obtain ⟨s, rfl, hs0, -, hs⟩ := rg_ex h1
    have hrs := rg_T (lo := 0) (hi := 4) (n := s) (by omega) (by omega) hs0
    simp (disch := omega) only [nI_clamp] at h h2 h3
    obtain ⟨k1, k2, k3⟩ := h2
    obtain ⟨t0, ht0⟩ := M3_self μ
    rw [ht0]
    generalize hA : μ 2738 = A at *
    obtain ⟨c, ec, ec0, -, ec1⟩ := rg_ex h3
    have i11 : (514 : Int32) * nI s + 11 = nI (514 * s + 11) := ixs 11 11 rfl
    have i12 : (514 : Int32) * nI s + 12 = nI (514 * s + 12) := ixs 12 12 rfl
    have i13 : (514 : Int32) * nI s + 13 = nI (514 * s + 13) := ixs 13 13 rfl
    have i15 : (514 : Int32) * nI s + 15 = nI (514 * s + 15) := ixs 15 15 rfl
    refine ms_X12_answersRead _ _ (fun G => ?_)
    simp only [w_X12_answersRead_0, w_X12_answersRead_20, tAload, tIload, nth, tGetI, tGetR, tConst, tLconst, tBin, tUn, tI2l, tAld, tAldR, tAlen, tIast, tBast, tZast, tAast, tIret, tZret, tVret, tAret, tIf, tIf2, tGoto, tIstore, tAstore, sset, tIinc, tDup, tDup2, tPop, tPutI, tPutZ, tPutR, tCallV, tCallS, popN, tFn, tCopy, tMax, tMin, tSw, swc, tRem, tObjI, Option.toList, List.nil_append, List.cons_append, okR, true_and, and_true, true_or, or_true, Nat.zero_le, ne_eq, not_false_eq_true, Nat.reduceEqDiff, F_X12_of, F_X12_lays, F_X12_laysMembers, F_X12_isMajority, hS0, hrs, M3_row, M3_upF, M3_setM, M3_M3, M3_8, M3_9, b2_z, Decidable.not_not, i11, i12, i13, i15]
    simp (disch := omega) only [nI_clamp, nI_inb]
    have e12 : up A (514 * s + 11) 2 (514 * s + 12) = nI c := by rw [up_ne (by omega)]; exact ec
    have e16 : (514 : Int32) * nI s + (16 + nI c) = nI (514 * s + (16 + c)) := by rw [nad' 16 16 rfl, ixs _ _ rfl]
    rw [e12, e16]
    simp (disch := omega) only [nI_clamp, nI_inb]
    have e17 : up A (514 * s + 11) 2 (514 * s + (16 + c)) = A (514 * s + 16 + c) := by rw [up_ne (by omega), Nat.add_assoc]
    rw [e17]
    unfold qAnsRead at h
    rw [ec, nI_clamp ec0] at h
    refine ⟨k2, k3, by omega, fun c => ⟨by omega, by omega, by omega, by omega, by omega, ?_⟩, fun c => ?_⟩
    · rw [if_pos c] at h
      exact h
    · rw [if_neg c] at h
      exact h
  · exact h.elim
theorem qAnsRead_out {A : Rw} {s i : Nat} (h : i ≠ 514 * s + 11 ∧ i ≠ 514 * s + 13 ∧ i ≠ 514 * s + 15) : qAnsRead A s i = A i := by
  unfold qAnsRead
  split
  · rw [up_ne (by omega), up_ne (by omega), up_ne (by omega)]
  · rfl
theorem qHears_out {A : Rw} {m8 : Int32} {s f i : Nat} (h : i ≠ 514 * s + 11 ∧ i ≠ 514 * s + 13 ∧ i ≠ 514 * s + 15) : qHears A m8 s f i = A i := by
  unfold qHears
  split
  · rfl
  · rw [qAnsRead_out h, up_ne (by omega)]
def w_X12_hears_29 (M : CT) (G : Nat → PT) (Rp : RT) : PT := tAload 0 <| tIload 1 <| tConst 15 <| tAload 0 <| tIload 1 <| tConst 15 <| tFn 3 F_X12_of <| tConst 1 <| tIload 2 <| tBin (fun x y => x <<< (y &&& 31)) <| tBin (fun x y => x ||| y) <| tFn 4 F_X12_lays <| tAload 0 <| tIload 1 <| tFn 2 F_X12_answersRead <| tVret Rp
def w_X12_hears_28 (M : CT) (G : Nat → PT) (Rp : RT) : PT := tVret Rp
def w_X12_hears_0 (M : CT) (G : Nat → PT) (Rp : RT) : PT := tAload 0 <| tIload 1 <| tConst 11 <| tFn 3 F_X12_of <| tConst 1 <| tIf2 (fun x y => x ≠ y) (w_X12_hears_28 M G Rp) <| tAload 0 <| tGetR 12 27 12 <| tConst 8 <| tAld 20 <| tAload 0 <| tIload 1 <| tConst 14 <| tFn 3 F_X12_of <| tIf2 (fun x y => y ≤ x) (w_X12_hears_29 M G Rp) <| w_X12_hears_28 M G Rp
set_option maxRecDepth 20000 in
theorem b_X12_hears_29 {Z : Zt} {d : Nat} {p : Program} {e : Env} {R : Room} {s : State} {m : MethodId} {args : Array Value} {below : List Frame} {meth : Method} {c : Code} {Rp : RT} (C : Cx Z (d + 5) jX12_hears RX12 p R s m args meth c) : Sd Z jX12_hears p e R s m args below meth c (MQ below (QcS Z Rp) args s 0 0 (fun a => Z.2.2.1 < a)) 29 (w_X12_hears_29 (MS Z (d + 5)) (Gw Z 3 p e R s m args below meth c (MQ below (QcS Z Rp) args s 0 0 (fun a => Z.2.2.1 < a))) Rp) := by
  unfold w_X12_hears_29
  refine s_aload_n (k := 0) C (by decide +kernel) ?_
  refine s_iload_n (k := 1) C (by decide +kernel) ?_
  refine s_bipush (n := 15) C (by decide +kernel) (by decide) ?_
  refine s_aload_n (k := 0) C (by decide +kernel) ?_
  refine s_iload_n (k := 1) C (by decide +kernel) ?_
  refine s_bipush (n := 15) C (by decide +kernel) (by decide) ?_
  refine s_fnV C (j2 := jX12_of) (cl := 12) (nf := 27) rfl rfl (by decide +kernel) rfl w_6_220 w_6_222 w_p3_11 w_1_13 w_6_223 (by decide +kernel) (fun _ _ _ _ _ h => f_X12_of h) (fun _ _ _ _ _ h => r_X12_of h) ?_
  refine s_iconst (n := 1) C (by decide +kernel) (by decide) ?_
  refine s_iload_n (k := 2) C (by decide +kernel) ?_
  refine s_ishl C (by decide +kernel) ?_
  refine s_ior C (by decide +kernel) ?_
  refine s_fnV C (j2 := jX12_lays) (cl := 12) (nf := 27) rfl rfl (by decide +kernel) rfl w_6_82 w_6_84 w_p3_4 w_1_13 w_6_85 (by decide +kernel) (fun _ _ _ _ _ h => f_X12_lays h) (fun _ _ _ _ _ h => r_X12_lays h) ?_
  refine s_aload_n (k := 0) C (by decide +kernel) ?_
  refine s_iload_n (k := 1) C (by decide +kernel) ?_
  refine s_fnV C (j2 := jX12_answersRead) (cl := 12) (nf := 27) rfl rfl (by decide +kernel) rfl w_7_108 w_7_110 w_p5_4 w_1_13 w_7_111 (by decide +kernel) (fun _ _ _ _ _ h => f_X12_answersRead h) (fun _ _ _ _ _ h => r_X12_answersRead h) ?_
  exact s_vret C rfl (by decide +kernel)
set_option maxRecDepth 20000 in
theorem b_X12_hears_28 {Z : Zt} {d : Nat} {p : Program} {e : Env} {R : Room} {s : State} {m : MethodId} {args : Array Value} {below : List Frame} {meth : Method} {c : Code} {Rp : RT} (C : Cx Z (d + 5) jX12_hears RX12 p R s m args meth c) : Sd Z jX12_hears p e R s m args below meth c (MQ below (QcS Z Rp) args s 0 0 (fun a => Z.2.2.1 < a)) 28 (w_X12_hears_28 (MS Z (d + 5)) (Gw Z 3 p e R s m args below meth c (MQ below (QcS Z Rp) args s 0 0 (fun a => Z.2.2.1 < a))) Rp) := by
  unfold w_X12_hears_28
  exact s_vret C rfl (by decide +kernel)
set_option maxRecDepth 20000 in
theorem b_X12_hears_0 {Z : Zt} {d : Nat} {p : Program} {e : Env} {R : Room} {s : State} {m : MethodId} {args : Array Value} {below : List Frame} {meth : Method} {c : Code} {Rp : RT} (C : Cx Z (d + 5) jX12_hears RX12 p R s m args meth c) : Sd Z jX12_hears p e R s m args below meth c (MQ below (QcS Z Rp) args s 0 0 (fun a => Z.2.2.1 < a)) 0 (w_X12_hears_0 (MS Z (d + 5)) (Gw Z 3 p e R s m args below meth c (MQ below (QcS Z Rp) args s 0 0 (fun a => Z.2.2.1 < a))) Rp) := by
  unfold w_X12_hears_0
  refine s_aload_n (k := 0) C (by decide +kernel) ?_
  refine s_iload_n (k := 1) C (by decide +kernel) ?_
  refine s_bipush (n := 11) C (by decide +kernel) (by decide) ?_
  refine s_fnV C (j2 := jX12_of) (cl := 12) (nf := 27) rfl rfl (by decide +kernel) rfl w_6_220 w_6_222 w_p3_11 w_1_13 w_6_223 (by decide +kernel) (fun _ _ _ _ _ h => f_X12_of h) (fun _ _ _ _ _ h => r_X12_of h) ?_
  refine s_iconst (n := 1) C (by decide +kernel) (by decide) ?_
  refine s_icmp_ne (off := 20) (tgt := 28) C (by decide +kernel) (by decide) (b_X12_hears_28 C) ?_
  refine s_aload_n (k := 0) C (by decide +kernel) ?_
  refine s_getR C w_6_99 (by decide +kernel) rfl ?_
  refine s_bipush (n := 8) C (by decide +kernel) (by decide) ?_
  refine s_iald C (by decide +kernel) ?_
  refine s_aload_n (k := 0) C (by decide +kernel) ?_
  refine s_iload_n (k := 1) C (by decide +kernel) ?_
  refine s_bipush (n := 14) C (by decide +kernel) (by decide) ?_
  refine s_fnV C (j2 := jX12_of) (cl := 12) (nf := 27) rfl rfl (by decide +kernel) rfl w_6_220 w_6_222 w_p3_11 w_1_13 w_6_223 (by decide +kernel) (fun _ _ _ _ _ h => f_X12_of h) (fun _ _ _ _ _ h => r_X12_of h) ?_
  refine s_icmp_ge (off := 4) (tgt := 29) C (by decide +kernel) (by decide) (b_X12_hears_29 C) ?_
  exact (b_X12_hears_28 C)
theorem ms_X12_hears {Z : Zt} {d : Nat} {S : Sh} {μ : Mi} {ρ : Mr} {Rp : RT} (a0 : Nat) (x1 : Int32) (x2 : Int32) (h : ∀ G : Nat → PT, w_X12_hears_0 (MS Z (d + 5)) G Rp [.ref a0, .int x1, .int x2] [] S (0, 0) μ ρ) : MS Z (d + 6) jX12_hears [.ref a0, .int x1, .int x2] S μ ρ Rp :=
  MS_of [.ref a0, .int x1, .int x2] (by decide +kernel) rfl rfl (Nat.le_of_ble_eq_true rfl) rfl (fun p e R s m args below meth c C => b_X12_hears_0 C _ _ _ _ _ _ (h _ ))
def F_X12_hears : FT := fun As S μ ρ k => match As with
  | [.ref a, .int s, .int f] => a = 2737 ∧ RS S ρ ∧ rg s 0 4 ∧ rg f 0 4 ∧ bsOK (μ 2738) s.toNatClampNeg ∧ rg (μ 2738 (514 * s.toNatClampNeg + 12)) 0 3 ∧ ∀ t : T4, k none (M3 μ t (qHears (μ 2738) (μ 2744 8) s.toNatClampNeg f.toNatClampNeg))
  | _ => False
theorem r_X12_hears {As S μ ρ k} (h : F_X12_hears As S μ ρ k) : ∃ a As', As = Value.ref a :: As' ∧ S.2 a = (12, 27) := by
  unfold F_X12_hears at h
  split at h
  · exact ⟨_, _, rfl, by rw [h.1]; exact h.2.1.1⟩
  · exact h.elim
set_option maxHeartbeats 1000000 in
theorem f_X12_hears {Z : Zt} {d : Nat} {As : List Value} {S : Sh} {μ : Mi} {ρ : Mr} {Rp : RT} (h : F_X12_hears As S μ ρ (fun r μ' => Rp r S μ' ρ)) : MS Z (d + 6) jX12_hears As S μ ρ Rp := by
  unfold F_X12_hears at h
  split at h
  · rename_i a s f
    obtain ⟨rfl, hS, h⟩ := h
    have hS0 := hS
    unfold RS at hS
    obtain ⟨h1, hf, h2, h3, h⟩ := h
    obtain ⟨s, rfl, hs0, -, hs⟩ := rg_ex h1
    obtain ⟨f, rfl, hf0, -, hf1⟩ := rg_ex hf
    have hrs := rg_T (lo := 0) (hi := 4) (n := s) (by omega) (by omega) hs0
    simp (disch := omega) only [nI_clamp] at h h2 h3
    obtain ⟨k1, k2, k3⟩ := h2
    have hs5 : s < 5 := by omega
    obtain ⟨t0, ht0⟩ := M3_self μ
    rw [ht0]
    generalize hA : μ 2738 = A at *
    have i11 : (514 : Int32) * nI s + 11 = nI (514 * s + 11) := ixs 11 11 rfl
    have i14 : (514 : Int32) * nI s + 14 = nI (514 * s + 14) := ixs 14 14 rfl
    have i15 : (514 : Int32) * nI s + 15 = nI (514 * s + 15) := ixs 15 15 rfl
    have j8 : inb 8 21 := inb_nI (k := 8) (by decide) (by decide)
    refine ms_X12_hears _ _ _ (fun G => ?_)
    simp only [w_X12_hears_0, w_X12_hears_28, w_X12_hears_29, tAload, tIload, nth, tGetI, tGetR, tConst, tLconst, tBin, tUn, tI2l, tAld, tAldR, tAlen, tIast, tBast, tZast, tAast, tIret, tZret, tVret, tAret, tIf, tIf2, tGoto, tIstore, tAstore, sset, tIinc, tDup, tDup2, tPop, tPutI, tPutZ, tPutR, tCallV, tCallS, popN, tFn, tCopy, tMax, tMin, tSw, swc, tRem, tObjI, Option.toList, List.nil_append, List.cons_append, okR, true_and, and_true, true_or, or_true, Nat.zero_le, ne_eq, not_false_eq_true, Nat.reduceEqDiff, F_X12_of, F_X12_lays, F_X12_answersRead, hS0, hS, hrs, M3_row, M3_upF, M3_M3, M3_m, j8, cl_8, i11, i14, i15]
    simp (disch := omega) only [nI_clamp, nI_inb]
    unfold qHears at h
    refine ⟨by omega, fun c => ?_, fun c => ⟨by omega, fun c2 => ⟨by omega, by omega, ⟨?_, ?_, ?_⟩, ?_, ?_⟩, fun c2 => ?_⟩⟩
    · have := h t0
      rw [if_pos (Or.inl c)] at this
      exact this
    · rw [up_ne (by omega)]; exact k1
    · rw [up_ne (by omega)]; exact k2
    · rw [up_ne (by omega)]; exact k3
    · rw [up_ne (by omega)]; exact h3
    · have := h (qMem (up A (514 * s + 15) (A (514 * s + 15) ||| (1 : Int32) <<< (nI f &&& 31))) s)
      rw [if_neg (fun z => z.elim c (fun z => absurd z (Int32.not_lt.mpr c2)))] at this
      exact this
    · have := h t0
      rw [if_pos (Or.inr (Int32.not_le.mp c2))] at this
      exact this
  · exact h.elim
def w_X12_goesOn_37 (M : CT) (G : Nat → PT) (Rp : RT) : PT := tVret Rp
def w_X12_goesOn_0 (M : CT) (G : Nat → PT) (Rp : RT) : PT := tAload 0 <| tIload 1 <| tFn 2 F_X12_agrees <| tAload 0 <| tIload 1 <| tFn 2 F_X12_isLeader <| tIf (fun x => x = 0) (w_X12_goesOn_37 M G Rp) <| tAload 0 <| tIload 1 <| tConst 24 <| tIload 2 <| tBin (fun x y => x + y) <| tFn 3 F_X12_of <| tAload 0 <| tIload 1 <| tConst 4 <| tFn 3 F_X12_of <| tIf2 (fun x y => y < x) (w_X12_goesOn_37 M G Rp) <| tAload 0 <| tIload 1 <| tIload 2 <| tFn 3 F_X12_feeds <| w_X12_goesOn_37 M G Rp
set_option maxRecDepth 20000 in
theorem b_X12_goesOn_37 {Z : Zt} {d : Nat} {p : Program} {e : Env} {R : Room} {s : State} {m : MethodId} {args : Array Value} {below : List Frame} {meth : Method} {c : Code} {Rp : RT} (C : Cx Z (d + 7) jX12_goesOn RX12 p R s m args meth c) : Sd Z jX12_goesOn p e R s m args below meth c (MQ below (QcS Z Rp) args s 0 0 (fun a => Z.2.2.1 < a)) 37 (w_X12_goesOn_37 (MS Z (d + 7)) (Gw Z 3 p e R s m args below meth c (MQ below (QcS Z Rp) args s 0 0 (fun a => Z.2.2.1 < a))) Rp) := by
  unfold w_X12_goesOn_37
  exact s_vret C rfl (by decide +kernel)
set_option maxRecDepth 20000 in
theorem b_X12_goesOn_0 {Z : Zt} {d : Nat} {p : Program} {e : Env} {R : Room} {s : State} {m : MethodId} {args : Array Value} {below : List Frame} {meth : Method} {c : Code} {Rp : RT} (C : Cx Z (d + 7) jX12_goesOn RX12 p R s m args meth c) : Sd Z jX12_goesOn p e R s m args below meth c (MQ below (QcS Z Rp) args s 0 0 (fun a => Z.2.2.1 < a)) 0 (w_X12_goesOn_0 (MS Z (d + 7)) (Gw Z 3 p e R s m args below meth c (MQ below (QcS Z Rp) args s 0 0 (fun a => Z.2.2.1 < a))) Rp) := by
  unfold w_X12_goesOn_0
  refine s_aload_n (k := 0) C (by decide +kernel) ?_
  refine s_iload_n (k := 1) C (by decide +kernel) ?_
  refine s_fnV C (j2 := jX12_agrees) (cl := 12) (nf := 27) rfl rfl (by decide +kernel) rfl w_7_61 w_7_63 w_p4_13 w_1_13 w_7_64 (by decide +kernel) (fun _ _ _ _ _ h => f_X12_agrees h) (fun _ _ _ _ _ h => r_X12_agrees h) ?_
  refine s_aload_n (k := 0) C (by decide +kernel) ?_
  refine s_iload_n (k := 1) C (by decide +kernel) ?_
  refine s_fnV C (j2 := jX12_isLeader) (cl := 12) (nf := 27) rfl rfl (by decide +kernel) rfl w_6_236 w_6_238 w_p3_15 w_1_13 w_6_239 (by decide +kernel) (fun _ _ _ _ _ h => f_X12_isLeader h) (fun _ _ _ _ _ h => r_X12_isLeader h) ?_
  refine s_if_eq (off := 27) (tgt := 37) C (by decide +kernel) (by decide) (b_X12_goesOn_37 C) ?_
  refine s_aload_n (k := 0) C (by decide +kernel) ?_
  refine s_iload_n (k := 1) C (by decide +kernel) ?_
  refine s_bipush (n := 24) C (by decide +kernel) (by decide) ?_
  refine s_iload_n (k := 2) C (by decide +kernel) ?_
  refine s_iadd C (by decide +kernel) ?_
  refine s_fnV C (j2 := jX12_of) (cl := 12) (nf := 27) rfl rfl (by decide +kernel) rfl w_6_220 w_6_222 w_p3_11 w_1_13 w_6_223 (by decide +kernel) (fun _ _ _ _ _ h => f_X12_of h) (fun _ _ _ _ _ h => r_X12_of h) ?_
  refine s_aload_n (k := 0) C (by decide +kernel) ?_
  refine s_iload_n (k := 1) C (by decide +kernel) ?_
  refine s_iconst (n := 4) C (by decide +kernel) (by decide) ?_
  refine s_fnV C (j2 := jX12_of) (cl := 12) (nf := 27) rfl rfl (by decide +kernel) rfl w_6_220 w_6_222 w_p3_11 w_1_13 w_6_223 (by decide +kernel) (fun _ _ _ _ _ h => f_X12_of h) (fun _ _ _ _ _ h => r_X12_of h) ?_
  refine s_icmp_gt (off := 9) (tgt := 37) C (by decide +kernel) (by decide) (b_X12_goesOn_37 C) ?_
  refine s_aload_n (k := 0) C (by decide +kernel) ?_
  refine s_iload_n (k := 1) C (by decide +kernel) ?_
  refine s_iload_n (k := 2) C (by decide +kernel) ?_
  refine s_fnV C (j2 := jX12_feeds) (cl := 12) (nf := 27) rfl rfl (by decide +kernel) rfl w_7_51 w_7_53 w_p4_12 w_1_13 w_7_54 (by decide +kernel) (fun _ _ _ _ _ h => f_X12_feeds h) (fun _ _ _ _ _ h => r_X12_feeds h) ?_
  exact (b_X12_goesOn_37 C)
theorem ms_X12_goesOn {Z : Zt} {d : Nat} {S : Sh} {μ : Mi} {ρ : Mr} {Rp : RT} (a0 : Nat) (x1 : Int32) (x2 : Int32) (h : ∀ G : Nat → PT, w_X12_goesOn_0 (MS Z (d + 7)) G Rp [.ref a0, .int x1, .int x2] [] S (0, 0) μ ρ) : MS Z (d + 8) jX12_goesOn [.ref a0, .int x1, .int x2] S μ ρ Rp :=
  MS_of [.ref a0, .int x1, .int x2] (by decide +kernel) rfl rfl (Nat.le_of_ble_eq_true rfl) rfl (fun p e R s m args below meth c C => b_X12_goesOn_0 C _ _ _ _ _ _ (h _ ))
def F_X12_goesOn : FT := fun As S μ ρ k => match As with
  | [.ref a, .int s, .int f] => a = 2737 ∧ RS S ρ ∧ rg s 0 4 ∧ rg f 0 4 ∧ agOK (μ 2738) s.toNatClampNeg ∧ (μ 2738 (514 * s.toNatClampNeg + 5)).toInt ≤ (μ 2738 (514 * s.toNatClampNeg + 4)).toInt ∧ ∀ t : T4, k none (M3 μ t (qGoesOn (μ 2738) s.toNatClampNeg f.toNatClampNeg))
  | _ => False
theorem r_X12_goesOn {As S μ ρ k} (h : F_X12_goesOn As S μ ρ k) : ∃ a As', As = Value.ref a :: As' ∧ S.2 a = (12, 27) := by
  unfold F_X12_goesOn at h
  split at h
  · exact ⟨_, _, rfl, by rw [h.1]; exact h.2.1.1⟩
  · exact h.elim
set_option maxHeartbeats 1000000 in
theorem f_X12_goesOn {Z : Zt} {d : Nat} {As : List Value} {S : Sh} {μ : Mi} {ρ : Mr} {Rp : RT} (h : F_X12_goesOn As S μ ρ (fun r μ' => Rp r S μ' ρ)) : MS Z (d + 8) jX12_goesOn As S μ ρ Rp := by
  unfold F_X12_goesOn at h
  split at h
  · rename_i a s f
    obtain ⟨rfl, hS, h⟩ := h
    have hS0 := hS
    unfold RS at hS
    obtain ⟨h1, hf, h2, h3, h⟩ := h
    obtain ⟨s, rfl, hs0, -, hs⟩ := rg_ex h1
    obtain ⟨f, rfl, hf0, -, hf1⟩ := rg_ex hf
    have hrs := rg_T (lo := 0) (hi := 4) (n := s) (by omega) (by omega) hs0
    have hrf := rg_T (lo := 0) (hi := 4) (n := f) (by omega) (by omega) hf0
    simp (disch := omega) only [nI_clamp] at h h2 h3
    have hs5 : s < 5 := by omega
    obtain ⟨t0, ht0⟩ := M3_self μ
    rw [ht0]
    generalize hA : μ 2738 = A at *
    have ha := agOK_agr hs5 h2
    have i4 : (514 : Int32) * nI s + 4 = nI (514 * s + 4) := ixs 4 4 rfl
    have i24 : (514 : Int32) * nI s + (24 + nI f) = nI (514 * s + (24 + f)) := by rw [nad' 24 24 rfl, ixs _ _ rfl]
    refine ms_X12_goesOn _ _ _ (fun G => ?_)
    simp only [w_X12_goesOn_0, w_X12_goesOn_37, tAload, tIload, nth, tGetI, tGetR, tConst, tLconst, tBin, tUn, tI2l, tAld, tAldR, tAlen, tIast, tBast, tZast, tAast, tIret, tZret, tVret, tAret, tIf, tIf2, tGoto, tIstore, tAstore, sset, tIinc, tDup, tDup2, tPop, tPutI, tPutZ, tPutR, tCallV, tCallS, popN, tFn, tCopy, tMax, tMin, tSw, swc, tRem, tObjI, Option.toList, List.nil_append, List.cons_append, okR, true_and, and_true, true_or, or_true, Nat.zero_le, ne_eq, not_false_eq_true, Nat.reduceEqDiff, F_X12_of, F_X12_agrees, F_X12_isLeader, F_X12_feeds, hS0, hrs, hrf, M3_row, M3_upF, M3_M3, b2_z, Decidable.not_not, i4, i24]
    simp (disch := omega) only [nI_clamp, nI_inb]
    refine ⟨h2, h3, fun t => ?_⟩
    have ht := h t
    unfold qGoesOn at ht
    rw [Nat.add_assoc] at ht
    refine ⟨fun c => ?_, fun c => ⟨by omega, by omega, fun c2 => ?_, fun c2 => ⟨ha.1.1, ha.1.2.1, ha.1.2.2.1, ?_, ?_⟩⟩⟩
    · rw [if_neg (fun z => c z.1)] at ht
      exact ht
    · rw [if_neg (fun z => z.2 c2)] at ht
      exact ht
    · exact ha.1.2.2.2 f (by omega)
    · rw [if_pos ⟨c, c2⟩] at ht
      exact ht
  · exact h.elim
theorem agOK_hears {A : Rw} {m8 : Int32} {s f : Nat} (hs : s < 5) (ha : agOK A s) : agOK (qHears A m8 s f) s :=
  agOK_of hs ha (by rw [qHears_out (by omega)]; exact ha.1.1) (qHears_out (by omega)) (qHears_out (by omega)) (qHears_out (by omega)) (fun t ht => by rw [qHears_out (by omega)]; exact ha.1.2.2.2 t ht) (fun i q1 q2 => qHears_out (by omega))
theorem gt_rg {x y : Int32} {lo hi : Int} (hx : rg x lo hi) (hy : y.toInt ≤ hi) : rg (gt x y) lo hi := by
  unfold gt
  split
  · exact hx
  · rename_i h
    rw [Int32.lt_iff_toInt_lt] at h
    exact ⟨by have := hx.1; omega, hy⟩
theorem gt_rg' {x y : Int32} {lo hi : Int} (hx : x.toInt ≤ hi) (hy : rg y lo hi) : rg (gt x y) lo hi := by
  unfold gt
  split
  · rename_i h
    rw [Int32.lt_iff_toInt_lt] at h
    exact ⟨by have := hy.1; omega, hx⟩
  · exact hy
theorem rg_1 {x : Int32} {lo hi : Int} (h : rg x lo hi) (h1 : -2147483648 ≤ lo) (h2 : hi < 2147483647) : rg (x + 1) (lo + 1) (hi + 1) := by
  unfold rg at *
  have : (x + 1).toInt = x.toInt + 1 := by
    rw [Jvm.Kit.i32_add] <;> rw [show (1 : Int32).toInt = 1 by decide] <;> omega
  rw [this]
  omega
theorem rg_w {x : Int32} {lo hi lo' hi' : Int} (h : rg x lo hi) (h1 : lo' ≤ lo) (h2 : hi ≤ hi') : rg x lo' hi' := ⟨Int.le_trans h1 h.1, Int.le_trans h.2 h2⟩
/-- one field NEXT or HAS anew -/
theorem agOK_next {A : Rw} {s f : Nat} {v : Int32} (hs : s < 5) (hf : f < 5) (ha : agOK A s) (hv : rg v 0 121) : agOK (up A (514 * s + 24 + f) v) s := by
  refine agOK_of hs ha (by rw [up_ne (by omega)]; exact ha.1.1) (up_ne (by omega)) (up_ne (by omega)) (up_ne (by omega)) (fun t ht => ?_) (fun i q1 q2 => up_ne (by omega))
  by_cases h : t = f
  · subst h; rw [up_at]; exact hv
  · rw [up_ne (by omega)]; exact ha.1.2.2.2 t ht
theorem agOK_has {A : Rw} {s f : Nat} {v : Int32} (hs : s < 5) (hf : f < 5) (ha : agOK A s) : agOK (up A (514 * s + 29 + f) v) s :=
  agOK_of hs ha (by rw [up_ne (by omega)]; exact ha.1.1) (up_ne (by omega)) (up_ne (by omega)) (up_ne (by omega)) (fun t ht => by rw [up_ne (by omega)]; exact ha.1.2.2.2 t ht) (fun i q1 q2 => up_ne (by omega))
