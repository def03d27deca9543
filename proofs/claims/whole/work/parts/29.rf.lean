/-! ===== the reference: members, sending ===== -/
theorem b2_z (p : Prop) [Decidable p] : (b2 p = 0) = ¬ p := by unfold b2; split <;> simp_all
theorem setM_row (μ : Mi) (t : Int32 × Int32 × Int32 × Int32) : setM μ t 2738 = μ 2738 := by unfold setM; rw [upF_ne (by decide)]
theorem setM_8 (μ : Mi) (t : Int32 × Int32 × Int32 × Int32) : setM μ t 2737 8 = t.1 := by unfold setM; rw [upF_same]; rfl
theorem setM_9 (μ : Mi) (t : Int32 × Int32 × Int32 × Int32) : setM μ t 2737 9 = t.2.1 := by unfold setM; rw [upF_same]; rfl
theorem setM_10 (μ : Mi) (t : Int32 × Int32 × Int32 × Int32) : setM μ t 2737 10 = t.2.2.1 := by unfold setM; rw [upF_same]; rfl
theorem setM_11 (μ : Mi) (t : Int32 × Int32 × Int32 × Int32) : setM μ t 2737 11 = t.2.2.2 := by unfold setM; rw [upF_same]; rfl
/-- the members of a store, by all its log -/
def qMem (A : Rw) (s : Nat) : Int32 × Int32 × Int32 × Int32 := qCfg A s (A (514 * s + 4)).toNatClampNeg
def F_X12_laysMembers : FT := fun As S μ ρ k => match As with
  | [.ref a, .int s] => a = 2737 ∧ RS S ρ ∧ rg s 0 4 ∧ rg (μ 2738 (514 * s.toNatClampNeg + 4)) 0 120 ∧ rg (μ 2738 (514 * s.toNatClampNeg + 5)) 0 120 ∧ k none (setM μ (qMem (μ 2738) s.toNatClampNeg))
  | _ => False
theorem r_X12_laysMembers {As S μ ρ k} (h : F_X12_laysMembers As S μ ρ k) : ∃ a As', As = Value.ref a :: As' ∧ S.2 a = (12, 27) := by
  unfold F_X12_laysMembers at h
  split at h
  · exact ⟨_, _, rfl, by rw [h.1]; exact h.2.1.1⟩
  · exact h.elim
set_option maxHeartbeats 1000000 in
theorem f_X12_laysMembers {Z : Zt} {d : Nat} {As : List Value} {S : Sh} {μ : Mi} {ρ : Mr} {Rp : RT} (h : F_X12_laysMembers As S μ ρ (fun r μ' => Rp r S μ' ρ)) : MS Z (d + 4) jX12_laysMembers As S μ ρ Rp := by
  unfold F_X12_laysMembers at h
  split at h
  · rename_i a s
    obtain ⟨rfl, hS, h⟩ := h
    have hS0 := hS
    unfold RS at hS
    obtain ⟨h1, h2, h3, h⟩ := h
    obtain ⟨s, rfl, hs0, -, hs⟩ := rg_ex h1
    have h4 := rg_T (lo := 0) (hi := 4) (n := s) (by omega) (by omega) hs0
    simp (disch := omega) only [nI_clamp] at h h2 h3
    refine ms_X12_laysMembers _ _ (fun G => ?_)
    simp only [w_X12_laysMembers_0, tAload, tIload, nth, tGetI, tGetR, tConst, tLconst, tBin, tUn, tI2l, tAld, tAldR, tAlen, tIast, tBast, tZast, tAast, tIret, tZret, tVret, tAret, tIf, tIf2, tGoto, tIstore, tAstore, sset, tIinc, tDup, tDup2, tPop, tPutI, tPutZ, tPutR, tCallV, tCallS, popN, tFn, tCopy, tMax, tMin, tSw, swc, tRem, tObjI, Option.toList, List.nil_append, List.cons_append, okR, true_and, and_true, true_or, or_true, Nat.zero_le, ne_eq, not_false_eq_true, Nat.reduceEqDiff, F_X12_of, F_X12_laysMembersUpTo, hS0, h4]
    simp (disch := omega) only [ixs 4 4 rfl, nI_clamp, nI_inb]
    exact ⟨by omega, h2, h3, h⟩
  · exact h.elim
def qFar (A : Rw) (s : Nat) (l t : Int32) : Prop := qTermAt A s (A (514 * s + 4)) < t ∨ (t = qTermAt A s (A (514 * s + 4)) ∧ ¬ l < A (514 * s + 4))
def F_X12_isAsFar : FT := fun As S μ ρ k => match As with
  | [.ref a, .int s, .int l, .int t] => a = 2737 ∧ RS S ρ ∧ rg s 0 4 ∧ rg (μ 2738 (514 * s.toNatClampNeg + 4)) 0 120 ∧ rg (μ 2738 (514 * s.toNatClampNeg + 5)) 0 120 ∧ k (some (.int (b2 (qTermAt (μ 2738) s.toNatClampNeg (μ 2738 (514 * s.toNatClampNeg + 4)) < t ∨ (t = qTermAt (μ 2738) s.toNatClampNeg (μ 2738 (514 * s.toNatClampNeg + 4)) ∧ ¬ l < μ 2738 (514 * s.toNatClampNeg + 4)))))) μ
  | _ => False
theorem r_X12_isAsFar {As S μ ρ k} (h : F_X12_isAsFar As S μ ρ k) : ∃ a As', As = Value.ref a :: As' ∧ S.2 a = (12, 27) := by
  unfold F_X12_isAsFar at h
  split at h
  · exact ⟨_, _, rfl, by rw [h.1]; exact h.2.1.1⟩
  · exact h.elim
set_option maxHeartbeats 1000000 in
theorem f_X12_isAsFar {Z : Zt} {d : Nat} {As : List Value} {S : Sh} {μ : Mi} {ρ : Mr} {Rp : RT} (h : F_X12_isAsFar As S μ ρ (fun r μ' => Rp r S μ' ρ)) : MS Z (d + 4) jX12_isAsFar As S μ ρ Rp := by
  unfold F_X12_isAsFar at h
  split at h
  · rename_i a s l t
    obtain ⟨rfl, hS, h⟩ := h
    have hS0 := hS
    unfold RS at hS
    obtain ⟨h1, h2, h3, h⟩ := h
    obtain ⟨s, rfl, hs0, -, hs⟩ := rg_ex h1
    have h4 := rg_T (lo := 0) (hi := 4) (n := s) (by omega) (by omega) hs0
    simp (disch := omega) only [nI_clamp] at h h2 h3
    refine ms_X12_isAsFar _ _ _ _ (fun G => ?_)
    simp only [w_X12_isAsFar_0, w_X12_isAsFar_35, w_X12_isAsFar_39, w_X12_isAsFar_40, tAload, tIload, nth, tGetI, tGetR, tConst, tLconst, tBin, tUn, tI2l, tAld, tAldR, tAlen, tIast, tBast, tZast, tAast, tIret, tZret, tVret, tAret, tIf, tIf2, tGoto, tIstore, tAstore, sset, tIinc, tDup, tDup2, tPop, tPutI, tPutZ, tPutR, tCallV, tCallS, popN, tFn, tCopy, tMax, tMin, tSw, swc, tRem, tObjI, Option.toList, List.nil_append, List.cons_append, okR, true_and, and_true, true_or, or_true, Nat.zero_le, ne_eq, not_false_eq_true, Nat.reduceEqDiff, F_X12_of, F_X12_termAt, hS0, h4]
    simp (disch := omega) only [ixs 4 4 rfl, nI_clamp, nI_inb]
    refine ⟨by omega, h2, h3, fun hc => ?_, fun hc => ⟨fun h5 => ?_, fun h5 => ⟨by omega, fun h6 => ?_, fun h6 => ?_⟩⟩⟩
    · simpa only [b2, hc, true_or, if_true] using h
    · simpa only [b2, hc, h5, false_and, or_self, if_false] using h
    · simpa only [b2, hc, h6, not_true, and_false, or_self, if_false] using h
    · simp only [Decidable.not_not] at h5
      simpa only [b2, h5, h6, not_false_eq_true, and_self, or_true, if_true] using h
  · exact h.elim
/-- whether there can be a timeout of a store -/
def canTO (A : Rw) (s : Nat) : Prop := A (514 * s) = 1 ∧ ¬ A (514 * s + 3) = 2 ∧ (((qMem A s).1 ||| (qMem A s).2.1) >>> (nI s &&& 31)) &&& 1 = 1 ∧ ¬ A (514 * s + 1) = 200
def w_X12_whyNot_55 (M : CT) (G : Nat → PT) (Rp : RT) : PT := tIret Rp
def w_X12_whyNot_54 (M : CT) (G : Nat → PT) (Rp : RT) : PT := tConst 0 <| w_X12_whyNot_55 M G Rp
def w_X12_whyNot_49 (M : CT) (G : Nat → PT) (Rp : RT) : PT := tConst (-5) <| tGoto (w_X12_whyNot_55 M G Rp)
def w_X12_whyNot_0 (M : CT) (G : Nat → PT) (Rp : RT) : PT := tAload 0 <| tIload 1 <| tFn 2 F_X12_laysMembers <| tAload 0 <| tIload 1 <| tFn 2 F_X12_isUp <| tIf (fun x => x = 0) (w_X12_whyNot_49 M G Rp) <| tAload 0 <| tIload 1 <| tFn 2 F_X12_isLeader <| tIf (fun x => x ≠ 0) (w_X12_whyNot_49 M G Rp) <| tAload 0 <| tGetI 12 27 8 <| tAload 0 <| tGetI 12 27 9 <| tBin (fun x y => x ||| y) <| tIload 1 <| tFn 2 F_X12_has <| tIf (fun x => x = 0) (w_X12_whyNot_49 M G Rp) <| tAload 0 <| tIload 1 <| tConst 1 <| tFn 3 F_X12_of <| tConst 200 <| tIf2 (fun x y => x ≠ y) (w_X12_whyNot_54 M G Rp) <| w_X12_whyNot_49 M G Rp
set_option maxRecDepth 20000 in
theorem b_X12_whyNot_55 {Z : Zt} {d : Nat} {p : Program} {e : Env} {R : Room} {s : State} {m : MethodId} {args : Array Value} {below : List Frame} {meth : Method} {c : Code} {Rp : RT} (C : Cx Z (d + 4) jX12_whyNot RX12 p R s m args meth c) : Sd Z jX12_whyNot p e R s m args below meth c (MQ below (QcS Z Rp) args s 0 0 (fun a => Z.2.2.1 < a)) 55 (w_X12_whyNot_55 (MS Z (d + 4)) (Gw Z 2 p e R s m args below meth c (MQ below (QcS Z Rp) args s 0 0 (fun a => Z.2.2.1 < a))) Rp) := by
  unfold w_X12_whyNot_55
  exact s_iret C rfl (by decide +kernel)
set_option maxRecDepth 20000 in
theorem b_X12_whyNot_54 {Z : Zt} {d : Nat} {p : Program} {e : Env} {R : Room} {s : State} {m : MethodId} {args : Array Value} {below : List Frame} {meth : Method} {c : Code} {Rp : RT} (C : Cx Z (d + 4) jX12_whyNot RX12 p R s m args meth c) : Sd Z jX12_whyNot p e R s m args below meth c (MQ below (QcS Z Rp) args s 0 0 (fun a => Z.2.2.1 < a)) 54 (w_X12_whyNot_54 (MS Z (d + 4)) (Gw Z 2 p e R s m args below meth c (MQ below (QcS Z Rp) args s 0 0 (fun a => Z.2.2.1 < a))) Rp) := by
  unfold w_X12_whyNot_54
  refine s_iconst (n := 0) C (by decide +kernel) (by decide) ?_
  exact (b_X12_whyNot_55 C)
set_option maxRecDepth 20000 in
theorem b_X12_whyNot_49 {Z : Zt} {d : Nat} {p : Program} {e : Env} {R : Room} {s : State} {m : MethodId} {args : Array Value} {below : List Frame} {meth : Method} {c : Code} {Rp : RT} (C : Cx Z (d + 4) jX12_whyNot RX12 p R s m args meth c) : Sd Z jX12_whyNot p e R s m args below meth c (MQ below (QcS Z Rp) args s 0 0 (fun a => Z.2.2.1 < a)) 49 (w_X12_whyNot_49 (MS Z (d + 4)) (Gw Z 2 p e R s m args below meth c (MQ below (QcS Z Rp) args s 0 0 (fun a => Z.2.2.1 < a))) Rp) := by
  unfold w_X12_whyNot_49
  refine s_bipush (n := (-5)) C (by decide +kernel) (by decide) ?_
  exact s_goto (off := 4) (tgt := 55) C (by decide +kernel) (by decide) (b_X12_whyNot_55 C)
set_option maxRecDepth 20000 in
theorem b_X12_whyNot_0 {Z : Zt} {d : Nat} {p : Program} {e : Env} {R : Room} {s : State} {m : MethodId} {args : Array Value} {below : List Frame} {meth : Method} {c : Code} {Rp : RT} (C : Cx Z (d + 4) jX12_whyNot RX12 p R s m args meth c) : Sd Z jX12_whyNot p e R s m args below meth c (MQ below (QcS Z Rp) args s 0 0 (fun a => Z.2.2.1 < a)) 0 (w_X12_whyNot_0 (MS Z (d + 4)) (Gw Z 2 p e R s m args below meth c (MQ below (QcS Z Rp) args s 0 0 (fun a => Z.2.2.1 < a))) Rp) := by
  unfold w_X12_whyNot_0
  refine s_aload_n (k := 0) C (by decide +kernel) ?_
  refine s_iload_n (k := 1) C (by decide +kernel) ?_
  refine s_fnV C (j2 := jX12_laysMembers) (cl := 12) (nf := 27) rfl rfl (by decide +kernel) rfl w_6_216 w_6_218 w_p3_10 w_1_13 w_6_219 (by decide +kernel) (fun _ _ _ _ _ h => f_X12_laysMembers h) (fun _ _ _ _ _ h => r_X12_laysMembers h) ?_
  refine s_aload_n (k := 0) C (by decide +kernel) ?_
  refine s_iload_n (k := 1) C (by decide +kernel) ?_
  refine s_fnV C (j2 := jX12_isUp) (cl := 12) (nf := 27) rfl rfl (by decide +kernel) rfl w_6_232 w_6_234 w_p3_14 w_1_13 w_6_235 (by decide +kernel) (fun _ _ _ _ _ h => f_X12_isUp h) (fun _ _ _ _ _ h => r_X12_isUp h) ?_
  refine s_if_eq (off := 39) (tgt := 49) C (by decide +kernel) (by decide) (b_X12_whyNot_49 C) ?_
  refine s_aload_n (k := 0) C (by decide +kernel) ?_
  refine s_iload_n (k := 1) C (by decide +kernel) ?_
  refine s_fnV C (j2 := jX12_isLeader) (cl := 12) (nf := 27) rfl rfl (by decide +kernel) rfl w_6_236 w_6_238 w_p3_15 w_1_13 w_6_239 (by decide +kernel) (fun _ _ _ _ _ h => f_X12_isLeader h) (fun _ _ _ _ _ h => r_X12_isLeader h) ?_
  refine s_if_ne (off := 31) (tgt := 49) C (by decide +kernel) (by decide) (b_X12_whyNot_49 C) ?_
  refine s_aload_n (k := 0) C (by decide +kernel) ?_
  refine s_getI C w_6_95 (by decide +kernel) rfl ?_
  refine s_aload_n (k := 0) C (by decide +kernel) ?_
  refine s_getI C w_6_96 (by decide +kernel) rfl ?_
  refine s_ior C (by decide +kernel) ?_
  refine s_iload_n (k := 1) C (by decide +kernel) ?_
  refine s_fnS C (j2 := jX12_has) (by decide +kernel) rfl w_7_0 w_7_1 w_1_13 w_7_2 (by decide +kernel) (fun _ _ _ _ _ h => f_X12_has h) ?_
  refine s_if_eq (off := 15) (tgt := 49) C (by decide +kernel) (by decide) (b_X12_whyNot_49 C) ?_
  refine s_aload_n (k := 0) C (by decide +kernel) ?_
  refine s_iload_n (k := 1) C (by decide +kernel) ?_
  refine s_iconst (n := 1) C (by decide +kernel) (by decide) ?_
  refine s_fnV C (j2 := jX12_of) (cl := 12) (nf := 27) rfl rfl (by decide +kernel) rfl w_6_220 w_6_222 w_p3_11 w_1_13 w_6_223 (by decide +kernel) (fun _ _ _ _ _ h => f_X12_of h) (fun _ _ _ _ _ h => r_X12_of h) ?_
  refine s_sipush (n := 200) C (by decide +kernel) (by decide) ?_
  refine s_icmp_ne (off := 8) (tgt := 54) C (by decide +kernel) (by decide) (b_X12_whyNot_54 C) ?_
  exact (b_X12_whyNot_49 C)
theorem ms_X12_whyNot {Z : Zt} {d : Nat} {S : Sh} {μ : Mi} {ρ : Mr} {Rp : RT} (a0 : Nat) (x1 : Int32) (h : ∀ G : Nat → PT, w_X12_whyNot_0 (MS Z (d + 4)) G Rp [.ref a0, .int x1] [] S (0, 0) μ ρ) : MS Z (d + 5) jX12_whyNot [.ref a0, .int x1] S μ ρ Rp :=
  MS_of [.ref a0, .int x1] (by decide +kernel) rfl rfl (Nat.le_of_ble_eq_true rfl) rfl (fun p e R s m args below meth c C => b_X12_whyNot_0 C _ _ _ _ _ _ (h _ ))
def F_X12_whyNot : FT := fun As S μ ρ k => match As with
  | [.ref a, .int s] => a = 2737 ∧ RS S ρ ∧ rg s 0 4 ∧ rg (μ 2738 (514 * s.toNatClampNeg + 4)) 0 120 ∧ rg (μ 2738 (514 * s.toNatClampNeg + 5)) 0 120 ∧ (canTO (μ 2738) s.toNatClampNeg → k (some (.int 0)) (setM μ (qMem (μ 2738) s.toNatClampNeg))) ∧ (¬ canTO (μ 2738) s.toNatClampNeg → k (some (.int (-5))) (setM μ (qMem (μ 2738) s.toNatClampNeg)))
  | _ => False
theorem r_X12_whyNot {As S μ ρ k} (h : F_X12_whyNot As S μ ρ k) : ∃ a As', As = Value.ref a :: As' ∧ S.2 a = (12, 27) := by
  unfold F_X12_whyNot at h
  split at h
  · exact ⟨_, _, rfl, by rw [h.1]; exact h.2.1.1⟩
  · exact h.elim
set_option maxHeartbeats 1000000 in
theorem f_X12_whyNot {Z : Zt} {d : Nat} {As : List Value} {S : Sh} {μ : Mi} {ρ : Mr} {Rp : RT} (h : F_X12_whyNot As S μ ρ (fun r μ' => Rp r S μ' ρ)) : MS Z (d + 5) jX12_whyNot As S μ ρ Rp := by
  unfold F_X12_whyNot at h
  split at h
  · rename_i a s
    obtain ⟨rfl, hS, h⟩ := h
    have hS0 := hS
    unfold RS at hS
    obtain ⟨h1, h2, h3, h5, h6⟩ := h
    obtain ⟨s, rfl, hs0, -, hs⟩ := rg_ex h1
    have h4 := rg_T (lo := 0) (hi := 4) (n := s) (by omega) (by omega) hs0
    simp (disch := omega) only [nI_clamp] at h2 h3 h5 h6
    refine ms_X12_whyNot _ _ (fun G => ?_)
    simp only [w_X12_whyNot_0, w_X12_whyNot_49, w_X12_whyNot_54, w_X12_whyNot_55, tAload, tIload, nth, tGetI, tGetR, tConst, tLconst, tBin, tUn, tI2l, tAld, tAldR, tAlen, tIast, tBast, tZast, tAast, tIret, tZret, tVret, tAret, tIf, tIf2, tGoto, tIstore, tAstore, sset, tIinc, tDup, tDup2, tPop, tPutI, tPutZ, tPutR, tCallV, tCallS, popN, tFn, tCopy, tMax, tMin, tSw, swc, tRem, tObjI, Option.toList, List.nil_append, List.cons_append, okR, true_and, and_true, true_or, or_true, Nat.zero_le, ne_eq, not_false_eq_true, Nat.reduceEqDiff, F_X12_of, F_X12_laysMembers, F_X12_isUp, F_X12_isLeader, F_X12_has, hS0, hS, h4, setM_row, setM_8, setM_9, b2_z, Decidable.not_not]
    simp (disch := omega) only [ixs 1 1 rfl, nI_clamp, nI_inb]
    refine ⟨h2, h3, fun c1 => h6 (fun z => c1 z.1), fun c1 => ⟨fun c2 => h6 (fun z => z.2.1 c2), fun c2 => ⟨fun c3 => h6 (fun z => c3 z.2.2.1), fun c3 => ⟨by omega, fun c4 => h5 ⟨c1, c2, c3, c4⟩, fun c4 => h6 (fun z => z.2.2.2 c4)⟩⟩⟩⟩
  · exact h.elim
def qFollow (A : Rw) (s : Nat) (t : Int32) : Rw := qPlays (up (up A (514 * s + 1) t) (514 * s + 2) (-1)) s 0
def F_X12_followsTerm : FT := fun As S μ ρ k => match As with
  | [.ref a, .int s, .int t] => a = 2737 ∧ RS S ρ ∧ rg s 0 4 ∧ k none (upF μ 2738 (qFollow (μ 2738) s.toNatClampNeg t))
  | _ => False
theorem r_X12_followsTerm {As S μ ρ k} (h : F_X12_followsTerm As S μ ρ k) : ∃ a As', As = Value.ref a :: As' ∧ S.2 a = (12, 27) := by
  unfold F_X12_followsTerm at h
  split at h
  · exact ⟨_, _, rfl, by rw [h.1]; exact h.2.1.1⟩
  · exact h.elim
set_option maxHeartbeats 1000000 in
theorem f_X12_followsTerm {Z : Zt} {d : Nat} {As : List Value} {S : Sh} {μ : Mi} {ρ : Mr} {Rp : RT} (h : F_X12_followsTerm As S μ ρ (fun r μ' => Rp r S μ' ρ)) : MS Z (d + 4) jX12_followsTerm As S μ ρ Rp := by
  unfold F_X12_followsTerm at h
  split at h
  · rename_i a s t
    obtain ⟨rfl, hS, h⟩ := h
    have hS0 := hS
    unfold RS at hS
    obtain ⟨h1, h⟩ := h
    obtain ⟨s, rfl, hs0, -, hs⟩ := rg_ex h1
    have h4 := rg_T (lo := 0) (hi := 4) (n := s) (by omega) (by omega) hs0
    simp (disch := omega) only [nI_clamp] at h
    refine ms_X12_followsTerm _ _ _ (fun G => ?_)
    simp only [w_X12_followsTerm_0, tAload, tIload, nth, tGetI, tGetR, tConst, tLconst, tBin, tUn, tI2l, tAld, tAldR, tAlen, tIast, tBast, tZast, tAast, tIret, tZret, tVret, tAret, tIf, tIf2, tGoto, tIstore, tAstore, sset, tIinc, tDup, tDup2, tPop, tPutI, tPutZ, tPutR, tCallV, tCallS, popN, tFn, tCopy, tMax, tMin, tSw, swc, tRem, tObjI, Option.toList, List.nil_append, List.cons_append, okR, true_and, and_true, true_or, or_true, Nat.zero_le, ne_eq, not_false_eq_true, Nat.reduceEqDiff, F_X12_lays, F_X12_plays, hS0, h4, upF_same, upF_upF]
    simp (disch := omega) only [ixs 1 1 rfl, ixs 2 2 rfl, nI_clamp, nI_inb]
    exact ⟨by omega, by omega, h⟩
  · exact h.elim
/-- a message behind those that wait -/
def qPush (A : Rw) (row : Rw) : Rw := fun i =>
  if 2570 + 21 * (A 4510).toNatClampNeg ≤ i ∧ i < 2570 + 21 * (A 4510).toNatClampNeg + 21 then row (i - (2570 + 21 * (A 4510).toNatClampNeg)) else if i = 4510 then A 4510 + 1 else A i
def rowS (f t tm kd x y rd : Int32) : Rw := fun k => if k = 0 then f else if k = 1 then t else if k = 2 then tm else if k = 3 then kd else if k = 4 then x else if k = 5 then y else if k = 8 then rd else 0
/-- a message that is sent isn't lost at once -/
abbrev okS (A : Rw) (f t : Nat) : Prop := ¬ f = t ∧ ¬ A 4510 = 60 ∧ (A 4513 >>> ((5 * nI f + nI t) &&& 31)) &&& 1 = 1
def rndS (A : Rw) (m8 : Int32) (f : Nat) (kd : Int32) : Int32 := if kd = 2 ∨ kd = 4 then A (514 * f + 14) else if kd = 3 ∨ kd = 5 then m8 else 0
def qSend (A : Rw) (m8 : Int32) (f t : Nat) (kd x y : Int32) : Rw :=
  if f = t then A else if okS A f t then qPush A (rowS (nI f) (nI t) (A (514 * f + 1)) kd x y (rndS A m8 f kd)) else up A 4511 (A 4511 + 1)
def vSend (A : Rw) (f t : Nat) : Int32 := if okS A f t then nI (2570 + 21 * (A 4510).toNatClampNeg) else -1
def zrF (A : Rw) (at_ n : Nat) : Rw := fun i => if at_ ≤ i ∧ i < at_ + n then 0 else A i
theorem up_ne {A : Rw} {i j : Nat} {v : Int32} (h : i ≠ j) : up A j v i = A i := by simp [up, h]
theorem up_at {A : Rw} {j : Nat} {v : Int32} : up A j v j = v := by simp [up]
theorem zr_lo {A : Rw} {a n i : Nat} (h : i < a) : zrF A a n i = A i := by unfold zrF; rw [if_neg (by omega)]
theorem zr_push (A : Rw) (w f : Nat) (hw : A 4510 = nI w) (hw0 : w < 60) (hf : f < 5) (ft tt tm kd x y rd : Int32) :
    up (up (up (up (up (up (up (zrF (up A 4510 (nI (w + 1))) (2570 + 21 * w) 21) (2570 + 21 * w + 8) rd) (2570 + 21 * w) ft) (2570 + 21 * w + 1) tt) (2570 + 21 * w + 2) tm) (2570 + 21 * w + 3) kd) (2570 + 21 * w + 4) x) (2570 + 21 * w + 5) y = qPush A (rowS ft tt tm kd x y rd) := by
  funext i
  unfold qPush rowS zrF
  rw [hw, nI_clamp (by omega), nI_1]
  by_cases hin : 2570 + 21 * w ≤ i ∧ i < 2570 + 21 * w + 21
  · obtain ⟨k, rfl⟩ : ∃ k, i = 2570 + 21 * w + k := ⟨i - (2570 + 21 * w), by omega⟩
    have hk : k < 21 := by omega
    rw [if_pos hin, show 2570 + 21 * w + k - (2570 + 21 * w) = k by omega]
    unfold up
    by_cases k5 : k = 5
    · subst k5; simp
    by_cases k4 : k = 4
    · subst k4; simp
    by_cases k3 : k = 3
    · subst k3; simp
    by_cases k2 : k = 2
    · subst k2; simp
    by_cases k1 : k = 1
    · subst k1; simp
    by_cases k0 : k = 0
    · subst k0; simp
    by_cases k8 : k = 8
    · subst k8; simp
    rw [if_neg (by omega), if_neg (by omega), if_neg (by omega), if_neg (by omega), if_neg (by omega), if_neg (by omega), if_neg (by omega)]
    dsimp only
    rw [if_pos hin]
    simp [k0, k1, k2, k3, k4, k5, k8]
  · rw [if_neg hin]
    unfold up
    rw [if_neg (by omega), if_neg (by omega), if_neg (by omega), if_neg (by omega), if_neg (by omega), if_neg (by omega), if_neg (by omega)]
    dsimp only
    rw [if_neg hin]
def F_X12_sends : FT := fun As S μ ρ k => match As with
  | [.ref a, .int f, .int t, .int kd, .int x, .int y] => a = 2737 ∧ RS S ρ ∧ rg f 0 4 ∧ rg t 0 4 ∧ rg (μ 2738 4510) 0 60 ∧ k (some (.int (vSend (μ 2738) f.toNatClampNeg t.toNatClampNeg))) (upF μ 2738 (qSend (μ 2738) (μ 2744 8) f.toNatClampNeg t.toNatClampNeg kd x y))
  | _ => False
theorem r_X12_sends {As S μ ρ k} (h : F_X12_sends As S μ ρ k) : ∃ a As', As = Value.ref a :: As' ∧ S.2 a = (12, 27) := by
  unfold F_X12_sends at h
  split at h
  · exact ⟨_, _, rfl, by rw [h.1]; exact h.2.1.1⟩
  · exact h.elim
set_option maxHeartbeats 1000000 in
theorem f_X12_sends {Z : Zt} {d : Nat} {As : List Value} {S : Sh} {μ : Mi} {ρ : Mr} {Rp : RT} (h : F_X12_sends As S μ ρ (fun r μ' => Rp r S μ' ρ)) : MS Z (d + 3) jX12_sends As S μ ρ Rp := by
  unfold F_X12_sends at h
  split at h
  · rename_i a f t kd x y
    obtain ⟨rfl, hS, h⟩ := h
    have hS0 := hS
    unfold RS at hS
    obtain ⟨h1, h2, h3, h⟩ := h
    obtain ⟨f, rfl, hf0, -, hf⟩ := rg_ex h1
    obtain ⟨t, rfl, ht0, -, ht⟩ := rg_ex h2
    obtain ⟨w, hw, hw0, -, hw1⟩ := rg_ex h3
    simp (disch := omega) only [nI_clamp] at h
    refine ms_X12_sends _ _ _ _ _ _ (fun G g75 => ?_)
    have i10 : inb 4510 13548 := inb_nI (k := 4510) (by decide) (by decide)
    have i11 : inb 4511 13548 := inb_nI (k := 4511) (by decide) (by decide)
    have lost : ¬ f = t → ¬ okS (μ 2738) f t → w_X12_sends_29 (MS Z (d + 2)) G Rp [.ref 2737, .int (nI f), .int (nI t), .int kd, .int x, .int y, .null, .null] [] S (0, 0) μ ρ := by
      intro c1 c2
      simp only [w_X12_sends_29, tAload, tIload, nth, tGetI, tGetR, tConst, tLconst, tBin, tUn, tI2l, tAld, tAldR, tAlen, tIast, tBast, tZast, tAast, tIret, tZret, tVret, tAret, tIf, tIf2, tGoto, tIstore, tAstore, sset, tIinc, tDup, tDup2, tPop, tPutI, tPutZ, tPutR, tCallV, tCallS, popN, tFn, tCopy, tMax, tMin, tSw, swc, tRem, tObjI, Option.toList, List.nil_append, List.cons_append, okR, true_and, and_true, true_or, or_true, Nat.zero_le, ne_eq, not_false_eq_true, Nat.reduceEqDiff, hS, i11, cl_4511, upI_upF]
      simpa only [vSend, qSend, c1, c2, if_false] using h
    simp only [w_X12_sends_0, w_X12_sends_7, tAload, tIload, nth, tGetI, tGetR, tConst, tLconst, tBin, tUn, tI2l, tAld, tAldR, tAlen, tIast, tBast, tZast, tAast, tIret, tZret, tVret, tAret, tIf, tIf2, tGoto, tIstore, tAstore, sset, tIinc, tDup, tDup2, tPop, tPutI, tPutZ, tPutR, tCallV, tCallS, popN, tFn, tCopy, tMax, tMin, tSw, swc, tRem, tObjI, Option.toList, List.nil_append, List.cons_append, okR, true_and, and_true, true_or, or_true, Nat.zero_le, ne_eq, not_false_eq_true, Nat.reduceEqDiff, F_X12_isLinked, hS0, hS, i10, cl_4510, b2_z, Decidable.not_not]
    rw [nI_eq (by omega) (by omega)]
    refine ⟨fun c1 => ⟨fun c2 => lost c1 (fun z => z.2.1 c2), fun c2 => ⟨fun c3 => ?_, fun c3 => lost c1 (fun z => c3 z.2.2)⟩⟩, fun c1 => ?_⟩
    · have hok : okS (μ 2738) f t := ⟨c1, c2, c3⟩
      have hw60 : w < 60 := by
        rcases Nat.lt_or_ge w 60 with z | z
        · exact z
        · exact absurd (by rw [hw, show w = 60 by omega]; rfl) c2
      simp only [vSend, qSend, if_neg c1, if_pos hok] at h
      rw [hw, nI_clamp hw0] at h
      simp only [w_X12_sends_43, tAload, tIload, nth, tGetI, tGetR, tConst, tLconst, tBin, tUn, tI2l, tAld, tAldR, tAlen, tIast, tBast, tZast, tAast, tIret, tZret, tVret, tAret, tIf, tIf2, tGoto, tIstore, tAstore, sset, tIinc, tDup, tDup2, tPop, tPutI, tPutZ, tPutR, tCallV, tCallS, popN, tFn, tCopy, tMax, tMin, tSw, swc, tRem, tObjI, Option.toList, List.nil_append, List.cons_append, okR, true_and, and_true, true_or, or_true, Nat.zero_le, ne_eq, not_false_eq_true, Nat.reduceEqDiff, hS, i10, cl_4510, hw]
      rw [show (2570 : Int32) + 21 * nI w = nI (2570 + 21 * w) by rw [show (2570 : Int32) = nI 2570 from rfl, show (21 : Int32) = nI 21 from rfl, pk_mul, nI_add]]
      have loop : ∀ (n k : Nat), k + n = 21 → G 75 [.ref 2737, .int (nI f), .int (nI t), .int kd, .int x, .int y, .int (nI (2570 + 21 * w)), .int (nI k)] [] S (0, 0) (upF μ 2738 (zrF (up (μ 2738) 4510 (nI w + 1)) (2570 + 21 * w) k)) ρ := by
        intro n
        induction n with
        | zero =>
          intro k hk
          refine g75 _ _ _ _ _ _ ?_
          have hk : k = 21 := by omega
          subst hk
          simp only [w_X12_sends_75, tAload, tIload, nth, tGetI, tGetR, tConst, tLconst, tBin, tUn, tI2l, tAld, tAldR, tAlen, tIast, tBast, tZast, tAast, tIret, tZret, tVret, tAret, tIf, tIf2, tGoto, tIstore, tAstore, sset, tIinc, tDup, tDup2, tPop, tPutI, tPutZ, tPutR, tCallV, tCallS, popN, tFn, tCopy, tMax, tMin, tSw, swc, tRem, tObjI, Option.toList, List.nil_append, List.cons_append, okR, true_and, and_true, true_or, or_true, Nat.zero_le, ne_eq, not_false_eq_true, Nat.reduceEqDiff]
          refine ⟨fun _ => ?_, fun z => absurd (by decide) z⟩
          have i8 : inb 8 21 := inb_nI (k := 8) (by decide) (by decide)
          have fin : ∀ rd : Int32, rd = rndS (μ 2738) (μ 2744 8) f kd → w_X12_sends_149 (MS Z (d + 2)) G Rp [.ref 2737, .int (nI f), .int (nI t), .int kd, .int x, .int y, .int (nI (2570 + 21 * w)), .int (nI 21)] [.int rd, .int (nI (2570 + 21 * w) + 8), .ref 2738] S (0, 0) (upF μ 2738 (zrF (up (μ 2738) 4510 (nI w + 1)) (2570 + 21 * w) 21)) ρ := by
            intro rd hrd
            simp only [w_X12_sends_149, tAload, tIload, nth, tGetI, tGetR, tConst, tLconst, tBin, tUn, tI2l, tAld, tAldR, tAlen, tIast, tBast, tZast, tAast, tIret, tZret, tVret, tAret, tIf, tIf2, tGoto, tIstore, tAstore, sset, tIinc, tDup, tDup2, tPop, tPutI, tPutZ, tPutR, tCallV, tCallS, popN, tFn, tCopy, tMax, tMin, tSw, swc, tRem, tObjI, Option.toList, List.nil_append, List.cons_append, okR, true_and, and_true, true_or, or_true, Nat.zero_le, ne_eq, not_false_eq_true, Nat.reduceEqDiff, F_X12_of, hS0, hS, upI_upF, upF_same, upF_upF]
            rw [show nI (2570 + 21 * w) + 0 = nI (2570 + 21 * w) from by rw [show (0 : Int32) = nI 0 from rfl, nI_add]; rfl]
            simp (disch := omega) only [lit, pk_mul, nI_add, nI_clamp, nI_inb]
            refine ⟨by omega, by omega, by omega, by omega, by omega, by omega, by omega, by omega, ?_⟩
            have et : up (up (up (zrF (up (μ 2738) 4510 (nI (w + 1))) (2570 + 21 * w) 21) (2570 + 21 * w + 8) rd) (2570 + 21 * w) (nI f)) (2570 + 21 * w + 1) (nI t) (514 * f + 1) = μ 2738 (514 * f + 1) := by
              rw [up_ne (by omega), up_ne (by omega), up_ne (by omega), zr_lo (by omega), up_ne (by omega)]
            rw [et, zr_push (μ 2738) w f hw hw60 (by omega), hrd]
            exact h
          simp only [w_X12_sends_99, w_X12_sends_118, w_X12_sends_128, w_X12_sends_138, w_X12_sends_148, tAload, tIload, nth, tGetI, tGetR, tConst, tLconst, tBin, tUn, tI2l, tAld, tAldR, tAlen, tIast, tBast, tZast, tAast, tIret, tZret, tVret, tAret, tIf, tIf2, tGoto, tIstore, tAstore, sset, tIinc, tDup, tDup2, tPop, tPutI, tPutZ, tPutR, tCallV, tCallS, popN, tFn, tCopy, tMax, tMin, tSw, swc, tRem, tObjI, Option.toList, List.nil_append, List.cons_append, okR, true_and, and_true, true_or, or_true, Nat.zero_le, ne_eq, not_false_eq_true, Nat.reduceEqDiff, F_X12_of, hS0, hS, i8, cl_8, upF_same]
          simp (disch := omega) only [ixs 14 14 rfl, nI_clamp, nI_inb]
          have er : zrF (up (μ 2738) 4510 (nI w + 1)) (2570 + 21 * w) 21 (514 * f + 14) = μ 2738 (514 * f + 14) := by
            rw [zr_lo (by omega), up_ne (by omega)]
          rw [er, upF_ne (show (2744 : Nat) ≠ 2738 by decide)]
          refine ⟨fun k2 => ⟨by omega, fin _ ?_⟩, fun k2 => ⟨fun k4 => ⟨fun k3 => fin _ ?_, fun k3 => ⟨fun k5 => fin _ ?_, fun k5 => fin _ ?_⟩⟩, fun k4 => ⟨by omega, fin _ ?_⟩⟩⟩
          · simp [rndS, k2]
          · simp [rndS, k2, k4, k3]
          · simp [rndS, k2, k4, k3, k5]
          · simp only [Decidable.not_not] at k5
            simp [rndS, k2, k4, k5]
          · simp only [Decidable.not_not] at k4
            simp [rndS, k4]
        | succ n ih =>
          intro k hk
          refine g75 _ _ _ _ _ _ ?_
          simp only [w_X12_sends_75, tAload, tIload, nth, tGetI, tGetR, tConst, tLconst, tBin, tUn, tI2l, tAld, tAldR, tAlen, tIast, tBast, tZast, tAast, tIret, tZret, tVret, tAret, tIf, tIf2, tGoto, tIstore, tAstore, sset, tIinc, tDup, tDup2, tPop, tPutI, tPutZ, tPutR, tCallV, tCallS, popN, tFn, tCopy, tMax, tMin, tSw, swc, tRem, tObjI, Option.toList, List.nil_append, List.cons_append, okR, true_and, and_true, true_or, or_true, Nat.zero_le, ne_eq, not_false_eq_true, Nat.reduceEqDiff, hS]
          refine ⟨fun z => ?_, fun _ => ?_⟩
          · rw [show (21 : Int32) = nI 21 from rfl, nI_leI (by decide) (by omega)] at z
            omega
          · rw [nI_add, nI_clamp (by omega), nI_1]
            refine ⟨inb_nI (by omega) (by decide), ?_⟩
            rw [upI_upF, upF_same, upF_upF]
            have e : up (zrF (up (μ 2738) 4510 (nI w + 1)) (2570 + 21 * w) k) (2570 + 21 * w + k) 0 = zrF (up (μ 2738) 4510 (nI w + 1)) (2570 + 21 * w) (k + 1) := by
              funext i
              unfold zrF
              rw [show ∀ (A : Rw) (j : Nat) (v : Int32), up A j v = fun q => if q = j then v else A q from fun _ _ _ => rfl]
              dsimp only
              by_cases c : i = 2570 + 21 * w + k
              · rw [if_pos c, if_pos (by omega)]
              · rw [if_neg c]
                by_cases c2 : 2570 + 21 * w ≤ i ∧ i < 2570 + 21 * w + k
                · rw [if_pos c2, if_pos (by omega)]
                · rw [if_neg c2, if_neg (by omega)]
            rw [e]
            exact ih (k + 1) (by omega)
      have := loop 21 0 (by omega)
      have e0 : zrF (up (μ 2738) 4510 (nI w + 1)) (2570 + 21 * w) 0 = up (μ 2738) 4510 (nI w + 1) := by funext i; unfold zrF; rw [if_neg (by omega)]
      rw [e0] at this
      rw [upI_upF]
      exact this
    · have hn : ¬ okS (μ 2738) f t := fun z => z.1 c1
      simp only [vSend, qSend, if_pos c1, if_neg hn, upF_id] at h
      exact h
  · exact h.elim
