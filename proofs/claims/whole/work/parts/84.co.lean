/-! ===== the class: members are asked ===== -/
def Fm (w : Nat) (μ μ' : Mi) : Prop := ∀ y : Nat, (y < w + 2 ∨ w + 128 ≤ y) → μ' y = μ y
def asF (s : Nat) (set kd : Int32) : Nat → Rw → Rw := fun t A => match t with
  | 0 => A
  | t + 1 => as1 s set kd (asF s set kd t A) t
theorem asF_5 {s : Nat} {set kd : Int32} {A : Rw} : asF s set kd 5 A = qAsks5 s set kd A := rfl
theorem asF_s {s t : Nat} {set kd : Int32} {A : Rw} : asF s set kd (t + 1) A = as1 s set kd (asF s set kd t A) t := rfl
theorem asF_lo {s : Nat} {set kd : Int32} {A : Rw} : ∀ t i, i < 2570 → asF s set kd t A i = A i := by
  intro t
  induction t with
  | zero => intro i _; rfl
  | succ t ih =>
    intro i hi
    rw [asF_s]
    unfold as1
    split
    · rw [qPost_lo hi, ih i hi]
    · exact ih i hi
theorem nI_le5 {t : Nat} (h : t ≤ 5) : (5 : Int32) ≤ nI t ↔ t = 5 := by
  rw [show (5 : Int32) = nI 5 from rfl, nI_leI (by decide) (by omega)]
  omega
def w_X10_postToMembers_72 (M : CT) (G : Nat → PT) (Rp : RT) : PT := tVret Rp
def w_X10_postToMembers_66 (M : CT) (G : Nat → PT) (Rp : RT) : PT := tIinc 4 1 <| tGoto (G 3)
def w_X10_postToMembers_3 (M : CT) (G : Nat → PT) (Rp : RT) : PT := tIload 4 <| tConst 5 <| tIf2 (fun x y => y ≤ x) (w_X10_postToMembers_72 M G Rp) <| tIload 4 <| tAload 1 <| tGetI 7 18 0 <| tIf2 (fun x y => x = y) (w_X10_postToMembers_66 M G Rp) <| tAload 1 <| tIload 4 <| tFn 2 F_X7_isMember <| tIf (fun x => x = 0) (w_X10_postToMembers_66 M G Rp) <| tAload 0 <| tGetR 10 6 1 <| tAload 1 <| tGetI 7 18 0 <| tIload 4 <| tIload 2 <| tIload 3 <| tFn 5 F_X1_post <| tAstore 5 <| tAload 5 <| tAload 1 <| tGetI 7 18 7 <| tPutI 2 10 4 <| tAload 5 <| tAload 1 <| tAload 1 <| tGetI 7 18 7 <| tFn 2 F_X7_termAt <| tPutI 2 10 5 <| w_X10_postToMembers_66 M G Rp
def w_X10_postToMembers_0 (M : CT) (G : Nat → PT) (Rp : RT) : PT := tConst 0 <| tIstore 4 <| G 3
set_option maxRecDepth 20000 in
theorem b_X10_postToMembers_72 {Z : Zt} {d : Nat} {p : Program} {e : Env} {R : Room} {s : State} {m : MethodId} {args : Array Value} {below : List Frame} {meth : Method} {c : Code} {Rp : RT} (C : Cx Z (d + 1) jX10_postToMembers RX10 p R s m args meth c) : Sd Z jX10_postToMembers p e R s m args below meth c (MQ below (QcS Z Rp) args s 0 0 (fun a => Z.2.2.1 < a)) 72 (w_X10_postToMembers_72 (MS Z (d + 1)) (Gw Z 6 p e R s m args below meth c (MQ below (QcS Z Rp) args s 0 0 (fun a => Z.2.2.1 < a))) Rp) := by
  unfold w_X10_postToMembers_72
  exact s_vret C rfl (by decide +kernel)
set_option maxRecDepth 20000 in
theorem b_X10_postToMembers_66 {Z : Zt} {d : Nat} {p : Program} {e : Env} {R : Room} {s : State} {m : MethodId} {args : Array Value} {below : List Frame} {meth : Method} {c : Code} {Rp : RT} (C : Cx Z (d + 1) jX10_postToMembers RX10 p R s m args meth c) : Sd Z jX10_postToMembers p e R s m args below meth c (MQ below (QcS Z Rp) args s 0 0 (fun a => Z.2.2.1 < a)) 66 (w_X10_postToMembers_66 (MS Z (d + 1)) (Gw Z 6 p e R s m args below meth c (MQ below (QcS Z Rp) args s 0 0 (fun a => Z.2.2.1 < a))) Rp) := by
  unfold w_X10_postToMembers_66
  refine s_iinc (n := 1) C (by decide +kernel) (by decide) ?_
  exact s_goto (off := (-66)) (tgt := 3) C (by decide +kernel) (by decide) (fun _ _ _ _ _ _ h => h)
set_option maxRecDepth 20000 in
theorem b_X10_postToMembers_3 {Z : Zt} {d : Nat} {p : Program} {e : Env} {R : Room} {s : State} {m : MethodId} {args : Array Value} {below : List Frame} {meth : Method} {c : Code} {Rp : RT} (C : Cx Z (d + 1) jX10_postToMembers RX10 p R s m args meth c) : Sd Z jX10_postToMembers p e R s m args below meth c (MQ below (QcS Z Rp) args s 0 0 (fun a => Z.2.2.1 < a)) 3 (w_X10_postToMembers_3 (MS Z (d + 1)) (Gw Z 6 p e R s m args below meth c (MQ below (QcS Z Rp) args s 0 0 (fun a => Z.2.2.1 < a))) Rp) := by
  unfold w_X10_postToMembers_3
  refine s_iload (k := 4) C (by decide +kernel) ?_
  refine s_iconst (n := 5) C (by decide +kernel) (by decide) ?_
  refine s_icmp_ge (off := 66) (tgt := 72) C (by decide +kernel) (by decide) (b_X10_postToMembers_72 C) ?_
  refine s_iload (k := 4) C (by decide +kernel) ?_
  refine s_aload_n (k := 1) C (by decide +kernel) ?_
  refine s_getI C w_1_221 (by decide +kernel) rfl ?_
  refine s_icmp_eq (off := 51) (tgt := 66) C (by decide +kernel) (by decide) (b_X10_postToMembers_66 C) ?_
  refine s_aload_n (k := 1) C (by decide +kernel) ?_
  refine s_iload (k := 4) C (by decide +kernel) ?_
  refine s_fnV C (j2 := jX7_isMember) (cl := 7) (nf := 18) rfl rfl (by decide +kernel) rfl w_3_109 w_3_110 w_3_111 w_1_5 w_3_112 (by decide +kernel) (fun _ _ _ _ _ h => f_X7_isMember h) (fun _ _ _ _ _ h => r_X7_isMember h) ?_
  refine s_if_eq (off := 42) (tgt := 66) C (by decide +kernel) (by decide) (b_X10_postToMembers_66 C) ?_
  refine s_aload_n (k := 0) C (by decide +kernel) ?_
  refine s_getR C w_2_117 (by decide +kernel) rfl ?_
  refine s_aload_n (k := 1) C (by decide +kernel) ?_
  refine s_getI C w_1_221 (by decide +kernel) rfl ?_
  refine s_iload (k := 4) C (by decide +kernel) ?_
  refine s_iload_n (k := 2) C (by decide +kernel) ?_
  refine s_iload_n (k := 3) C (by decide +kernel) ?_
  refine s_fnV C (j2 := jX1_post) (cl := 1) (nf := 6) rfl rfl (by decide +kernel) rfl w_3_125 w_3_126 w_3_127 w_1_3 w_3_128 (by decide +kernel) (fun _ _ _ _ _ h => f_X1_post h) (fun _ _ _ _ _ h => r_X1_post h) ?_
  refine s_astore (k := 5) C (by decide +kernel) ?_
  refine s_aload (k := 5) C (by decide +kernel) ?_
  refine s_aload_n (k := 1) C (by decide +kernel) ?_
  refine s_getI C w_2_5 (by decide +kernel) rfl ?_
  refine s_putI C w_1_74 (by decide +kernel) rfl (Or.inl rfl) ?_
  refine s_aload (k := 5) C (by decide +kernel) ?_
  refine s_aload_n (k := 1) C (by decide +kernel) ?_
  refine s_aload_n (k := 1) C (by decide +kernel) ?_
  refine s_getI C w_2_5 (by decide +kernel) rfl ?_
  refine s_fnV C (j2 := jX7_termAt) (cl := 7) (nf := 18) rfl rfl (by decide +kernel) rfl w_3_129 w_3_130 w_3_131 w_1_5 w_3_132 (by decide +kernel) (fun _ _ _ _ _ h => f_X7_termAt h) (fun _ _ _ _ _ h => r_X7_termAt h) ?_
  refine s_putI C w_1_79 (by decide +kernel) rfl (Or.inl rfl) ?_
  exact (b_X10_postToMembers_66 C)
set_option maxRecDepth 20000 in
theorem b_X10_postToMembers_0 {Z : Zt} {d : Nat} {p : Program} {e : Env} {R : Room} {s : State} {m : MethodId} {args : Array Value} {below : List Frame} {meth : Method} {c : Code} {Rp : RT} (C : Cx Z (d + 1) jX10_postToMembers RX10 p R s m args meth c) : Sd Z jX10_postToMembers p e R s m args below meth c (MQ below (QcS Z Rp) args s 0 0 (fun a => Z.2.2.1 < a)) 0 (w_X10_postToMembers_0 (MS Z (d + 1)) (Gw Z 6 p e R s m args below meth c (MQ below (QcS Z Rp) args s 0 0 (fun a => Z.2.2.1 < a))) Rp) := by
  unfold w_X10_postToMembers_0
  refine s_iconst (n := 0) C (by decide +kernel) (by decide) ?_
  refine s_istore (k := 4) C (by decide +kernel) ?_
  exact (fun _ _ _ _ _ _ h => h)
theorem ms_X10_postToMembers {Z : Zt} {d : Nat} {S : Sh} {μ : Mi} {ρ : Mr} {Rp : RT} (a0 : Nat) (a1 : Nat) (x2 : Int32) (x3 : Int32) (h : ∀ G : Nat → PT, (∀ (L st : List Value) (S : Sh) (q : Nat × Nat) (μ : Mi) (ρ : Mr), w_X10_postToMembers_3 (MS Z (d + 1)) G Rp L st S q μ ρ → G 3 L st S q μ ρ) → w_X10_postToMembers_0 (MS Z (d + 1)) G Rp [.ref a0, .ref a1, .int x2, .int x3, .null, .null] [] S (0, 0) μ ρ) : MS Z (d + 2) jX10_postToMembers [.ref a0, .ref a1, .int x2, .int x3] S μ ρ Rp :=
  MS_of [.ref a0, .ref a1, .int x2, .int x3, .null, .null] (by decide +kernel) rfl rfl (Nat.le_of_ble_eq_true rfl) rfl (fun p e R s m args below meth c C => b_X10_postToMembers_0 C _ _ _ _ _ _ (h _ (b_X10_postToMembers_3 C)))
def F_X10_postToMembers : FT := fun As S μ ρ k => match As with
  | [.ref a, .ref x, .int kd, .int tm] => S.2 a = (10, 6) ∧ ∃ (s : Nat) (A : Rw), s < 5 ∧ x = a + 130 + 8 * s ∧ RR A a S μ ρ ∧ ¬ kd = 4 ∧ tm = (if kd = 7 then A (514 * s + 1) + 1 else A (514 * s + 1)) ∧ ∀ μ', RR (qAsksAll A s kd) a S μ' ρ → Fm a μ μ' → k none μ'
  | _ => False
theorem r_X10_postToMembers {As S μ ρ k} (h : F_X10_postToMembers As S μ ρ k) : ∃ a As', As = Value.ref a :: As' ∧ S.2 a = (10, 6) := by
  unfold F_X10_postToMembers at h
  split at h
  · exact ⟨_, _, rfl, h.1⟩
  · exact h.elim
set_option maxHeartbeats 1000000 in
theorem f_X10_postToMembers {Z : Zt} {d : Nat} {As : List Value} {S : Sh} {μ : Mi} {ρ : Mr} {Rp : RT} (h : F_X10_postToMembers As S μ ρ (fun r μ' => Rp r S μ' ρ)) : MS Z (d + 2) jX10_postToMembers As S μ ρ Rp := by
  unfold F_X10_postToMembers at h
  split at h
  · rename_i a x kd tm
    obtain ⟨a, hNa⟩ : ∃ n : Nat, n = a := ⟨a, rfl⟩
    subst hNa
    obtain ⟨h1, s, A, hs, rfl, hR, hk, htm, h⟩ := h
    refine ms_X10_postToMembers _ _ _ _ (fun G g3 => ?_)
    have hW := RR_W hR
    obtain ⟨x1, x2, -⟩ := W_st hW hs
    have hSt := RR_st hR hs
    have hA := hSt.1
    unfold StA at hA
    have loop : ∀ (j t : Nat) (ν : Mi) (v : Value), j + t = 5 → RR (asF s ((qMem A s).1 ||| (qMem A s).2.1) kd t A) a S ν ρ → Fm a μ ν → G 3 [.ref a, .ref (a + 130 + 8 * s), .int kd, .int tm, .int (nI t), v] [] S (0, 0) ν ρ := by
      intro j
      induction j with
      | zero =>
        intro t ν v ht hν hf
        obtain rfl : t = 5 := by omega
        apply g3
        simp only [w_X10_postToMembers_3, w_X10_postToMembers_72, tAload, tIload, nth, tGetI, tGetR, tConst, tLconst, tBin, tUn, tI2l, tAld, tAldR, tAlen, tIast, tBast, tZast, tAast, tIret, tZret, tVret, tAret, tIf, tIf2, tGoto, tIstore, tAstore, sset, tIinc, tDup, tDup2, tPop, tPutI, tPutZ, tPutR, tCallV, tCallS, popN, tFn, tCopy, tMax, tMin, tSw, swc, tRem, tObjI, Option.toList, List.nil_append, List.cons_append, okR, true_and, and_true, true_or, or_true, Nat.zero_le, ne_eq, not_false_eq_true, Nat.reduceEqDiff]
        refine ⟨fun _ => h ν hν hf, fun c => absurd ((nI_le5 (by decide)).mpr rfl) c⟩
      | succ j ih =>
        intro t ν v ht hν hf
        have ex : ν (a + 130 + 8 * s) = μ (a + 130 + 8 * s) := hf _ (by omega)
        have hnext : ∀ (ν' : Mi) (v : Value), RR (asF s ((qMem A s).1 ||| (qMem A s).2.1) kd (t + 1) A) a S ν' ρ → Fm a μ ν' → w_X10_postToMembers_66 (MS Z (d + 1)) G Rp [.ref a, .ref (a + 130 + 8 * s), .int kd, .int tm, .int (nI t), v] [] S (0, 0) ν' ρ := by
          intro ν' v q1 q2
          simp only [w_X10_postToMembers_66, tAload, tIload, nth, tGetI, tGetR, tConst, tLconst, tBin, tUn, tI2l, tAld, tAldR, tAlen, tIast, tBast, tZast, tAast, tIret, tZret, tVret, tAret, tIf, tIf2, tGoto, tIstore, tAstore, sset, tIinc, tDup, tDup2, tPop, tPutI, tPutZ, tPutR, tCallV, tCallS, popN, tFn, tCopy, tMax, tMin, tSw, swc, tRem, tObjI, Option.toList, List.nil_append, List.cons_append, okR, true_and, and_true, true_or, or_true, Nat.zero_le, ne_eq, not_false_eq_true, Nat.reduceEqDiff, nI_s1]
          exact ih (t + 1) ν' v (by omega) q1 q2
        have hB := RR_st hν hs
        apply g3
        simp only [w_X10_postToMembers_3, w_X10_postToMembers_72, tAload, tIload, nth, tGetI, tGetR, tConst, tLconst, tBin, tUn, tI2l, tAld, tAldR, tAlen, tIast, tBast, tZast, tAast, tIret, tZret, tVret, tAret, tIf, tIf2, tGoto, tIstore, tAstore, sset, tIinc, tDup, tDup2, tPop, tPutI, tPutZ, tPutR, tCallV, tCallS, popN, tFn, tCopy, tMax, tMin, tSw, swc, tRem, tObjI, Option.toList, List.nil_append, List.cons_append, okR, true_and, and_true, true_or, or_true, Nat.zero_le, ne_eq, not_false_eq_true, Nat.reduceEqDiff, F_X7_isMember, F_X1_post, F_X7_termAt, b2_z, h1, x1, hW.2.2.2.2.1, hW.2.1, ex, hA, hSt.2.2.2.2.1, hSt.2.2.2.2.2.1, hSt.2.2.2.2.2.2]
        rw [nI_le5 (by omega), nI_eq (by omega) (by omega)]
        refine ⟨fun c => absurd c (by omega), fun _ => ⟨fun c => hnext ν v ?_ hf, fun c => ⟨fun c2 => hnext ν v ?_ hf, fun c2 => ⟨a, s, t, _, rfl, hν.1, rfl, rfl, hs, by omega, fun z => c z.symm, fun q μ1 p1 p2 p3 => ?_⟩⟩⟩⟩
        · rw [asF_s]
          unfold as1 qPost
          rw [if_pos c.symm]
          split <;> exact hν
        · rw [asF_s]
          unfold as1
          rw [if_neg c2]
          exact hν
        · obtain ⟨j2, q1, q2, q3, q4, q5⟩ := p2
          have ey : ∀ y : Nat, (y < a + 2 ∨ a + 128 ≤ y) → μ1 y = ν y := fun y hy => p1.1 y (by omega) (by omega)
          have eμ : ∀ y : Nat, (y < a + 2 ∨ a + 128 ≤ y) → μ1 y = μ y := fun y hy => (ey y hy).trans (hf y hy)
          have e1 : μ1 (a + 130 + 8 * s) 7 = A (514 * s + 4) := by rw [eμ _ (by omega)]; exact hA.2.2.2.2.2.2.2.1
          have e1' : ∀ z, upI μ1 q 4 z (a + 130 + 8 * s) 7 = A (514 * s + 4) := fun z => by rw [upI_ne (by omega)]; exact e1
          have e5' : ∀ z, upI μ1 q 4 z (a + 130 + 8 * s + 5) 0 = A (514 * s + 5) := fun z => by rw [upI_ne (by omega), eμ _ (by omega)]; exact hA.2.2.2.2.2.2.2.2.2.1
          simp only [q3, e1, e1', e5', true_and]
          refine ⟨x2, hSt.2.1.2.2.1.1, hSt.2.1.2.1.2, ?_⟩
          have et : cTermAt (upI μ1 q 4 (A (514 * s + 4))) (a + 130 + 8 * s) (A (514 * s + 4)) = qTermAt (asF s ((qMem A s).1 ||| (qMem A s).2.1) kd t A) s (A (514 * s + 4)) := by
            rw [← St_termAt hB]
            unfold cTermAt cHolds
            rw [upI_ne (by omega), upI_ne (by omega), upI_ne (by omega), ey _ (by omega), ey _ (by omega), ey _ (by omega)]
          rw [et]
          have lo := fun i hi => asF_lo (s := s) (set := (qMem A s).1 ||| (qMem A s).2.1) (kd := kd) (A := A) t i hi
          generalize hqt : qTermAt (asF s ((qMem A s).1 ||| (qMem A s).2.1) kd t A) s (A (514 * s + 4)) = qt
          have hms : upI (upI μ1 q 4 (A (514 * s + 4))) q 5 qt q 0 = nI s ∧ upI (upI μ1 q 4 (A (514 * s + 4))) q 5 qt q 1 = nI t ∧ upI (upI μ1 q 4 (A (514 * s + 4))) q 5 qt q 2 = kd ∧ upI (upI μ1 q 4 (A (514 * s + 4))) q 5 qt q 3 = tm ∧ upI (upI μ1 q 4 (A (514 * s + 4))) q 5 qt q 4 = A (514 * s + 4) ∧ upI (upI μ1 q 4 (A (514 * s + 4))) q 5 qt q 5 = qt ∧
              upI (upI μ1 q 4 (A (514 * s + 4))) q 5 qt q 6 = 0 ∧ upI (upI μ1 q 4 (A (514 * s + 4))) q 5 qt q 7 = 0 ∧ upI (upI μ1 q 4 (A (514 * s + 4))) q 5 qt q 8 = 0 := by
            simp (disch := omega) only [upI_k, upI_at, p3, and_self]
          have hrs := RR_sent (row := rowS (nI s) (nI t) tm kd (A (514 * s + 4)) qt 0) hν hs (show t < 5 by omega) (fun z => c z.symm) p1 ⟨j2, q1, q2, q3, q4, q5⟩ (fun y y1 y2 => by rw [upI_ne y1, upI_ne y1]) (MsR_S hms ((rg_nI (by omega)).mpr ⟨by omega, by omega⟩) ((rg_nI (by omega)).mpr ⟨by omega, by omega⟩) (by rw [nI_eq (by omega) (by omega)]; exact fun z => c z.symm) hk)
          refine hnext _ _ ?_ (fun y hy => by rw [hrs.2 y hy]; exact hf y hy)
          rw [asF_s]
          unfold as1
          rw [if_pos (Decidable.not_not.mp c2), lo _ (by omega), lo _ (by omega), ← htm, hqt]
          exact hrs.1
    simp only [w_X10_postToMembers_0, tAload, tIload, nth, tGetI, tGetR, tConst, tLconst, tBin, tUn, tI2l, tAld, tAldR, tAlen, tIast, tBast, tZast, tAast, tIret, tZret, tVret, tAret, tIf, tIf2, tGoto, tIstore, tAstore, sset, tIinc, tDup, tDup2, tPop, tPutI, tPutZ, tPutR, tCallV, tCallS, popN, tFn, tCopy, tMax, tMin, tSw, swc, tRem, tObjI, Option.toList, List.nil_append, List.cons_append, okR, true_and, and_true, true_or, or_true, Nat.zero_le, ne_eq, not_false_eq_true, Nat.reduceEqDiff]
    exact loop 5 0 μ _ rfl hR (fun _ _ => rfl)
  · exact h.elim
