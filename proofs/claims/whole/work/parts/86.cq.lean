/-! ===== the class: to all, how far agreed ===== -/
def ffF (s : Nat) (set : Int32) : Nat → Rw → Rw := fun t A => match t with
  | 0 => A
  | t + 1 => ff s set (ffF s set t A) t
theorem ffF_5 {s : Nat} {set : Int32} {A : Rw} : ffF s set 5 A = qFeeds5 s set A := rfl
theorem ffF_s {s t : Nat} {set : Int32} {A : Rw} : ffF s set (t + 1) A = ff s set (ffF s set t A) t := rfl
theorem ffF_lo {s : Nat} {set : Int32} {A : Rw} : ∀ t i, i < 2570 → ffF s set t A i = A i := by
  intro t
  induction t with
  | zero => intro i _; rfl
  | succ t ih => intro i hi; rw [ffF_s, ff_lo hi, ih i hi]
def w_X10_sendToAll_35 (M : CT) (G : Nat → PT) (Rp : RT) : PT := tVret Rp
def w_X10_sendToAll_29 (M : CT) (G : Nat → PT) (Rp : RT) : PT := tIinc 2 1 <| tGoto (G 2)
def w_X10_sendToAll_2 (M : CT) (G : Nat → PT) (Rp : RT) : PT := tIload 2 <| tConst 5 <| tIf2 (fun x y => y ≤ x) (w_X10_sendToAll_35 M G Rp) <| tIload 2 <| tAload 1 <| tGetI 7 18 0 <| tIf2 (fun x y => x = y) (w_X10_sendToAll_29 M G Rp) <| tAload 1 <| tIload 2 <| tFn 2 F_X7_isMember <| tIf (fun x => x = 0) (w_X10_sendToAll_29 M G Rp) <| tAload 0 <| tAload 1 <| tIload 2 <| tFn 3 F_X10_send <| w_X10_sendToAll_29 M G Rp
def w_X10_sendToAll_0 (M : CT) (G : Nat → PT) (Rp : RT) : PT := tConst 0 <| tIstore 2 <| G 2
set_option maxRecDepth 20000 in
theorem b_X10_sendToAll_35 {Z : Zt} {d : Nat} {p : Program} {e : Env} {R : Room} {s : State} {m : MethodId} {args : Array Value} {below : List Frame} {meth : Method} {c : Code} {Rp : RT} (C : Cx Z (d + 2) jX10_sendToAll RX10 p R s m args meth c) : Sd Z jX10_sendToAll p e R s m args below meth c (MQ below (QcS Z Rp) args s 0 0 (fun a => Z.2.2.1 < a)) 35 (w_X10_sendToAll_35 (MS Z (d + 2)) (Gw Z 3 p e R s m args below meth c (MQ below (QcS Z Rp) args s 0 0 (fun a => Z.2.2.1 < a))) Rp) := by
  unfold w_X10_sendToAll_35
  exact s_vret C rfl (by decide +kernel)
set_option maxRecDepth 20000 in
theorem b_X10_sendToAll_29 {Z : Zt} {d : Nat} {p : Program} {e : Env} {R : Room} {s : State} {m : MethodId} {args : Array Value} {below : List Frame} {meth : Method} {c : Code} {Rp : RT} (C : Cx Z (d + 2) jX10_sendToAll RX10 p R s m args meth c) : Sd Z jX10_sendToAll p e R s m args below meth c (MQ below (QcS Z Rp) args s 0 0 (fun a => Z.2.2.1 < a)) 29 (w_X10_sendToAll_29 (MS Z (d + 2)) (Gw Z 3 p e R s m args below meth c (MQ below (QcS Z Rp) args s 0 0 (fun a => Z.2.2.1 < a))) Rp) := by
  unfold w_X10_sendToAll_29
  refine s_iinc (n := 1) C (by decide +kernel) (by decide) ?_
  exact s_goto (off := (-30)) (tgt := 2) C (by decide +kernel) (by decide) (fun _ _ _ _ _ _ h => h)
set_option maxRecDepth 20000 in
theorem b_X10_sendToAll_2 {Z : Zt} {d : Nat} {p : Program} {e : Env} {R : Room} {s : State} {m : MethodId} {args : Array Value} {below : List Frame} {meth : Method} {c : Code} {Rp : RT} (C : Cx Z (d + 2) jX10_sendToAll RX10 p R s m args meth c) : Sd Z jX10_sendToAll p e R s m args below meth c (MQ below (QcS Z Rp) args s 0 0 (fun a => Z.2.2.1 < a)) 2 (w_X10_sendToAll_2 (MS Z (d + 2)) (Gw Z 3 p e R s m args below meth c (MQ below (QcS Z Rp) args s 0 0 (fun a => Z.2.2.1 < a))) Rp) := by
  unfold w_X10_sendToAll_2
  refine s_iload_n (k := 2) C (by decide +kernel) ?_
  refine s_iconst (n := 5) C (by decide +kernel) (by decide) ?_
  refine s_icmp_ge (off := 31) (tgt := 35) C (by decide +kernel) (by decide) (b_X10_sendToAll_35 C) ?_
  refine s_iload_n (k := 2) C (by decide +kernel) ?_
  refine s_aload_n (k := 1) C (by decide +kernel) ?_
  refine s_getI C w_1_221 (by decide +kernel) rfl ?_
  refine s_icmp_eq (off := 17) (tgt := 29) C (by decide +kernel) (by decide) (b_X10_sendToAll_29 C) ?_
  refine s_aload_n (k := 1) C (by decide +kernel) ?_
  refine s_iload_n (k := 2) C (by decide +kernel) ?_
  refine s_fnV C (j2 := jX7_isMember) (cl := 7) (nf := 18) rfl rfl (by decide +kernel) rfl w_3_109 w_3_110 w_3_111 w_1_5 w_3_112 (by decide +kernel) (fun _ _ _ _ _ h => f_X7_isMember h) (fun _ _ _ _ _ h => r_X7_isMember h) ?_
  refine s_if_eq (off := 9) (tgt := 29) C (by decide +kernel) (by decide) (b_X10_sendToAll_29 C) ?_
  refine s_aload_n (k := 0) C (by decide +kernel) ?_
  refine s_aload_n (k := 1) C (by decide +kernel) ?_
  refine s_iload_n (k := 2) C (by decide +kernel) ?_
  refine s_fnV C (j2 := jX10_send) (cl := 10) (nf := 6) rfl rfl (by decide +kernel) rfl w_3_162 w_3_163 w_3_164 w_1_2 w_3_165 (by decide +kernel) (fun _ _ _ _ _ h => f_X10_send h) (fun _ _ _ _ _ h => r_X10_send h) ?_
  exact (b_X10_sendToAll_29 C)
set_option maxRecDepth 20000 in
theorem b_X10_sendToAll_0 {Z : Zt} {d : Nat} {p : Program} {e : Env} {R : Room} {s : State} {m : MethodId} {args : Array Value} {below : List Frame} {meth : Method} {c : Code} {Rp : RT} (C : Cx Z (d + 2) jX10_sendToAll RX10 p R s m args meth c) : Sd Z jX10_sendToAll p e R s m args below meth c (MQ below (QcS Z Rp) args s 0 0 (fun a => Z.2.2.1 < a)) 0 (w_X10_sendToAll_0 (MS Z (d + 2)) (Gw Z 3 p e R s m args below meth c (MQ below (QcS Z Rp) args s 0 0 (fun a => Z.2.2.1 < a))) Rp) := by
  unfold w_X10_sendToAll_0
  refine s_iconst (n := 0) C (by decide +kernel) (by decide) ?_
  refine s_istore_n (k := 2) C (by decide +kernel) ?_
  exact (fun _ _ _ _ _ _ h => h)
theorem ms_X10_sendToAll {Z : Zt} {d : Nat} {S : Sh} {μ : Mi} {ρ : Mr} {Rp : RT} (a0 : Nat) (a1 : Nat) (h : ∀ G : Nat → PT, (∀ (L st : List Value) (S : Sh) (q : Nat × Nat) (μ : Mi) (ρ : Mr), w_X10_sendToAll_2 (MS Z (d + 2)) G Rp L st S q μ ρ → G 2 L st S q μ ρ) → w_X10_sendToAll_0 (MS Z (d + 2)) G Rp [.ref a0, .ref a1, .null] [] S (0, 0) μ ρ) : MS Z (d + 3) jX10_sendToAll [.ref a0, .ref a1] S μ ρ Rp :=
  MS_of [.ref a0, .ref a1, .null] (by decide +kernel) rfl rfl (Nat.le_of_ble_eq_true rfl) rfl (fun p e R s m args below meth c C => b_X10_sendToAll_0 C _ _ _ _ _ _ (h _ (b_X10_sendToAll_2 C)))
def F_X10_sendToAll : FT := fun As S μ ρ k => match As with
  | [.ref a, .ref x] => S.2 a = (10, 6) ∧ ∃ (s : Nat) (A : Rw), s < 5 ∧ x = a + 130 + 8 * s ∧ RR A a S μ ρ ∧ A (514 * s + 3) = 2 ∧ (∀ t, t < 5 → rg (A (514 * s + 24 + t)) 0 121) ∧ ∀ μ', RR (qFeedsAll A s) a S μ' ρ → Fm a μ μ' → k none μ'
  | _ => False
theorem r_X10_sendToAll {As S μ ρ k} (h : F_X10_sendToAll As S μ ρ k) : ∃ a As', As = Value.ref a :: As' ∧ S.2 a = (10, 6) := by
  unfold F_X10_sendToAll at h
  split at h
  · exact ⟨_, _, rfl, h.1⟩
  · exact h.elim
set_option maxHeartbeats 1000000 in
theorem f_X10_sendToAll {Z : Zt} {d : Nat} {As : List Value} {S : Sh} {μ : Mi} {ρ : Mr} {Rp : RT} (h : F_X10_sendToAll As S μ ρ (fun r μ' => Rp r S μ' ρ)) : MS Z (d + 3) jX10_sendToAll As S μ ρ Rp := by
  unfold F_X10_sendToAll at h
  split at h
  · rename_i a x
    obtain ⟨a, hNa⟩ : ∃ n : Nat, n = a := ⟨a, rfl⟩
    subst hNa
    obtain ⟨h1, s, A, hs, rfl, hR, hro, hnx, h⟩ := h
    refine ms_X10_sendToAll _ _ (fun G g2 => ?_)
    have hW := RR_W hR
    obtain ⟨x1, x2, -⟩ := W_st hW hs
    have hSt := RR_st hR hs
    have hA := hSt.1
    unfold StA at hA
    have loop : ∀ (j t : Nat) (ν : Mi), j + t = 5 → RR (ffF s ((qMem A s).1 ||| (qMem A s).2.1) t A) a S ν ρ → Fm a μ ν → G 2 [.ref a, .ref (a + 130 + 8 * s), .int (nI t)] [] S (0, 0) ν ρ := by
      intro j
      induction j with
      | zero =>
        intro t ν ht hν hf
        obtain rfl : t = 5 := by omega
        apply g2
        simp only [w_X10_sendToAll_2, w_X10_sendToAll_35, tAload, tIload, nth, tGetI, tGetR, tConst, tLconst, tBin, tUn, tI2l, tAld, tAldR, tAlen, tIast, tBast, tZast, tAast, tIret, tZret, tVret, tAret, tIf, tIf2, tGoto, tIstore, tAstore, sset, tIinc, tDup, tDup2, tPop, tPutI, tPutZ, tPutR, tCallV, tCallS, popN, tFn, tCopy, tMax, tMin, tSw, swc, tRem, tObjI, Option.toList, List.nil_append, List.cons_append, okR, true_and, and_true, true_or, or_true, Nat.zero_le, ne_eq, not_false_eq_true, Nat.reduceEqDiff]
        refine ⟨fun _ => h ν hν hf, fun c => absurd ((nI_le5 (by decide)).mpr rfl) c⟩
      | succ j ih =>
        intro t ν ht hν hf
        have ex : ν (a + 130 + 8 * s) = μ (a + 130 + 8 * s) := hf _ (by omega)
        have hnext : ∀ (ν' : Mi), RR (ffF s ((qMem A s).1 ||| (qMem A s).2.1) (t + 1) A) a S ν' ρ → Fm a μ ν' → w_X10_sendToAll_29 (MS Z (d + 2)) G Rp [.ref a, .ref (a + 130 + 8 * s), .int (nI t)] [] S (0, 0) ν' ρ := by
          intro ν' q1 q2
          simp only [w_X10_sendToAll_29, tAload, tIload, nth, tGetI, tGetR, tConst, tLconst, tBin, tUn, tI2l, tAld, tAldR, tAlen, tIast, tBast, tZast, tAast, tIret, tZret, tVret, tAret, tIf, tIf2, tGoto, tIstore, tAstore, sset, tIinc, tDup, tDup2, tPop, tPutI, tPutZ, tPutR, tCallV, tCallS, popN, tFn, tCopy, tMax, tMin, tSw, swc, tRem, tObjI, Option.toList, List.nil_append, List.cons_append, okR, true_and, and_true, true_or, or_true, Nat.zero_le, ne_eq, not_false_eq_true, Nat.reduceEqDiff, nI_s1]
          exact ih (t + 1) ν' (by omega) q1 q2
        have lo := fun i hi => ffF_lo (s := s) (set := (qMem A s).1 ||| (qMem A s).2.1) (A := A) t i hi
        apply g2
        simp only [w_X10_sendToAll_2, w_X10_sendToAll_35, tAload, tIload, nth, tGetI, tGetR, tConst, tLconst, tBin, tUn, tI2l, tAld, tAldR, tAlen, tIast, tBast, tZast, tAast, tIret, tZret, tVret, tAret, tIf, tIf2, tGoto, tIstore, tAstore, sset, tIinc, tDup, tDup2, tPop, tPutI, tPutZ, tPutR, tCallV, tCallS, popN, tFn, tCopy, tMax, tMin, tSw, swc, tRem, tObjI, Option.toList, List.nil_append, List.cons_append, okR, true_and, and_true, true_or, or_true, Nat.zero_le, ne_eq, not_false_eq_true, Nat.reduceEqDiff, F_X7_isMember, F_X10_send, b2_z, h1, x1, ex, hA, hSt.2.2.2.2.1, hSt.2.2.2.2.2.1, hSt.2.2.2.2.2.2]
        rw [nI_le5 (by omega), nI_eq (by omega) (by omega)]
        refine ⟨fun c => absurd c (by omega), fun _ => ⟨fun c => hnext ν ?_ hf, fun c => ⟨fun c2 => hnext ν ?_ hf, fun c2 => ⟨s, t, _, hs, rfl, rfl, by omega, fun z => c z.symm, hν, by rw [lo _ (by omega)]; exact hro, by rw [lo _ (by omega)]; exact hnx t (by omega), fun μ' q1 q2 => hnext μ' ?_ ?_⟩⟩⟩⟩
        · rw [ffF_s]; unfold ff; rw [if_neg (fun z => z.2 c)]; exact hν
        · rw [ffF_s]; unfold ff; rw [if_neg (fun z => c2 z.1)]; exact hν
        · rw [ffF_s]; unfold ff; rw [if_pos ⟨Decidable.not_not.mp c2, c⟩]; exact q1
        · intro y hy; rw [q2 y hy]; exact hf y hy
    simp only [w_X10_sendToAll_0, tAload, tIload, nth, tGetI, tGetR, tConst, tLconst, tBin, tUn, tI2l, tAld, tAldR, tAlen, tIast, tBast, tZast, tAast, tIret, tZret, tVret, tAret, tIf, tIf2, tGoto, tIstore, tAstore, sset, tIinc, tDup, tDup2, tPop, tPutI, tPutZ, tPutR, tCallV, tCallS, popN, tFn, tCopy, tMax, tMin, tSw, swc, tRem, tObjI, Option.toList, List.nil_append, List.cons_append, okR, true_and, and_true, true_or, or_true, Nat.zero_le, ne_eq, not_false_eq_true, Nat.reduceEqDiff]
    exact loop 5 0 μ rfl hR (fun _ _ => rfl)
  · exact h.elim
/-- whose sets a store knows lie within the five -/
theorem St_mem {A : Rw} {s x : Nat} {μ : Mi} (h : St A s x μ) : rg (μ x 10) 0 31 ∧ rg (μ x 11) 0 31 ∧ 1 ≤ (μ x 10).toInt := by
  obtain ⟨h1, h2, h3, h5, h6⟩ := h
  obtain ⟨l, l1, l2, -, l3⟩ := rg_ex h2.2.1
  obtain ⟨sn, s1, s2, -, s3⟩ := rg_ex h2.2.2.1
  rw [h6.2.1, h6.2.2]
  unfold qMem
  rw [l1, nI_clamp l2]
  unfold StB at h2
  rcases cCfg_told (A := A) (s := s) l2 with ⟨z1, z2⟩ | ⟨z1, p, p1, p2, p3, p4, p5, p6⟩
  · rw [z2]
    unfold qBase
    refine ⟨?_, h2.2.2.2.2.2.1, ?_⟩
    · show rg (if A (514 * s + 9) = 0 then A 4514 else A (514 * s + 9)) 0 31
      split
      · exact ⟨by have := h2.2.2.2.2.2.2.2.1; omega, h2.2.2.2.2.2.2.2.2⟩
      · exact h2.2.2.2.2.1
    · show 1 ≤ (if A (514 * s + 9) = 0 then A 4514 else A (514 * s + 9)).toInt
      split
      · exact h2.2.2.2.2.2.2.2.1
      · rename_i z
        have := h2.2.2.2.2.1.1
        have z' : (A (514 * s + 9)).toInt ≠ 0 := fun e => z (Int32.toInt_inj.mp e)
        omega
  · rw [s1, nI_toInt s2] at p1
    obtain ⟨⟨q0, q1, q2, q3⟩, o1, o2, o3, o4, o5, o6⟩ := h5 p (by rw [s1, nI_clamp s2]; omega) (by rw [l1, nI_clamp l2]; omega)
    rw [p4, p5, ← q2, ← q1, ← q3]
    rw [← q1] at p3
    have hx : rg (eX (μ (x + 1) p)) 0 31 := rg_and (y := 31) ⟨by decide, by decide⟩
    refine ⟨hx, ?_, ?_⟩
    · rcases p3 with z | z
      · rw [if_pos z]; have := o4 z; exact ⟨by have := this.1; omega, this.2⟩
      · rw [if_neg (by rw [z]; decide)]; exact ⟨by decide, by decide⟩
    · have := hx.1
      have z' : (eX (μ (x + 1) p)).toInt ≠ 0 := fun e => o5 p3 (Int32.toInt_inj.mp e)
      omega
