/-! ===== the class: snapshots, reads ===== -/
theorem cpy_in {f g : Rw} {i : Nat} (h : i < 4) : va_cpy f g 0 0 4 i = f i := by
  unfold va_cpy
  simp [h]
theorem St_term {A : Rw} {s x : Nat} {μ : Mi} {p : Int32} (h5 : μ (x + 5) 0 = A (514 * s + 5)) (h6 : μ (x + 5) 1 = A (514 * s + 6)) (h4 : μ x 7 = A (514 * s + 4)) (hb : rg (A (514 * s + 5)) 0 120) (hl : ∀ p, (A (514 * s + 5)).toNatClampNeg < p → p ≤ (A (514 * s + 4)).toNatClampNeg → eTm (μ (x + 1) p) = A (514 * s + 30 + 4 * p)) : cTermAt μ x p = qTermAt A s p := by
  unfold cTermAt qTermAt cHolds
  rw [h5, h6, h4]
  by_cases c : p = A (514 * s + 5)
  · rw [if_pos c, if_pos c]
  · rw [if_neg c, if_neg c]
    simp only [Int32.le_iff_toInt_le, Int32.lt_iff_toInt_lt]
    by_cases c2 : (A (514 * s + 5)).toInt < p.toInt ∧ p.toInt ≤ (A (514 * s + 4)).toInt
    · rw [if_pos c2, if_pos (by omega)]
      refine hl _ ?_ ?_
      · show (A (514 * s + 5)).toInt.toNat < p.toInt.toNat
        have := hb.1
        omega
      · show p.toInt.toNat ≤ (A (514 * s + 4)).toInt.toNat
        omega
    · rw [if_neg c2, if_neg (by omega)]
theorem St_termAt {A : Rw} {s x : Nat} {μ : Mi} {p : Int32} (h : St A s x μ) : cTermAt μ x p = qTermAt A s p :=
  St_term h.1.2.2.2.2.2.2.2.2.2.1 h.1.2.2.2.2.2.2.2.2.2.2.1 h.1.2.2.2.2.2.2.2.1 h.2.1.2.2.1 (fun p p1 p2 => (h.2.2.2.1 p p1 p2).1.1)
theorem St_find {A : Rw} {s x n : Nat} {μ : Mi} (h1 : StA A s x μ) (h2 : StB A s) (h3 : StC A s x μ) (h5 : StL A s x μ) (hn : (A (514 * s + 4)).toNatClampNeg = n) : St A s x (cSet μ x (cCfg μ x n)) := by
  have hA := h1
  unfold StA at hA
  subst hn
  have hc : cCfg μ x (A (514 * s + 4)).toNatClampNeg = ((qMem A s).1, (qMem A s).2.1, (qMem A s).2.2.2) := by
    obtain ⟨l, l1, l2, -, l3⟩ := rg_ex h2.2.1
    exact cCfg_q hA.2.2.2.2.2.2.2.2.2.1 h3.2.2 hA.2.2.2.2.2.2.2.2.2.2.2.1 _ (by rw [l1, nI_clamp l2]; exact l2) h2.2.2.1.1 h5
  rw [hc]
  refine ⟨?_, h2, ⟨?_, ?_, ?_⟩, ?_, ?_⟩
  · unfold StA
    simp (disch := omega) only [cSet_ne, cSet_k, hA, and_self]
  · intro i hi; rw [cSet_ne (by omega)]; exact h3.1 i hi
  · intro i hi; rw [cSet_ne (by omega)]; exact h3.2.1 i hi
  · rw [cSet_ne (by omega)]; exact h3.2.2
  · intro p p1 p2; rw [cSet_ne (by omega)]; exact h5 p p1 p2
  · unfold StQ cSet
    simp (disch := omega) only [upI_k, upI_at, and_self]
theorem upI_self {μ : Mi} {a k : Nat} : upI μ a k (μ a k) = μ := by
  funext b i
  unfold upI
  by_cases h : b = a
  · by_cases h2 : i = k
    · simp [h, h2]
    · simp [h2]
  · simp [h]
def cSn1 (μ : Mi) (x : Nat) (c : Int32 × Int32 × Int32) : Mi := upI (upI μ (x + 5) 2 c.1) (x + 5) 3 c.2.1
def cSn2 (μ ν : Mi) (x : Nat) : Mi := upF (upI (upI ν (x + 5) 1 (cTermAt ν x (μ x 8))) (x + 5) 0 (μ x 8)) (x + 6) (va_cpy (μ (x + 2)) (μ (x + 6)) 0 0 4)
def cSnap (μ : Mi) (x : Nat) : Mi := cSet (cSn2 μ (cSn1 μ x (cCfg μ x (μ x 8).toNatClampNeg)) x) x (cCfg (cSn2 μ (cSn1 μ x (cCfg μ x (μ x 8).toNatClampNeg)) x) x (μ x 7).toNatClampNeg)
def w_X7_takeSnapshot_69 (M : CT) (G : Nat → PT) (Rp : RT) : PT := tAload 0 <| tGetR 7 18 16 <| tAload 0 <| tAload 0 <| tGetI 7 18 8 <| tFn 2 F_X7_termAt <| tPutI 6 5 1 <| tAload 0 <| tGetR 7 18 16 <| tAload 0 <| tGetI 7 18 8 <| tPutI 6 5 0 <| tAload 0 <| tGetR 7 18 13 <| tConst 0 <| tAload 0 <| tGetR 7 18 16 <| tGetR 6 5 4 <| tConst 0 <| tConst 4 <| tCopy <| tAload 0 <| tFn 1 F_X7_findMembers <| tVret Rp
def w_X7_takeSnapshot_63 (M : CT) (G : Nat → PT) (Rp : RT) : PT := tIinc 1 (-1) <| tGoto (G 5)
def w_X7_takeSnapshot_5 (M : CT) (G : Nat → PT) (Rp : RT) : PT := tIload 1 <| tAload 0 <| tGetR 7 18 16 <| tGetI 6 5 0 <| tIf2 (fun x y => x ≤ y) (w_X7_takeSnapshot_69 M G Rp) <| tAload 0 <| tGetR 7 18 12 <| tIload 1 <| tAld 20 <| tFn 1 F_X0_tellsMembers <| tIf (fun x => x = 0) (w_X7_takeSnapshot_63 M G Rp) <| tAload 0 <| tGetR 7 18 16 <| tAload 0 <| tGetR 7 18 12 <| tIload 1 <| tAld 20 <| tFn 1 F_X0_cellOf <| tPutI 6 5 2 <| tAload 0 <| tGetR 7 18 16 <| tAload 0 <| tGetR 7 18 12 <| tIload 1 <| tAld 20 <| tFn 1 F_X0_numberOf <| tPutI 6 5 3 <| tGoto (w_X7_takeSnapshot_69 M G Rp)
def w_X7_takeSnapshot_0 (M : CT) (G : Nat → PT) (Rp : RT) : PT := tAload 0 <| tGetI 7 18 8 <| tIstore 1 <| G 5
set_option maxRecDepth 20000 in
theorem b_X7_takeSnapshot_69 {Z : Zt} {d : Nat} {p : Program} {e : Env} {R : Room} {s : State} {m : MethodId} {args : Array Value} {below : List Frame} {meth : Method} {c : Code} {Rp : RT} (C : Cx Z (d + 2) jX7_takeSnapshot RX7 p R s m args meth c) : Sd Z jX7_takeSnapshot p e R s m args below meth c (MQ below (QcS Z Rp) args s 0 0 (fun a => Z.2.2.1 < a)) 69 (w_X7_takeSnapshot_69 (MS Z (d + 2)) (Gw Z 2 p e R s m args below meth c (MQ below (QcS Z Rp) args s 0 0 (fun a => Z.2.2.1 < a))) Rp) := by
  unfold w_X7_takeSnapshot_69
  refine s_aload_n (k := 0) C (by decide +kernel) ?_
  refine s_getR C w_2_32 (by decide +kernel) rfl ?_
  refine s_aload_n (k := 0) C (by decide +kernel) ?_
  refine s_aload_n (k := 0) C (by decide +kernel) ?_
  refine s_getI C w_2_6 (by decide +kernel) rfl ?_
  refine s_fnV C (j2 := jX7_termAt) (cl := 7) (nf := 18) rfl rfl (by decide +kernel) rfl w_4_17 w_3_130 w_3_131 w_1_5 w_3_132 (by decide +kernel) (fun _ _ _ _ _ h => f_X7_termAt h) (fun _ _ _ _ _ h => r_X7_termAt h) ?_
  refine s_putI C w_1_166 (by decide +kernel) rfl (Or.inl rfl) ?_
  refine s_aload_n (k := 0) C (by decide +kernel) ?_
  refine s_getR C w_2_32 (by decide +kernel) rfl ?_
  refine s_aload_n (k := 0) C (by decide +kernel) ?_
  refine s_getI C w_2_6 (by decide +kernel) rfl ?_
  refine s_putI C w_1_162 (by decide +kernel) rfl (Or.inl rfl) ?_
  refine s_aload_n (k := 0) C (by decide +kernel) ?_
  refine s_getR C w_2_23 (by decide +kernel) rfl ?_
  refine s_iconst (n := 0) C (by decide +kernel) (by decide) ?_
  refine s_aload_n (k := 0) C (by decide +kernel) ?_
  refine s_getR C w_2_32 (by decide +kernel) rfl ?_
  refine s_getR C w_1_175 (by decide +kernel) rfl ?_
  refine s_iconst (n := 0) C (by decide +kernel) (by decide) ?_
  refine s_iconst (n := 4) C (by decide +kernel) (by decide) ?_
  refine s_copy C w_3_44 w_3_46 w_3_45 w_1_14 (by decide +kernel) ?_
  refine s_aload_n (k := 0) C (by decide +kernel) ?_
  refine s_fnV C (j2 := jX7_findMembers) (cl := 7) (nf := 18) rfl rfl (by decide +kernel) rfl w_2_95 w_2_96 w_2_97 w_1_5 w_2_98 (by decide +kernel) (fun _ _ _ _ _ h => f_X7_findMembers h) (fun _ _ _ _ _ h => r_X7_findMembers h) ?_
  exact s_vret C rfl (by decide +kernel)
set_option maxRecDepth 20000 in
theorem b_X7_takeSnapshot_63 {Z : Zt} {d : Nat} {p : Program} {e : Env} {R : Room} {s : State} {m : MethodId} {args : Array Value} {below : List Frame} {meth : Method} {c : Code} {Rp : RT} (C : Cx Z (d + 2) jX7_takeSnapshot RX7 p R s m args meth c) : Sd Z jX7_takeSnapshot p e R s m args below meth c (MQ below (QcS Z Rp) args s 0 0 (fun a => Z.2.2.1 < a)) 63 (w_X7_takeSnapshot_63 (MS Z (d + 2)) (Gw Z 2 p e R s m args below meth c (MQ below (QcS Z Rp) args s 0 0 (fun a => Z.2.2.1 < a))) Rp) := by
  unfold w_X7_takeSnapshot_63
  refine s_iinc (n := (-1)) C (by decide +kernel) (by decide) ?_
  exact s_goto (off := (-61)) (tgt := 5) C (by decide +kernel) (by decide) (fun _ _ _ _ _ _ h => h)
set_option maxRecDepth 20000 in
theorem b_X7_takeSnapshot_5 {Z : Zt} {d : Nat} {p : Program} {e : Env} {R : Room} {s : State} {m : MethodId} {args : Array Value} {below : List Frame} {meth : Method} {c : Code} {Rp : RT} (C : Cx Z (d + 2) jX7_takeSnapshot RX7 p R s m args meth c) : Sd Z jX7_takeSnapshot p e R s m args below meth c (MQ below (QcS Z Rp) args s 0 0 (fun a => Z.2.2.1 < a)) 5 (w_X7_takeSnapshot_5 (MS Z (d + 2)) (Gw Z 2 p e R s m args below meth c (MQ below (QcS Z Rp) args s 0 0 (fun a => Z.2.2.1 < a))) Rp) := by
  unfold w_X7_takeSnapshot_5
  refine s_iload_n (k := 1) C (by decide +kernel) ?_
  refine s_aload_n (k := 0) C (by decide +kernel) ?_
  refine s_getR C w_2_32 (by decide +kernel) rfl ?_
  refine s_getI C w_1_162 (by decide +kernel) rfl ?_
  refine s_icmp_le (off := 56) (tgt := 69) C (by decide +kernel) (by decide) (b_X7_takeSnapshot_69 C) ?_
  refine s_aload_n (k := 0) C (by decide +kernel) ?_
  refine s_getR C w_2_20 (by decide +kernel) rfl ?_
  refine s_iload_n (k := 1) C (by decide +kernel) ?_
  refine s_iald C (by decide +kernel) ?_
  refine s_fnS C (j2 := jX0_tellsMembers) (by decide +kernel) rfl w_2_99 w_2_100 w_1_9 w_2_101 (by decide +kernel) (fun _ _ _ _ _ h => f_X0_tellsMembers h) ?_
  refine s_if_eq (off := 38) (tgt := 63) C (by decide +kernel) (by decide) (b_X7_takeSnapshot_63 C) ?_
  refine s_aload_n (k := 0) C (by decide +kernel) ?_
  refine s_getR C w_2_32 (by decide +kernel) rfl ?_
  refine s_aload_n (k := 0) C (by decide +kernel) ?_
  refine s_getR C w_2_20 (by decide +kernel) rfl ?_
  refine s_iload_n (k := 1) C (by decide +kernel) ?_
  refine s_iald C (by decide +kernel) ?_
  refine s_fnS C (j2 := jX0_cellOf) (by decide +kernel) rfl w_2_102 w_2_103 w_1_9 w_2_104 (by decide +kernel) (fun _ _ _ _ _ h => f_X0_cellOf h) ?_
  refine s_putI C w_1_169 (by decide +kernel) rfl (Or.inl rfl) ?_
  refine s_aload_n (k := 0) C (by decide +kernel) ?_
  refine s_getR C w_2_32 (by decide +kernel) rfl ?_
  refine s_aload_n (k := 0) C (by decide +kernel) ?_
  refine s_getR C w_2_20 (by decide +kernel) rfl ?_
  refine s_iload_n (k := 1) C (by decide +kernel) ?_
  refine s_iald C (by decide +kernel) ?_
  refine s_fnS C (j2 := jX0_numberOf) (by decide +kernel) rfl w_2_105 w_2_106 w_1_9 w_2_107 (by decide +kernel) (fun _ _ _ _ _ h => f_X0_numberOf h) ?_
  refine s_putI C w_1_172 (by decide +kernel) rfl (Or.inl rfl) ?_
  exact s_goto (off := 9) (tgt := 69) C (by decide +kernel) (by decide) (b_X7_takeSnapshot_69 C)
set_option maxRecDepth 20000 in
theorem b_X7_takeSnapshot_0 {Z : Zt} {d : Nat} {p : Program} {e : Env} {R : Room} {s : State} {m : MethodId} {args : Array Value} {below : List Frame} {meth : Method} {c : Code} {Rp : RT} (C : Cx Z (d + 2) jX7_takeSnapshot RX7 p R s m args meth c) : Sd Z jX7_takeSnapshot p e R s m args below meth c (MQ below (QcS Z Rp) args s 0 0 (fun a => Z.2.2.1 < a)) 0 (w_X7_takeSnapshot_0 (MS Z (d + 2)) (Gw Z 2 p e R s m args below meth c (MQ below (QcS Z Rp) args s 0 0 (fun a => Z.2.2.1 < a))) Rp) := by
  unfold w_X7_takeSnapshot_0
  refine s_aload_n (k := 0) C (by decide +kernel) ?_
  refine s_getI C w_2_6 (by decide +kernel) rfl ?_
  refine s_istore_n (k := 1) C (by decide +kernel) ?_
  exact (fun _ _ _ _ _ _ h => h)
theorem ms_X7_takeSnapshot {Z : Zt} {d : Nat} {S : Sh} {μ : Mi} {ρ : Mr} {Rp : RT} (a0 : Nat) (h : ∀ G : Nat → PT, (∀ (L st : List Value) (S : Sh) (q : Nat × Nat) (μ : Mi) (ρ : Mr), w_X7_takeSnapshot_5 (MS Z (d + 2)) G Rp L st S q μ ρ → G 5 L st S q μ ρ) → w_X7_takeSnapshot_0 (MS Z (d + 2)) G Rp [.ref a0, .null] [] S (0, 0) μ ρ) : MS Z (d + 3) jX7_takeSnapshot [.ref a0] S μ ρ Rp :=
  MS_of [.ref a0, .null] (by decide +kernel) rfl rfl (Nat.le_of_ble_eq_true rfl) rfl (fun p e R s m args below meth c C => b_X7_takeSnapshot_0 C _ _ _ _ _ _ (h _ (b_X7_takeSnapshot_5 C)))
def F_X7_takeSnapshot : FT := fun As S μ ρ k => match As with
  | [.ref a] => S.2 a = (7, 18) ∧ StS S ρ a ∧ rg (μ a 7) 0 120 ∧ rg (μ (a + 5) 0) 0 120 ∧ rg (μ a 8) 0 120 ∧ k none (cSnap μ a)
  | _ => False
theorem r_X7_takeSnapshot {As S μ ρ k} (h : F_X7_takeSnapshot As S μ ρ k) : ∃ a As', As = Value.ref a :: As' ∧ S.2 a = (7, 18) := by
  unfold F_X7_takeSnapshot at h
  split at h
  · exact ⟨_, _, rfl, h.1⟩
  · exact h.elim
set_option maxHeartbeats 1000000 in
theorem f_X7_takeSnapshot {Z : Zt} {d : Nat} {As : List Value} {S : Sh} {μ : Mi} {ρ : Mr} {Rp : RT} (h : F_X7_takeSnapshot As S μ ρ (fun r μ' => Rp r S μ' ρ)) : MS Z (d + 3) jX7_takeSnapshot As S μ ρ Rp := by
  unfold F_X7_takeSnapshot at h
  split at h
  · rename_i a
    obtain ⟨a, hNa⟩ : ∃ n : Nat, n = a := ⟨a, rfl⟩
    subst hNa
    obtain ⟨h1, h2, h3, h4, h5, h⟩ := h
    have h2' := h2
    unfold StS at h2
    refine ms_X7_takeSnapshot _ (fun G g5 => ?_)
    obtain ⟨n, e1, e2, -, e3⟩ := rg_ex h5
    have last : ∀ (c : Int32 × Int32 × Int32) (v : Value), Rp none S (cSet (cSn2 μ (cSn1 μ a c) a) a (cCfg (cSn2 μ (cSn1 μ a c) a) a (μ a 7).toNatClampNeg)) ρ → w_X7_takeSnapshot_69 (MS Z (d + 2)) G Rp [.ref a, v] [] S (0, 0) (cSn1 μ a c) ρ := by
      intro c v hc
      simp only [w_X7_takeSnapshot_69, tAload, tIload, nth, tGetI, tGetR, tConst, tLconst, tBin, tUn, tI2l, tAld, tAldR, tAlen, tIast, tBast, tZast, tAast, tIret, tZret, tVret, tAret, tIf, tIf2, tGoto, tIstore, tAstore, sset, tIinc, tDup, tDup2, tPop, tPutI, tPutZ, tPutR, tCallV, tCallS, popN, tFn, tCopy, tMax, tMin, tSw, swc, tRem, tObjI, Option.toList, List.nil_append, List.cons_append, okR, true_and, and_true, true_or, or_true, Nat.zero_le, ne_eq, not_false_eq_true, Nat.reduceEqDiff, F_X7_termAt, F_X7_findMembers, h1, h2, h2']
      unfold cSn1 at *
      simp (disch := omega) only [upI_ne, upI_k, upF_ne, upI_at, h4, h3]
      refine ⟨h4.1, h3.2, by decide, by decide, by decide, by decide, by decide, trivial, h5.1, ?_⟩
      unfold cSn2 at hc
      exact hc
    have loop : ∀ p, p ≤ 120 → Rp none S (cSet (cSn2 μ (cSn1 μ a (cCfg μ a p)) a) a (cCfg (cSn2 μ (cSn1 μ a (cCfg μ a p)) a) a (μ a 7).toNatClampNeg)) ρ → G 5 [.ref a, .int (nI p)] [] S (0, 0) μ ρ := by
      have hb : μ = cSn1 μ a (μ (a + 5) 2, μ (a + 5) 3, 0) := by
        unfold cSn1
        simp only [upI_self]
      intro p
      induction p with
      | zero =>
        intro hp h
        apply g5
        simp only [w_X7_takeSnapshot_5, tAload, tIload, nth, tGetI, tGetR, tConst, tLconst, tBin, tUn, tI2l, tAld, tAldR, tAlen, tIast, tBast, tZast, tAast, tIret, tZret, tVret, tAret, tIf, tIf2, tGoto, tIstore, tAstore, sset, tIinc, tDup, tDup2, tPop, tPutI, tPutZ, tPutR, tCallV, tCallS, popN, tFn, tCopy, tMax, tMin, tSw, swc, tRem, tObjI, Option.toList, List.nil_append, List.cons_append, okR, true_and, and_true, true_or, or_true, Nat.zero_le, ne_eq, not_false_eq_true, Nat.reduceEqDiff, h1, h2]
        refine ⟨fun _ => ?_, fun c => ?_⟩
        · have := last _ (.int (nI 0)) h
          rw [cCfg_0, ← hb] at this
          exact this
        · exact absurd (Int32.le_iff_toInt_le.mpr (show (nI 0).toInt ≤ _ from by rw [show (nI 0).toInt = 0 from rfl]; exact h4.1)) c
      | succ p ih =>
        intro hp h
        rw [cCfg_s] at h
        apply g5
        simp only [w_X7_takeSnapshot_5, w_X7_takeSnapshot_63, tAload, tIload, nth, tGetI, tGetR, tConst, tLconst, tBin, tUn, tI2l, tAld, tAldR, tAlen, tIast, tBast, tZast, tAast, tIret, tZret, tVret, tAret, tIf, tIf2, tGoto, tIstore, tAstore, sset, tIinc, tDup, tDup2, tPop, tPutI, tPutZ, tPutR, tCallV, tCallS, popN, tFn, tCopy, tMax, tMin, tSw, swc, tRem, tObjI, Option.toList, List.nil_append, List.cons_append, okR, true_and, and_true, true_or, or_true, Nat.zero_le, ne_eq, not_false_eq_true, Nat.reduceEqDiff, F_X0_tellsMembers, F_X0_cellOf, F_X0_numberOf, b2_z, h1, h2, Decidable.not_not]
        simp (disch := omega) only [upI_ne, nI_clamp]
        refine ⟨fun c => ?_, fun c => ⟨inb_nI (by omega) (by decide), fun c2 => ?_, fun c2 => ⟨?_, ?_, ?_⟩⟩⟩
        · rw [if_pos c] at h
          have := last (μ (a + 5) 2, μ (a + 5) 3, 0) (.int (nI (p + 1))) h
          rw [← hb] at this
          exact this
        · rw [if_neg c, if_neg (not_not_intro c2)] at h
          have := ih (by omega) h
          have e : nI (p + 1) + -1 = nI p := by rw [← nI_s1, Int32.add_assoc]; simp
          rw [e]
          exact this
        · exact inb_nI (by omega) (by decide)
        · exact inb_nI (by omega) (by decide)
        · rw [if_neg c, if_pos c2] at h
          exact last (eX (μ (a + 1) (p + 1)), eY (μ (a + 1) (p + 1)), nI (p + 1)) (.int (nI (p + 1))) h
    simp only [w_X7_takeSnapshot_0, tAload, tIload, nth, tGetI, tGetR, tConst, tLconst, tBin, tUn, tI2l, tAld, tAldR, tAlen, tIast, tBast, tZast, tAast, tIret, tZret, tVret, tAret, tIf, tIf2, tGoto, tIstore, tAstore, sset, tIinc, tDup, tDup2, tPop, tPutI, tPutZ, tPutR, tCallV, tCallS, popN, tFn, tCopy, tMax, tMin, tSw, swc, tRem, tObjI, Option.toList, List.nil_append, List.cons_append, okR, true_and, and_true, true_or, or_true, Nat.zero_le, ne_eq, not_false_eq_true, Nat.reduceEqDiff, h1]
    unfold cSnap at h
    rw [e1, nI_clamp e2] at h
    rw [e1]
    exact loop n (by omega) h
  · exact h.elim
