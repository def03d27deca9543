/-! ===== the class: who could be elected, facts ===== -/
theorem rg_bit {x : Int32} {i : Nat} (h : rg x 0 31) (hi : 5 ≤ i) : x.toBitVec.getLsbD i = false := bit_hi (k := 5) (by have := rg_bv (n := 31) h; omega) hi
def rc1 (A : Rw) (s t : Nat) (acc : Int32) : Int32 := if (A 4513 >>> ((5 * nI s + nI t) &&& 31)) &&& 1 = 1 then acc ||| (1 : Int32) <<< (nI t &&& 31) else acc
def qReach (A : Rw) (s : Nat) : Int32 := foldF (rc1 A s) ((1 : Int32) <<< (nI s &&& 31)) 5
theorem one5 {t i : Nat} (ht : t < 5) (hi : i < 32) : ((1 : Int32) <<< (nI t &&& 31)).toBitVec.getLsbD i = decide (i = t) := one_lsb (by omega) hi
theorem rc_bit {A : Rw} {s i : Nat} (hs : s < 5) (hi : i < 32) : ∀ t, t ≤ 5 → (foldF (rc1 A s) ((1 : Int32) <<< (nI s &&& 31)) t).toBitVec.getLsbD i = (decide (i = s) || (decide (i < t) && decide ((A 4513 >>> ((5 * nI s + nI i) &&& 31)) &&& 1 = 1))) := by
  intro t
  induction t with
  | zero => intro _; show ((1 : Int32) <<< (nI s &&& 31)).toBitVec.getLsbD i = _; rw [one5 hs hi]; simp
  | succ t ih =>
    intro ht
    rw [foldF_s]
    unfold rc1 at *
    by_cases c : (A 4513 >>> ((5 * nI s + nI t) &&& 31)) &&& 1 = 1
    · rw [if_pos c, Int32.toBitVec_or, BitVec.getLsbD_or, ih (by omega), one5 (by omega) hi]
      by_cases e : i = t
      · subst e; simp [c]
      · have : (i < t + 1) ↔ (i < t) := by omega
        simp [e, this]
    · rw [if_neg c, ih (by omega)]
      by_cases e : i = t
      · subst e; simp [c]
      · have : (i < t + 1) ↔ (i < t) := by omega
        simp [this]
def elF (A : Rw) (s : Nat) (z : Int32) : Nat → Int32 := foldF (el1 A s) z
theorem el_bit {A : Rw} {s i : Nat} {z : Int32} (hs : s < 5) (hi : i < 32) : ∀ t, t ≤ 5 → (foldF (el1 A s) z t).toBitVec.getLsbD i = (z.toBitVec.getLsbD i && (!decide (i < t) || decide (i = s) || decide ((A 4513 >>> ((5 * nI s + nI i) &&& 31)) &&& 1 = 1))) := by
  intro t
  induction t with
  | zero => intro _; show z.toBitVec.getLsbD i = _; simp
  | succ t ih =>
    intro ht
    rw [foldF_s]
    unfold el1 at *
    by_cases c : ¬ t = s ∧ ¬ (A 4513 >>> ((5 * nI s + nI t) &&& 31)) &&& 1 = 1
    · rw [if_pos c, Int32.toBitVec_and, BitVec.getLsbD_and, ih (by omega), Int32.toBitVec_xor, BitVec.getLsbD_xor, one5 (by omega) hi, neg_lsb hi]
      by_cases e : i = t
      · subst e; simp [c.1, c.2]
      · have : (i < t + 1) ↔ (i < t) := by omega
        simp [e, this]
    · rw [if_neg c, ih (by omega)]
      by_cases e : i = t
      · subst e
        by_cases c2 : i = s
        · simp [c2]
        · have c3 : (A 4513 >>> ((5 * nI s + nI i) &&& 31)) &&& 1 = 1 := Classical.not_not.mp (fun z => c ⟨c2, z⟩)
          simp [c3]
      · have : (i < t + 1) ↔ (i < t) := by omega
        simp [this]
theorem el_eq {A : Rw} {s : Nat} {ups : Int32} (hs : s < 5) (hg : rg (qGrants A s) 0 31) : qGrants A s &&& ups &&& qReach A s = elS A s ups := by
  have e : elS A s ups = foldF (el1 A s) (qGrants A s &&& ups) 5 := rfl
  rw [e]
  refine i32_ext (fun i hi => ?_)
  rw [el_bit hs hi 5 (by omega)]
  unfold qReach
  rw [Int32.toBitVec_and, BitVec.getLsbD_and, rc_bit hs hi 5 (by omega), Int32.toBitVec_and, BitVec.getLsbD_and]
  by_cases c : i < 5
  · simp [c]
  · rw [rg_bit hg (by omega)]
    simp
theorem rg_or {x y : Int32} (hx : rg x 0 31) (hy : rg y 0 31) : rg (x ||| y) 0 31 := by
  obtain ⟨a, rfl, a0, -, a1⟩ := rg_ex hx
  obtain ⟨b, rfl, b0, -, b1⟩ := rg_ex hy
  have : ∀ a b : Fin 32, 0 ≤ (nI a.val ||| nI b.val).toInt ∧ (nI a.val ||| nI b.val).toInt ≤ 31 := by decide +kernel
  exact this ⟨a, by omega⟩ ⟨b, by omega⟩
theorem rg_sh {t : Nat} (h : t < 5) : rg ((1 : Int32) <<< (nI t &&& 31)) 0 31 := by
  have : ∀ a : Fin 5, 0 ≤ ((1 : Int32) <<< (nI a.val &&& 31)).toInt ∧ ((1 : Int32) <<< (nI a.val &&& 31)).toInt ≤ 31 := by decide +kernel
  exact this ⟨t, h⟩
theorem grants_rg {A : Rw} {s : Nat} : rg (qGrants A s) 0 31 := by
  have key : ∀ (l t : Int32), ∀ n, n ≤ 5 → rg (foldF (gr1 A l t) 0 n) 0 31 := by
    intro l t n
    induction n with
    | zero => intro _; show rg 0 0 31; exact ⟨by decide, by decide⟩
    | succ n ih =>
      intro hn
      rw [foldF_s]
      unfold gr1 at *
      refine rg_or (ih (by omega)) ?_
      split
      · exact rg_sh (by omega)
      · exact ⟨by decide, by decide⟩
  exact key _ _ 5 (by omega)
def w_X8_reachable_35 (M : CT) (G : Nat → PT) (Rp : RT) : PT := tIload 2 <| tIret Rp
def w_X8_reachable_29 (M : CT) (G : Nat → PT) (Rp : RT) : PT := tIinc 3 1 <| tGoto (G 6)
def w_X8_reachable_6 (M : CT) (G : Nat → PT) (Rp : RT) : PT := tIload 3 <| tConst 5 <| tIf2 (fun x y => y ≤ x) (w_X8_reachable_35 M G Rp) <| tAload 0 <| tGetR 10 6 1 <| tIload 1 <| tIload 3 <| tFn 3 F_X1_isCut <| tIf (fun x => x ≠ 0) (w_X8_reachable_29 M G Rp) <| tIload 2 <| tConst 1 <| tIload 3 <| tBin (fun x y => x <<< (y &&& 31)) <| tBin (fun x y => x ||| y) <| tIstore 2 <| w_X8_reachable_29 M G Rp
def w_X8_reachable_0 (M : CT) (G : Nat → PT) (Rp : RT) : PT := tConst 1 <| tIload 1 <| tBin (fun x y => x <<< (y &&& 31)) <| tIstore 2 <| tConst 0 <| tIstore 3 <| G 6
set_option maxRecDepth 20000 in
theorem b_X8_reachable_35 {Z : Zt} {d : Nat} {p : Program} {e : Env} {R : Room} {s : State} {m : MethodId} {args : Array Value} {below : List Frame} {meth : Method} {c : Code} {Rp : RT} (C : Cx Z (d + 1) jX8_reachable RX8 p R s m args meth c) : Sd Z jX8_reachable p e R s m args below meth c (MQ below (QcS Z Rp) args s 0 0 (fun a => Z.2.2.1 < a)) 35 (w_X8_reachable_35 (MS Z (d + 1)) (Gw Z 4 p e R s m args below meth c (MQ below (QcS Z Rp) args s 0 0 (fun a => Z.2.2.1 < a))) Rp) := by
  unfold w_X8_reachable_35
  refine s_iload_n (k := 2) C (by decide +kernel) ?_
  exact s_iret C rfl (by decide +kernel)
set_option maxRecDepth 20000 in
theorem b_X8_reachable_29 {Z : Zt} {d : Nat} {p : Program} {e : Env} {R : Room} {s : State} {m : MethodId} {args : Array Value} {below : List Frame} {meth : Method} {c : Code} {Rp : RT} (C : Cx Z (d + 1) jX8_reachable RX8 p R s m args meth c) : Sd Z jX8_reachable p e R s m args below meth c (MQ below (QcS Z Rp) args s 0 0 (fun a => Z.2.2.1 < a)) 29 (w_X8_reachable_29 (MS Z (d + 1)) (Gw Z 4 p e R s m args below meth c (MQ below (QcS Z Rp) args s 0 0 (fun a => Z.2.2.1 < a))) Rp) := by
  unfold w_X8_reachable_29
  refine s_iinc (n := 1) C (by decide +kernel) (by decide) ?_
  exact s_goto (off := (-26)) (tgt := 6) C (by decide +kernel) (by decide) (fun _ _ _ _ _ _ h => h)
set_option maxRecDepth 20000 in
theorem b_X8_reachable_6 {Z : Zt} {d : Nat} {p : Program} {e : Env} {R : Room} {s : State} {m : MethodId} {args : Array Value} {below : List Frame} {meth : Method} {c : Code} {Rp : RT} (C : Cx Z (d + 1) jX8_reachable RX8 p R s m args meth c) : Sd Z jX8_reachable p e R s m args below meth c (MQ below (QcS Z Rp) args s 0 0 (fun a => Z.2.2.1 < a)) 6 (w_X8_reachable_6 (MS Z (d + 1)) (Gw Z 4 p e R s m args below meth c (MQ below (QcS Z Rp) args s 0 0 (fun a => Z.2.2.1 < a))) Rp) := by
  unfold w_X8_reachable_6
  refine s_iload_n (k := 3) C (by decide +kernel) ?_
  refine s_iconst (n := 5) C (by decide +kernel) (by decide) ?_
  refine s_icmp_ge (off := 27) (tgt := 35) C (by decide +kernel) (by decide) (b_X8_reachable_35 C) ?_
  refine s_aload_n (k := 0) C (by decide +kernel) ?_
  refine s_getR C w_2_119 (by decide +kernel) rfl ?_
  refine s_iload_n (k := 1) C (by decide +kernel) ?_
  refine s_iload_n (k := 3) C (by decide +kernel) ?_
  refine s_fnV C (j2 := jX1_isCut) (cl := 1) (nf := 6) rfl rfl (by decide +kernel) rfl w_5_176 w_4_48 w_4_49 w_1_3 w_4_50 (by decide +kernel) (fun _ _ _ _ _ h => f_X1_isCut h) (fun _ _ _ _ _ h => r_X1_isCut h) ?_
  refine s_if_ne (off := 9) (tgt := 29) C (by decide +kernel) (by decide) (b_X8_reachable_29 C) ?_
  refine s_iload_n (k := 2) C (by decide +kernel) ?_
  refine s_iconst (n := 1) C (by decide +kernel) (by decide) ?_
  refine s_iload_n (k := 3) C (by decide +kernel) ?_
  refine s_ishl C (by decide +kernel) ?_
  refine s_ior C (by decide +kernel) ?_
  refine s_istore_n (k := 2) C (by decide +kernel) ?_
  exact (b_X8_reachable_29 C)
set_option maxRecDepth 20000 in
theorem b_X8_reachable_0 {Z : Zt} {d : Nat} {p : Program} {e : Env} {R : Room} {s : State} {m : MethodId} {args : Array Value} {below : List Frame} {meth : Method} {c : Code} {Rp : RT} (C : Cx Z (d + 1) jX8_reachable RX8 p R s m args meth c) : Sd Z jX8_reachable p e R s m args below meth c (MQ below (QcS Z Rp) args s 0 0 (fun a => Z.2.2.1 < a)) 0 (w_X8_reachable_0 (MS Z (d + 1)) (Gw Z 4 p e R s m args below meth c (MQ below (QcS Z Rp) args s 0 0 (fun a => Z.2.2.1 < a))) Rp) := by
  unfold w_X8_reachable_0
  refine s_iconst (n := 1) C (by decide +kernel) (by decide) ?_
  refine s_iload_n (k := 1) C (by decide +kernel) ?_
  refine s_ishl C (by decide +kernel) ?_
  refine s_istore_n (k := 2) C (by decide +kernel) ?_
  refine s_iconst (n := 0) C (by decide +kernel) (by decide) ?_
  refine s_istore_n (k := 3) C (by decide +kernel) ?_
  exact (fun _ _ _ _ _ _ h => h)
theorem ms_X8_reachable {Z : Zt} {d : Nat} {S : Sh} {μ : Mi} {ρ : Mr} {Rp : RT} (a1 : Nat) (x2 : Int32) (h : ∀ G : Nat → PT, (∀ (L st : List Value) (S : Sh) (q : Nat × Nat) (μ : Mi) (ρ : Mr), w_X8_reachable_6 (MS Z (d + 1)) G Rp L st S q μ ρ → G 6 L st S q μ ρ) → w_X8_reachable_0 (MS Z (d + 1)) G Rp [.ref a1, .int x2, .null, .null] [] S (0, 0) μ ρ) : MS Z (d + 2) jX8_reachable [.ref a1, .int x2] S μ ρ Rp :=
  MS_of [.ref a1, .int x2, .null, .null] (by decide +kernel) rfl rfl (Nat.le_of_ble_eq_true rfl) rfl (fun p e R s m args below meth c C => b_X8_reachable_0 C _ _ _ _ _ _ (h _ (b_X8_reachable_6 C)))
def F_X8_reachable : FT := fun As S μ ρ k => match As with
  | [.ref a, .int n] => S.2 a = (10, 6) ∧ ∃ (s : Nat) (A : Rw), RR A a S μ ρ ∧ n = nI s ∧ s < 5 ∧ k (some (.int (qReach A s))) μ
  | _ => False
set_option maxHeartbeats 1000000 in
theorem f_X8_reachable {Z : Zt} {d : Nat} {As : List Value} {S : Sh} {μ : Mi} {ρ : Mr} {Rp : RT} (h : F_X8_reachable As S μ ρ (fun r μ' => Rp r S μ' ρ)) : MS Z (d + 2) jX8_reachable As S μ ρ Rp := by
  unfold F_X8_reachable at h
  split at h
  · rename_i a n
    obtain ⟨a, hNa⟩ : ∃ n : Nat, n = a := ⟨a, rfl⟩
    subst hNa
    obtain ⟨h1, s, A, hR, rfl, hs, h⟩ := h
    unfold qReach at h
    refine ms_X8_reachable _ _ (fun G g6 => ?_)
    have hW := RR_W hR
    have e5 : μ (a + 2) 5 = A 4513 ^^^ 33554431 := hR.1.2.2.1.1.2.2.2
    have loop : ∀ (j t : Nat), j + t = 5 → G 6 [.ref a, .int (nI s), .int (foldF (rc1 A s) ((1 : Int32) <<< (nI s &&& 31)) t), .int (nI t)] [] S (0, 0) μ ρ := by
      intro j
      induction j with
      | zero =>
        intro t ht
        obtain rfl : t = 5 := by omega
        apply g6
        simp only [w_X8_reachable_6, w_X8_reachable_35, tAload, tIload, nth, tGetI, tGetR, tConst, tLconst, tBin, tUn, tI2l, tAld, tAldR, tAlen, tIast, tBast, tZast, tAast, tIret, tZret, tVret, tAret, tIf, tIf2, tGoto, tIstore, tAstore, sset, tIinc, tDup, tDup2, tPop, tPutI, tPutZ, tPutR, tCallV, tCallS, popN, tFn, tCopy, tMax, tMin, tSw, swc, tRem, tObjI, Option.toList, List.nil_append, List.cons_append, okR, true_and, and_true, true_or, or_true, Nat.zero_le, ne_eq, not_false_eq_true, Nat.reduceEqDiff]
        exact ⟨fun _ => h, fun c => absurd ((nI_le5 (by decide)).mpr rfl) c⟩
      | succ j ih =>
        intro t ht
        have nx := ih (t + 1) (by omega)
        have e1 : ∀ x, rc1 A s t x = if (A 4513 >>> ((5 * nI s + nI t) &&& 31)) &&& 1 = 1 then x ||| (1 : Int32) <<< (nI t &&& 31) else x := fun _ => rfl
        rw [foldF_s, e1] at nx
        have cc : ((μ (a + 2) 5 >>> ((nI s * 5 + nI t) &&& 31)) &&& 1 = 1) ↔ ¬ (A 4513 >>> ((5 * nI s + nI t) &&& 31)) &&& 1 = 1 := by
          rw [ix5', ix5, e5]
          exact cut_bit (by omega)
        apply g6
        simp only [w_X8_reachable_6, w_X8_reachable_29, tAload, tIload, nth, tGetI, tGetR, tConst, tLconst, tBin, tUn, tI2l, tAld, tAldR, tAlen, tIast, tBast, tZast, tAast, tIret, tZret, tVret, tAret, tIf, tIf2, tGoto, tIstore, tAstore, sset, tIinc, tDup, tDup2, tPop, tPutI, tPutZ, tPutR, tCallV, tCallS, popN, tFn, tCopy, tMax, tMin, tSw, swc, tRem, tObjI, Option.toList, List.nil_append, List.cons_append, okR, true_and, and_true, true_or, or_true, Nat.zero_le, ne_eq, not_false_eq_true, Nat.reduceEqDiff, F_X1_isCut, b2_z, h1, hW.2.2.2.2.1, hW.2.1, nI_s1, Decidable.not_not]
        rw [nI_le5 (by omega)]
        refine ⟨fun z => absurd z (by omega), fun _ => ⟨fun c => ?_, fun c => ?_⟩⟩
        · rw [if_neg (cc.mp c)] at nx
          exact nx
        · rw [if_pos (Classical.not_not.mp (fun z => c (cc.mpr z)))] at nx
          exact nx
    simp only [w_X8_reachable_0, tAload, tIload, nth, tGetI, tGetR, tConst, tLconst, tBin, tUn, tI2l, tAld, tAldR, tAlen, tIast, tBast, tZast, tAast, tIret, tZret, tVret, tAret, tIf, tIf2, tGoto, tIstore, tAstore, sset, tIinc, tDup, tDup2, tPop, tPutI, tPutZ, tPutR, tCallV, tCallS, popN, tFn, tCopy, tMax, tMin, tSw, swc, tRem, tObjI, Option.toList, List.nil_append, List.cons_append, okR, true_and, and_true, true_or, or_true, Nat.zero_le, ne_eq, not_false_eq_true, Nat.reduceEqDiff]
    exact loop 5 0 rfl
  · exact h.elim
def w_X8_canBeElected_25 (M : CT) (G : Nat → PT) (Rp : RT) : PT := tAload 3 <| tAload 0 <| tIload 1 <| tFn 2 F_X8_granting <| tIload 2 <| tBin (fun x y => x &&& y) <| tAload 0 <| tIload 1 <| tFn 2 F_X8_reachable <| tBin (fun x y => x &&& y) <| tFn 2 F_X7_isMajority <| tZret Rp
def w_X8_canBeElected_23 (M : CT) (G : Nat → PT) (Rp : RT) : PT := tConst 0 <| tZret Rp
def w_X8_canBeElected_0 (M : CT) (G : Nat → PT) (Rp : RT) : PT := tAload 0 <| tGetR 10 6 0 <| tIload 1 <| tAldR 37 <| tAstore 3 <| tIload 2 <| tIload 1 <| tBin (fun x y => x >>> (y &&& 31)) <| tConst 1 <| tBin (fun x y => x &&& y) <| tIf (fun x => x = 0) (w_X8_canBeElected_23 M G Rp) <| tAload 3 <| tIload 1 <| tFn 2 F_X7_isMember <| tIf (fun x => x ≠ 0) (w_X8_canBeElected_25 M G Rp) <| w_X8_canBeElected_23 M G Rp
set_option maxRecDepth 20000 in
theorem b_X8_canBeElected_25 {Z : Zt} {d : Nat} {p : Program} {e : Env} {R : Room} {s : State} {m : MethodId} {args : Array Value} {below : List Frame} {meth : Method} {c : Code} {Rp : RT} (C : Cx Z (d + 3) jX8_canBeElected RX8 p R s m args meth c) : Sd Z jX8_canBeElected p e R s m args below meth c (MQ below (QcS Z Rp) args s 0 0 (fun a => Z.2.2.1 < a)) 25 (w_X8_canBeElected_25 (MS Z (d + 3)) (Gw Z 4 p e R s m args below meth c (MQ below (QcS Z Rp) args s 0 0 (fun a => Z.2.2.1 < a))) Rp) := by
  unfold w_X8_canBeElected_25
  refine s_aload_n (k := 3) C (by decide +kernel) ?_
  refine s_aload_n (k := 0) C (by decide +kernel) ?_
  refine s_iload_n (k := 1) C (by decide +kernel) ?_
  refine s_fnS C (j2 := jX8_granting) (by decide +kernel) rfl w_5_172 w_5_157 w_1_21 w_5_158 (by decide +kernel) (fun _ _ _ _ _ h => f_X8_granting h) ?_
  refine s_iload_n (k := 2) C (by decide +kernel) ?_
  refine s_iand C (by decide +kernel) ?_
  refine s_aload_n (k := 0) C (by decide +kernel) ?_
  refine s_iload_n (k := 1) C (by decide +kernel) ?_
  refine s_fnS C (j2 := jX8_reachable) (by decide +kernel) rfl w_5_173 w_5_174 w_1_21 w_5_175 (by decide +kernel) (fun _ _ _ _ _ h => f_X8_reachable h) ?_
  refine s_iand C (by decide +kernel) ?_
  refine s_fnV C (j2 := jX7_isMajority) (cl := 7) (nf := 18) rfl rfl (by decide +kernel) rfl w_5_177 w_3_134 w_3_135 w_1_5 w_3_136 (by decide +kernel) (fun _ _ _ _ _ h => f_X7_isMajority h) (fun _ _ _ _ _ h => r_X7_isMajority h) ?_
  exact s_zret C rfl (by decide +kernel)
set_option maxRecDepth 20000 in
theorem b_X8_canBeElected_23 {Z : Zt} {d : Nat} {p : Program} {e : Env} {R : Room} {s : State} {m : MethodId} {args : Array Value} {below : List Frame} {meth : Method} {c : Code} {Rp : RT} (C : Cx Z (d + 3) jX8_canBeElected RX8 p R s m args meth c) : Sd Z jX8_canBeElected p e R s m args below meth c (MQ below (QcS Z Rp) args s 0 0 (fun a => Z.2.2.1 < a)) 23 (w_X8_canBeElected_23 (MS Z (d + 3)) (Gw Z 4 p e R s m args below meth c (MQ below (QcS Z Rp) args s 0 0 (fun a => Z.2.2.1 < a))) Rp) := by
  unfold w_X8_canBeElected_23
  refine s_iconst (n := 0) C (by decide +kernel) (by decide) ?_
  exact s_zret C rfl (by decide +kernel)
set_option maxRecDepth 20000 in
theorem b_X8_canBeElected_0 {Z : Zt} {d : Nat} {p : Program} {e : Env} {R : Room} {s : State} {m : MethodId} {args : Array Value} {below : List Frame} {meth : Method} {c : Code} {Rp : RT} (C : Cx Z (d + 3) jX8_canBeElected RX8 p R s m args meth c) : Sd Z jX8_canBeElected p e R s m args below meth c (MQ below (QcS Z Rp) args s 0 0 (fun a => Z.2.2.1 < a)) 0 (w_X8_canBeElected_0 (MS Z (d + 3)) (Gw Z 4 p e R s m args below meth c (MQ below (QcS Z Rp) args s 0 0 (fun a => Z.2.2.1 < a))) Rp) := by
  unfold w_X8_canBeElected_0
  refine s_aload_n (k := 0) C (by decide +kernel) ?_
  refine s_getR C w_2_114 (by decide +kernel) rfl ?_
  refine s_iload_n (k := 1) C (by decide +kernel) ?_
  refine s_aald C rfl (by decide +kernel) ?_
  refine s_astore_n (k := 3) C (by decide +kernel) ?_
  refine s_iload_n (k := 2) C (by decide +kernel) ?_
  refine s_iload_n (k := 1) C (by decide +kernel) ?_
  refine s_ishr C (by decide +kernel) ?_
  refine s_iconst (n := 1) C (by decide +kernel) (by decide) ?_
  refine s_iand C (by decide +kernel) ?_
  refine s_if_eq (off := 11) (tgt := 23) C (by decide +kernel) (by decide) (b_X8_canBeElected_23 C) ?_
  refine s_aload_n (k := 3) C (by decide +kernel) ?_
  refine s_iload_n (k := 1) C (by decide +kernel) ?_
  refine s_fnV C (j2 := jX7_isMember) (cl := 7) (nf := 18) rfl rfl (by decide +kernel) rfl w_5_171 w_3_110 w_3_111 w_1_5 w_3_112 (by decide +kernel) (fun _ _ _ _ _ h => f_X7_isMember h) (fun _ _ _ _ _ h => r_X7_isMember h) ?_
  refine s_if_ne (off := 5) (tgt := 25) C (by decide +kernel) (by decide) (b_X8_canBeElected_25 C) ?_
  exact (b_X8_canBeElected_23 C)
theorem ms_X8_canBeElected {Z : Zt} {d : Nat} {S : Sh} {μ : Mi} {ρ : Mr} {Rp : RT} (a1 : Nat) (x2 : Int32) (x3 : Int32) (h : ∀ G : Nat → PT, w_X8_canBeElected_0 (MS Z (d + 3)) G Rp [.ref a1, .int x2, .int x3, .null] [] S (0, 0) μ ρ) : MS Z (d + 4) jX8_canBeElected [.ref a1, .int x2, .int x3] S μ ρ Rp :=
  MS_of [.ref a1, .int x2, .int x3, .null] (by decide +kernel) rfl rfl (Nat.le_of_ble_eq_true rfl) rfl (fun p e R s m args below meth c C => b_X8_canBeElected_0 C _ _ _ _ _ _ (h _ ))
def F_X8_canBeElected : FT := fun As S μ ρ k => match As with
  | [.ref a, .int n, .int u] => S.2 a = (10, 6) ∧ ∃ (s : Nat) (A : Rw), RR A a S μ ρ ∧ n = nI s ∧ s < 5 ∧ k (some (.int (b2 (qElect A s u)))) μ
  | _ => False
set_option maxHeartbeats 1000000 in
theorem f_X8_canBeElected {Z : Zt} {d : Nat} {As : List Value} {S : Sh} {μ : Mi} {ρ : Mr} {Rp : RT} (h : F_X8_canBeElected As S μ ρ (fun r μ' => Rp r S μ' ρ)) : MS Z (d + 4) jX8_canBeElected As S μ ρ Rp := by
  unfold F_X8_canBeElected at h
  split at h
  · rename_i a n u
    obtain ⟨a, hNa⟩ : ∃ n : Nat, n = a := ⟨a, rfl⟩
    subst hNa
    obtain ⟨h1, s, A, hR, rfl, hs, h⟩ := h
    refine ms_X8_canBeElected _ _ _ (fun G => ?_)
    have hW := RR_W hR
    obtain ⟨x1, x2, x3⟩ := W_st hW hs
    have hSt := RR_st hR hs
    have hmem := St_mem hSt
    rw [hSt.2.2.2.2.2.1, hSt.2.2.2.2.2.2] at hmem
    have b01 : ∀ x : Int32, (x &&& 1 = 0) ↔ ¬ x &&& 1 = 1 := by
      intro x
      have h2 : rg (x &&& 1) 0 1 := by
        have h31 := rg_and (x := x) (y := 1) ⟨by decide, by decide⟩
        refine ⟨h31.1, ?_⟩
        have h1 : (x &&& 1).toBitVec.toNat ≤ 1 := by
          rw [Int32.toBitVec_and, BitVec.toNat_and]
          exact Nat.and_le_right
        rw [← Int32.toInt_toBitVec, BitVec.toInt_eq_toNat_cond, if_pos (by omega)]
        omega
      obtain ⟨m, m1, m2, -, m3⟩ := rg_ex h2
      rw [m1, show (0 : Int32) = nI 0 from rfl, show (1 : Int32) = nI 1 from rfl, nI_eq m2 (by decide), nI_eq m2 (by decide)]
      omega
    unfold b2 at h
    simp only [w_X8_canBeElected_0, w_X8_canBeElected_23, w_X8_canBeElected_25, tAload, tIload, nth, tGetI, tGetR, tConst, tLconst, tBin, tUn, tI2l, tAld, tAldR, tAlen, tIast, tBast, tZast, tAast, tIret, tZret, tVret, tAret, tIf, tIf2, tGoto, tIstore, tAstore, sset, tIinc, tDup, tDup2, tPop, tPutI, tPutZ, tPutR, tCallV, tCallS, popN, tFn, tCopy, tMax, tMin, tSw, swc, tRem, tObjI, Option.toList, List.nil_append, List.cons_append, okR, true_and, and_true, true_or, or_true, Nat.zero_le, ne_eq, not_false_eq_true, Nat.reduceEqDiff, F_X7_isMember, F_X8_granting, F_X8_reachable, F_X7_isMajority, b2_z, h1, hW.2.2.2.2.1, hW.2.1, nI_clamp (show s < 2 ^ 31 by omega), x3, x1, inb_nI hs (show (5 : Nat) < 2 ^ 31 by decide), hSt.2.2.2.2.2.1, hSt.2.2.2.2.2.2, hmem, b01, Decidable.not_not]
    refine ⟨by omega, fun c => ?_, fun c => ⟨fun c2 => ⟨s, A, hR, rfl, hs, s, A, hR, rfl, hs, ?_⟩, fun c2 => ?_⟩⟩
    · rw [if_neg (fun z => c z.1)] at h; exact h
    · rw [el_eq hs grants_rg]
      refine ⟨fun c3 => ?_, fun c3 => ?_⟩
      · rw [if_pos ⟨c, c2, c3⟩] at h; exact h
      · rw [if_neg (fun z => c3 z.2.2)] at h; exact h
    · rw [if_neg (fun z => c2 z.2.1)] at h; exact h
  · exact h.elim
