/-! ===== the class: how many rounds ===== -/
abbrev agA (A : Rw) (s o : Nat) : Prop := (((qMem A s).1 ||| (qMem A s).2.1) >>> (nI o &&& 31)) &&& 1 = 1 ∧ A (514 * o) = 1 ∧ (o = s ∨ (A 4513 >>> ((5 * nI s + nI o) &&& 31)) &&& 1 = 1)
def agAll (A : Rw) (s : Nat) : Prop := ∀ o, o < 5 → agA A s o → A (514 * o + 7) = A (514 * s + 7)
theorem agd_iff {A : Rw} {s : Nat} : ¬ qAgd A s = 0 ↔ (A (514 * s + 7) = A (514 * s + 4) ∧ agAll A s) := by
  have key : ∀ t, t ≤ 5 → (¬ foldF (ag1 A s) (if A (514 * s + 7) = A (514 * s + 4) then 1 else 0) t = 0 ↔ (A (514 * s + 7) = A (514 * s + 4) ∧ ∀ o, o < t → agA A s o → A (514 * o + 7) = A (514 * s + 7))) := by
    intro t
    induction t with
    | zero =>
      intro _
      show ¬ (if A (514 * s + 7) = A (514 * s + 4) then (1 : Int32) else 0) = 0 ↔ _
      by_cases c : A (514 * s + 7) = A (514 * s + 4)
      · rw [if_pos c]
        exact ⟨fun _ => ⟨c, fun o ho => by omega⟩, fun _ => by decide⟩
      · rw [if_neg c]
        exact ⟨fun z => absurd rfl z, fun z => absurd z.1 c⟩
    | succ t ih =>
      intro ht
      have ih := ih (by omega)
      rw [foldF_s]
      generalize foldF (ag1 A s) (if A (514 * s + 7) = A (514 * s + 4) then 1 else 0) t = b at *
      unfold ag1
      by_cases c : agA A s t
      · rw [if_pos c]
        by_cases c2 : b = 0 ∨ ¬ A (514 * t + 7) = A (514 * s + 7)
        · rw [if_pos c2]
          refine ⟨fun z => absurd rfl z, fun z => ?_⟩
          rcases c2 with y | y
          · exact absurd y (ih.mpr ⟨z.1, fun o ho => z.2 o (by omega)⟩)
          · exact absurd (z.2 t (by omega) c) y
        · rw [if_neg c2]
          refine ⟨fun _ => ?_, fun _ => by decide⟩
          have h1 := ih.mp (fun z => c2 (Or.inl z))
          refine ⟨h1.1, fun o ho hc => ?_⟩
          by_cases e : o = t
          · subst e; exact Classical.not_not.mp (fun z => c2 (Or.inr z))
          · exact h1.2 o (by omega) hc
      · rw [if_neg c, ih]
        refine ⟨fun z => ⟨z.1, fun o ho hc => ?_⟩, fun z => ⟨z.1, fun o ho => z.2 o (by omega)⟩⟩
        by_cases e : o = t
        · subst e; exact absurd hc c
        · exact z.2 o (by omega) hc
  exact key 5 (by omega)
theorem up_bit {A : Rw} {i : Nat} (hi : i < 5) : (qUps A).toBitVec.getLsbD i = decide (A (514 * i) = 1) := by
  have key : ∀ t, t ≤ 5 → (foldF (up1 A) 0 t).toBitVec.getLsbD i = (decide (i < t) && decide (A (514 * i) = 1)) := by
    intro t
    induction t with
    | zero => intro _; show (0 : Int32).toBitVec.getLsbD i = _; simp
    | succ t ih =>
      intro ht
      rw [foldF_s]
      unfold up1 at *
      rw [Int32.toBitVec_or, BitVec.getLsbD_or, ih (by omega)]
      by_cases c : A (514 * t) = 1
      · rw [if_pos c, one5 (by omega) (by omega)]
        by_cases e : i = t
        · subst e; simp [c]
        · have : (i < t + 1) ↔ (i < t) := by omega
          simp [e, this]
      · rw [if_neg c]
        by_cases e : i = t
        · subst e; simp [c]
        · have : (i < t + 1) ↔ (i < t) := by omega
          simp [this]
  have := key 5 (by omega)
  rw [show foldF (up1 A) 0 5 = qUps A from rfl] at this
  rw [this]
  simp [hi]
theorem asked_iff {A : Rw} {s i : Nat} (hs : s < 5) (hi : i < 5) : (((((qMem A s).1 ||| (qMem A s).2.1) &&& qUps A) &&& qReach A s) >>> (nI i &&& 31)) &&& 1 = 1 ↔ agA A s i := by
  rw [bit_lsb (by omega), Int32.toBitVec_and, BitVec.getLsbD_and, Int32.toBitVec_and, BitVec.getLsbD_and, up_bit hi]
  unfold qReach
  rw [rc_bit hs (by omega) 5 (by omega)]
  unfold agA
  rw [bit_lsb (by omega)]
  simp [hi, and_assoc]
def w_X3_allAgreeWith_73 (M : CT) (G : Nat → PT) (Rp : RT) : PT := tConst 1 <| tZret Rp
def w_X3_allAgreeWith_67 (M : CT) (G : Nat → PT) (Rp : RT) : PT := tIinc 3 1 <| tGoto (G 32)
def w_X3_allAgreeWith_32 (M : CT) (G : Nat → PT) (Rp : RT) : PT := tIload 3 <| tConst 5 <| tIf2 (fun x y => y ≤ x) (w_X3_allAgreeWith_73 M G Rp) <| tIload 2 <| tIload 3 <| tBin (fun x y => x >>> (y &&& 31)) <| tConst 1 <| tBin (fun x y => x &&& y) <| tConst 1 <| tIf2 (fun x y => x ≠ y) (w_X3_allAgreeWith_67 M G Rp) <| tAload 0 <| tGetR 3 2 1 <| tGetR 10 6 0 <| tIload 3 <| tAldR 37 <| tGetI 7 18 8 <| tAload 1 <| tGetI 7 18 8 <| tIf2 (fun x y => x = y) (w_X3_allAgreeWith_67 M G Rp) <| tConst 0 <| tZret Rp
def w_X3_allAgreeWith_0 (M : CT) (G : Nat → PT) (Rp : RT) : PT := tAload 1 <| tGetI 7 18 10 <| tAload 1 <| tGetI 7 18 11 <| tBin (fun x y => x ||| y) <| tAload 0 <| tGetR 3 2 1 <| tFn 1 F_X10_whoIsUp <| tBin (fun x y => x &&& y) <| tAload 0 <| tGetR 3 2 1 <| tAload 1 <| tGetI 7 18 0 <| tFn 2 F_X8_reachable <| tBin (fun x y => x &&& y) <| tIstore 2 <| tConst 0 <| tIstore 3 <| G 32
set_option maxRecDepth 20000 in
theorem b_X3_allAgreeWith_73 {Z : Zt} {d : Nat} {p : Program} {e : Env} {R : Room} {s : State} {m : MethodId} {args : Array Value} {below : List Frame} {meth : Method} {c : Code} {Rp : RT} (C : Cx Z (d + 2) jX3_allAgreeWith RX3 p R s m args meth c) : Sd Z jX3_allAgreeWith p e R s m args below meth c (MQ below (QcS Z Rp) args s 0 0 (fun a => Z.2.2.1 < a)) 73 (w_X3_allAgreeWith_73 (MS Z (d + 2)) (Gw Z 4 p e R s m args below meth c (MQ below (QcS Z Rp) args s 0 0 (fun a => Z.2.2.1 < a))) Rp) := by
  unfold w_X3_allAgreeWith_73
  refine s_iconst (n := 1) C (by decide +kernel) (by decide) ?_
  exact s_zret C rfl (by decide +kernel)
set_option maxRecDepth 20000 in
theorem b_X3_allAgreeWith_67 {Z : Zt} {d : Nat} {p : Program} {e : Env} {R : Room} {s : State} {m : MethodId} {args : Array Value} {below : List Frame} {meth : Method} {c : Code} {Rp : RT} (C : Cx Z (d + 2) jX3_allAgreeWith RX3 p R s m args meth c) : Sd Z jX3_allAgreeWith p e R s m args below meth c (MQ below (QcS Z Rp) args s 0 0 (fun a => Z.2.2.1 < a)) 67 (w_X3_allAgreeWith_67 (MS Z (d + 2)) (Gw Z 4 p e R s m args below meth c (MQ below (QcS Z Rp) args s 0 0 (fun a => Z.2.2.1 < a))) Rp) := by
  unfold w_X3_allAgreeWith_67
  refine s_iinc (n := 1) C (by decide +kernel) (by decide) ?_
  exact s_goto (off := (-38)) (tgt := 32) C (by decide +kernel) (by decide) (fun _ _ _ _ _ _ h => h)
set_option maxRecDepth 20000 in
theorem b_X3_allAgreeWith_32 {Z : Zt} {d : Nat} {p : Program} {e : Env} {R : Room} {s : State} {m : MethodId} {args : Array Value} {below : List Frame} {meth : Method} {c : Code} {Rp : RT} (C : Cx Z (d + 2) jX3_allAgreeWith RX3 p R s m args meth c) : Sd Z jX3_allAgreeWith p e R s m args below meth c (MQ below (QcS Z Rp) args s 0 0 (fun a => Z.2.2.1 < a)) 32 (w_X3_allAgreeWith_32 (MS Z (d + 2)) (Gw Z 4 p e R s m args below meth c (MQ below (QcS Z Rp) args s 0 0 (fun a => Z.2.2.1 < a))) Rp) := by
  unfold w_X3_allAgreeWith_32
  refine s_iload_n (k := 3) C (by decide +kernel) ?_
  refine s_iconst (n := 5) C (by decide +kernel) (by decide) ?_
  refine s_icmp_ge (off := 39) (tgt := 73) C (by decide +kernel) (by decide) (b_X3_allAgreeWith_73 C) ?_
  refine s_iload_n (k := 2) C (by decide +kernel) ?_
  refine s_iload_n (k := 3) C (by decide +kernel) ?_
  refine s_ishr C (by decide +kernel) ?_
  refine s_iconst (n := 1) C (by decide +kernel) (by decide) ?_
  refine s_iand C (by decide +kernel) ?_
  refine s_iconst (n := 1) C (by decide +kernel) (by decide) ?_
  refine s_icmp_ne (off := 24) (tgt := 67) C (by decide +kernel) (by decide) (b_X3_allAgreeWith_67 C) ?_
  refine s_aload_n (k := 0) C (by decide +kernel) ?_
  refine s_getR C w_2_153 (by decide +kernel) rfl ?_
  refine s_getR C w_2_115 (by decide +kernel) rfl ?_
  refine s_iload_n (k := 3) C (by decide +kernel) ?_
  refine s_aald C rfl (by decide +kernel) ?_
  refine s_getI C w_2_8 (by decide +kernel) rfl ?_
  refine s_aload_n (k := 1) C (by decide +kernel) ?_
  refine s_getI C w_2_8 (by decide +kernel) rfl ?_
  refine s_icmp_eq (off := 5) (tgt := 67) C (by decide +kernel) (by decide) (b_X3_allAgreeWith_67 C) ?_
  refine s_iconst (n := 0) C (by decide +kernel) (by decide) ?_
  exact s_zret C rfl (by decide +kernel)
set_option maxRecDepth 20000 in
theorem b_X3_allAgreeWith_0 {Z : Zt} {d : Nat} {p : Program} {e : Env} {R : Room} {s : State} {m : MethodId} {args : Array Value} {below : List Frame} {meth : Method} {c : Code} {Rp : RT} (C : Cx Z (d + 2) jX3_allAgreeWith RX3 p R s m args meth c) : Sd Z jX3_allAgreeWith p e R s m args below meth c (MQ below (QcS Z Rp) args s 0 0 (fun a => Z.2.2.1 < a)) 0 (w_X3_allAgreeWith_0 (MS Z (d + 2)) (Gw Z 4 p e R s m args below meth c (MQ below (QcS Z Rp) args s 0 0 (fun a => Z.2.2.1 < a))) Rp) := by
  unfold w_X3_allAgreeWith_0
  refine s_aload_n (k := 1) C (by decide +kernel) ?_
  refine s_getI C w_2_14 (by decide +kernel) rfl ?_
  refine s_aload_n (k := 1) C (by decide +kernel) ?_
  refine s_getI C w_2_18 (by decide +kernel) rfl ?_
  refine s_ior C (by decide +kernel) ?_
  refine s_aload_n (k := 0) C (by decide +kernel) ?_
  refine s_getR C w_2_153 (by decide +kernel) rfl ?_
  refine s_fnV C (j2 := jX10_whoIsUp) (cl := 10) (nf := 6) rfl rfl (by decide +kernel) rfl w_6_13 w_5_165 w_5_166 w_1_2 w_5_167 (by decide +kernel) (fun _ _ _ _ _ h => f_X10_whoIsUp h) (fun _ _ _ _ _ h => r_X10_whoIsUp h) ?_
  refine s_iand C (by decide +kernel) ?_
  refine s_aload_n (k := 0) C (by decide +kernel) ?_
  refine s_getR C w_2_153 (by decide +kernel) rfl ?_
  refine s_aload_n (k := 1) C (by decide +kernel) ?_
  refine s_getI C w_1_220 (by decide +kernel) rfl ?_
  refine s_fnS C (j2 := jX8_reachable) (by decide +kernel) rfl w_6_14 w_5_174 w_1_21 w_5_175 (by decide +kernel) (fun _ _ _ _ _ h => f_X8_reachable h) ?_
  refine s_iand C (by decide +kernel) ?_
  refine s_istore_n (k := 2) C (by decide +kernel) ?_
  refine s_iconst (n := 0) C (by decide +kernel) (by decide) ?_
  refine s_istore_n (k := 3) C (by decide +kernel) ?_
  exact (fun _ _ _ _ _ _ h => h)
theorem ms_X3_allAgreeWith {Z : Zt} {d : Nat} {S : Sh} {μ : Mi} {ρ : Mr} {Rp : RT} (a0 : Nat) (a1 : Nat) (h : ∀ G : Nat → PT, (∀ (L st : List Value) (S : Sh) (q : Nat × Nat) (μ : Mi) (ρ : Mr), w_X3_allAgreeWith_32 (MS Z (d + 2)) G Rp L st S q μ ρ → G 32 L st S q μ ρ) → w_X3_allAgreeWith_0 (MS Z (d + 2)) G Rp [.ref a0, .ref a1, .null, .null] [] S (0, 0) μ ρ) : MS Z (d + 3) jX3_allAgreeWith [.ref a0, .ref a1] S μ ρ Rp :=
  MS_of [.ref a0, .ref a1, .null, .null] (by decide +kernel) rfl rfl (Nat.le_of_ble_eq_true rfl) rfl (fun p e R s m args below meth c C => b_X3_allAgreeWith_0 C _ _ _ _ _ _ (h _ (b_X3_allAgreeWith_32 C)))
def F_X3_allAgreeWith : FT := fun As S μ ρ k => match As with
  | [.ref p, .ref x] => S.2 p = (3, 2) ∧ PapOK p S ρ ∧ ∃ (s : Nat) (A : Rw), s < 5 ∧ x = p + 2 + 130 + 8 * s ∧ RR A (p + 2) S μ ρ ∧ (agAll A s → k (some (.int 1)) μ) ∧ (¬ agAll A s → k (some (.int 0)) μ)
  | _ => False
theorem r_X3_allAgreeWith {As S μ ρ k} (h : F_X3_allAgreeWith As S μ ρ k) : ∃ a As', As = Value.ref a :: As' ∧ S.2 a = (3, 2) := by
  unfold F_X3_allAgreeWith at h
  split at h
  · exact ⟨_, _, rfl, h.1⟩
  · exact h.elim
set_option maxHeartbeats 1000000 in
theorem f_X3_allAgreeWith {Z : Zt} {d : Nat} {As : List Value} {S : Sh} {μ : Mi} {ρ : Mr} {Rp : RT} (h : F_X3_allAgreeWith As S μ ρ (fun r μ' => Rp r S μ' ρ)) : MS Z (d + 3) jX3_allAgreeWith As S μ ρ Rp := by
  unfold F_X3_allAgreeWith at h
  split at h
  · rename_i p x
    obtain ⟨p, hNp⟩ : ∃ n : Nat, n = p := ⟨p, rfl⟩
    subst hNp
    obtain ⟨h1, hP, s, A, hs, rfl, hR, hy, hn⟩ := h
    obtain ⟨-, r0, r1, sp, -, p1⟩ := hP
    refine ms_X3_allAgreeWith _ _ (fun G g32 => ?_)
    have hW := RR_W hR
    obtain ⟨x1, x2, x3⟩ := W_st hW hs
    have hSt := RR_st hR hs
    have hA := hSt.1
    unfold StA at hA
    have i1 := hW.2.1.1
    have loop : ∀ (j t : Nat), j + t = 5 → (∀ o, o < t → agA A s o → A (514 * o + 7) = A (514 * s + 7)) → G 32 [.ref p, .ref (p + 2 + 130 + 8 * s), .int ((((qMem A s).1 ||| (qMem A s).2.1) &&& qUps A) &&& qReach A s), .int (nI t)] [] S (0, 0) μ ρ := by
      intro j
      induction j with
      | zero =>
        intro t ht hh
        obtain rfl : t = 5 := by omega
        apply g32
        simp only [w_X3_allAgreeWith_32, w_X3_allAgreeWith_73, tAload, tIload, nth, tGetI, tGetR, tConst, tLconst, tBin, tUn, tI2l, tAld, tAldR, tAlen, tIast, tBast, tZast, tAast, tIret, tZret, tVret, tAret, tIf, tIf2, tGoto, tIstore, tAstore, sset, tIinc, tDup, tDup2, tPop, tPutI, tPutZ, tPutR, tCallV, tCallS, popN, tFn, tCopy, tMax, tMin, tSw, swc, tRem, tObjI, Option.toList, List.nil_append, List.cons_append, okR, true_and, and_true, true_or, or_true, Nat.zero_le, ne_eq, not_false_eq_true, Nat.reduceEqDiff]
        exact ⟨fun _ => hy hh, fun c => absurd ((nI_le5 (by decide)).mpr rfl) c⟩
      | succ j ih =>
        intro t ht hh
        have ht5 : t < 5 := by omega
        obtain ⟨y1, y2, y3⟩ := W_st hW ht5
        have e8 : μ (p + 2 + 130 + 8 * t) 8 = A (514 * t + 7) := (RR_st hR ht5).1.2.2.2.2.2.2.2.2.1
        apply g32
        simp only [w_X3_allAgreeWith_32, w_X3_allAgreeWith_67, tAload, tIload, nth, tGetI, tGetR, tConst, tLconst, tBin, tUn, tI2l, tAld, tAldR, tAlen, tIast, tBast, tZast, tAast, tIret, tZret, tVret, tAret, tIf, tIf2, tGoto, tIstore, tAstore, sset, tIinc, tDup, tDup2, tPop, tPutI, tPutZ, tPutR, tCallV, tCallS, popN, tFn, tCopy, tMax, tMin, tSw, swc, tRem, tObjI, Option.toList, List.nil_append, List.cons_append, okR, true_and, and_true, true_or, or_true, Nat.zero_le, ne_eq, not_false_eq_true, Nat.reduceEqDiff, h1, r1, i1, hW.2.2.2.2.1, hW.2.1, nI_s1, x1, hA]
        simp (disch := omega) only [nI_clamp, y3, y1, e8]
        rw [nI_le5 (by omega), asked_iff hs ht5]
        refine ⟨fun z => absurd z (by omega), fun _ => ⟨fun c => ih (t + 1) (by omega) (fun o ho hc => ?_), fun c => ⟨inb_nI ht5 (by decide), by omega, trivial, fun c2 => ih (t + 1) (by omega) (fun o ho hc => ?_), fun c2 => hn (fun z => c2 (z t ht5 (Classical.not_not.mp c)))⟩⟩⟩
        · by_cases e : o = t
          · subst e; exact absurd hc c
          · exact hh o (by omega) hc
        · by_cases e : o = t
          · subst e; exact c2
          · exact hh o (by omega) hc
    simp only [w_X3_allAgreeWith_0, tAload, tIload, nth, tGetI, tGetR, tConst, tLconst, tBin, tUn, tI2l, tAld, tAldR, tAlen, tIast, tBast, tZast, tAast, tIret, tZret, tVret, tAret, tIf, tIf2, tGoto, tIstore, tAstore, sset, tIinc, tDup, tDup2, tPop, tPutI, tPutZ, tPutR, tCallV, tCallS, popN, tFn, tCopy, tMax, tMin, tSw, swc, tRem, tObjI, Option.toList, List.nil_append, List.cons_append, okR, true_and, and_true, true_or, or_true, Nat.zero_le, ne_eq, not_false_eq_true, Nat.reduceEqDiff, F_X10_whoIsUp, F_X8_reachable, h1, r1, i1, x1, hA, hSt.2.2.2.2.2.1, hSt.2.2.2.2.2.2]
    exact ⟨A, hR, s, A, hR, rfl, hs, loop 5 0 rfl (fun o ho => by omega)⟩
  · exact h.elim
theorem lead_is {A : Rw} (c : ¬ qLeader A = -1) : ∃ s, qLeader A = nI s ∧ s < 5 ∧ A (514 * s + 3) = 2 := by
  have key : ∀ t, t ≤ 5 → foldF (ln1 A) (-1) t = -1 ∨ ∃ s, foldF (ln1 A) (-1) t = nI s ∧ s < 5 ∧ A (514 * s + 3) = 2 := by
    intro t
    induction t with
    | zero => intro _; exact Or.inl rfl
    | succ t ih =>
      intro ht
      have e1 : ∀ x, ln1 A t x = (if A (514 * t + 3) = 2 ∧ (x = -1 ∨ A (514 * x.toNatClampNeg + 1) < A (514 * t + 1)) then nI t else x) := fun _ => rfl
      rw [foldF_s, e1]
      split
      · rename_i z
        exact Or.inr ⟨t, rfl, by omega, z.1⟩
      · exact ih (by omega)
  have e : qLeader A = foldF (ln1 A) (-1) 5 := by unfold qLeader; rw [foldF_5]
  rw [e] at c ⊢
  exact (key 5 (by omega)).resolve_left c
def w_X3_roundsNeeded_94 (M : CT) (G : Nat → PT) (Rp : RT) : PT := tConst (-1) <| tIret Rp
def w_X3_roundsNeeded_88 (M : CT) (G : Nat → PT) (Rp : RT) : PT := tIinc 4 1 <| tGoto (G 33)
def w_X3_roundsNeeded_66 (M : CT) (G : Nat → PT) (Rp : RT) : PT := tAload 3 <| tGetI 7 18 8 <| tAload 3 <| tGetI 7 18 7 <| tIf2 (fun x y => x ≠ y) (w_X3_roundsNeeded_88 M G Rp) <| tAload 0 <| tAload 3 <| tFn 2 F_X3_allAgreeWith <| tIf (fun x => x = 0) (w_X3_roundsNeeded_88 M G Rp) <| tIload 4 <| tIret Rp
def w_X3_roundsNeeded_33 (M : CT) (G : Nat → PT) (Rp : RT) : PT := tIload 4 <| tConst 20 <| tIf2 (fun x y => y < x) (w_X3_roundsNeeded_94 M G Rp) <| tAload 0 <| tGetR 3 2 1 <| tAload 3 <| tFn 2 F_X10_sendToAll <| tAload 0 <| tGetR 3 2 1 <| tFn2 1 F_X3_drain <| tPop <| tAload 3 <| tGetI 7 18 4 <| tConst 2 <| tIf2 (fun x y => x = y) (w_X3_roundsNeeded_66 M G Rp) <| tConst (-1) <| tIret Rp
def w_X3_roundsNeeded_12 (M : CT) (G : Nat → PT) (Rp : RT) : PT := tAload 0 <| tGetR 3 2 1 <| tAload 1 <| tFn 2 F_X10_copyFrom <| tAload 0 <| tGetR 3 2 1 <| tGetR 10 6 0 <| tIload 2 <| tAldR 37 <| tAstore 3 <| tConst 1 <| tIstore 4 <| G 33
def w_X3_roundsNeeded_0 (M : CT) (G : Nat → PT) (Rp : RT) : PT := tAload 1 <| tFn 1 F_X8_leaderNow <| tIstore 2 <| tIload 2 <| tConst (-1) <| tIf2 (fun x y => x ≠ y) (w_X3_roundsNeeded_12 M G Rp) <| tConst (-1) <| tIret Rp
set_option maxRecDepth 20000 in
theorem b_X3_roundsNeeded_94 {Z : Zt} {d : Nat} {p : Program} {e : Env} {R : Room} {s : State} {m : MethodId} {args : Array Value} {below : List Frame} {meth : Method} {c : Code} {Rp : RT} (C : Cx Z (d + 6) jX3_roundsNeeded RX3 p R s m args meth c) : Sd Z jX3_roundsNeeded p e R s m args below meth c (MQ below (QcS Z Rp) args s 0 0 (fun a => Z.2.2.1 < a)) 94 (w_X3_roundsNeeded_94 (MS Z (d + 6)) (Gw Z 5 p e R s m args below meth c (MQ below (QcS Z Rp) args s 0 0 (fun a => Z.2.2.1 < a))) Rp) := by
  unfold w_X3_roundsNeeded_94
  refine s_iconst (n := (-1)) C (by decide +kernel) (by decide) ?_
  exact s_iret C rfl (by decide +kernel)
set_option maxRecDepth 20000 in
theorem b_X3_roundsNeeded_88 {Z : Zt} {d : Nat} {p : Program} {e : Env} {R : Room} {s : State} {m : MethodId} {args : Array Value} {below : List Frame} {meth : Method} {c : Code} {Rp : RT} (C : Cx Z (d + 6) jX3_roundsNeeded RX3 p R s m args meth c) : Sd Z jX3_roundsNeeded p e R s m args below meth c (MQ below (QcS Z Rp) args s 0 0 (fun a => Z.2.2.1 < a)) 88 (w_X3_roundsNeeded_88 (MS Z (d + 6)) (Gw Z 5 p e R s m args below meth c (MQ below (QcS Z Rp) args s 0 0 (fun a => Z.2.2.1 < a))) Rp) := by
  unfold w_X3_roundsNeeded_88
  refine s_iinc (n := 1) C (by decide +kernel) (by decide) ?_
  exact s_goto (off := (-58)) (tgt := 33) C (by decide +kernel) (by decide) (fun _ _ _ _ _ _ h => h)
set_option maxRecDepth 20000 in
theorem b_X3_roundsNeeded_66 {Z : Zt} {d : Nat} {p : Program} {e : Env} {R : Room} {s : State} {m : MethodId} {args : Array Value} {below : List Frame} {meth : Method} {c : Code} {Rp : RT} (C : Cx Z (d + 6) jX3_roundsNeeded RX3 p R s m args meth c) : Sd Z jX3_roundsNeeded p e R s m args below meth c (MQ below (QcS Z Rp) args s 0 0 (fun a => Z.2.2.1 < a)) 66 (w_X3_roundsNeeded_66 (MS Z (d + 6)) (Gw Z 5 p e R s m args below meth c (MQ below (QcS Z Rp) args s 0 0 (fun a => Z.2.2.1 < a))) Rp) := by
  unfold w_X3_roundsNeeded_66
  refine s_aload_n (k := 3) C (by decide +kernel) ?_
  refine s_getI C w_2_8 (by decide +kernel) rfl ?_
  refine s_aload_n (k := 3) C (by decide +kernel) ?_
  refine s_getI C w_2_4 (by decide +kernel) rfl ?_
  refine s_icmp_ne (off := 14) (tgt := 88) C (by decide +kernel) (by decide) (b_X3_roundsNeeded_88 C) ?_
  refine s_aload_n (k := 0) C (by decide +kernel) ?_
  refine s_aload_n (k := 3) C (by decide +kernel) ?_
  refine s_fnV C (j2 := jX3_allAgreeWith) (cl := 3) (nf := 2) rfl rfl (by decide +kernel) rfl w_6_9 w_6_11 w_p3_2 w_1_10 w_6_12 (by decide +kernel) (fun _ _ _ _ _ h => f_X3_allAgreeWith h) (fun _ _ _ _ _ h => r_X3_allAgreeWith h) ?_
  refine s_if_eq (off := 6) (tgt := 88) C (by decide +kernel) (by decide) (b_X3_roundsNeeded_88 C) ?_
  refine s_iload (k := 4) C (by decide +kernel) ?_
  exact s_iret C rfl (by decide +kernel)
set_option maxRecDepth 20000 in
theorem b_X3_roundsNeeded_33 {Z : Zt} {d : Nat} {p : Program} {e : Env} {R : Room} {s : State} {m : MethodId} {args : Array Value} {below : List Frame} {meth : Method} {c : Code} {Rp : RT} (C : Cx Z (d + 6) jX3_roundsNeeded RX3 p R s m args meth c) : Sd Z jX3_roundsNeeded p e R s m args below meth c (MQ below (QcS Z Rp) args s 0 0 (fun a => Z.2.2.1 < a)) 33 (w_X3_roundsNeeded_33 (MS Z (d + 6)) (Gw Z 5 p e R s m args below meth c (MQ below (QcS Z Rp) args s 0 0 (fun a => Z.2.2.1 < a))) Rp) := by
  unfold w_X3_roundsNeeded_33
  refine s_iload (k := 4) C (by decide +kernel) ?_
  refine s_bipush (n := 20) C (by decide +kernel) (by decide) ?_
  refine s_icmp_gt (off := 57) (tgt := 94) C (by decide +kernel) (by decide) (b_X3_roundsNeeded_94 C) ?_
  refine s_aload_n (k := 0) C (by decide +kernel) ?_
  refine s_getR C w_2_153 (by decide +kernel) rfl ?_
  refine s_aload_n (k := 3) C (by decide +kernel) ?_
  refine s_fnV C (j2 := jX10_sendToAll) (cl := 10) (nf := 6) rfl rfl (by decide +kernel) rfl w_6_8 w_3_159 w_3_160 w_1_2 w_3_161 (by decide +kernel) (fun _ _ _ _ _ h => f_X10_sendToAll h) (fun _ _ _ _ _ h => r_X10_sendToAll h) ?_
  refine s_aload_n (k := 0) C (by decide +kernel) ?_
  refine s_getR C w_2_153 (by decide +kernel) rfl ?_
  refine s_fnS2 C (j2 := jX3_drain) (by decide +kernel) rfl w_5_216 w_5_217 w_1_10 w_5_218 (by decide +kernel) (fun _ _ _ _ _ h => f_X3_drain h) ?_
  refine s_pop C (by decide +kernel) ?_
  refine s_aload_n (k := 3) C (by decide +kernel) ?_
  refine s_getI C w_1_233 (by decide +kernel) rfl ?_
  refine s_iconst (n := 2) C (by decide +kernel) (by decide) ?_
  refine s_icmp_eq (off := 5) (tgt := 66) C (by decide +kernel) (by decide) (b_X3_roundsNeeded_66 C) ?_
  refine s_iconst (n := (-1)) C (by decide +kernel) (by decide) ?_
  exact s_iret C rfl (by decide +kernel)
set_option maxRecDepth 20000 in
theorem b_X3_roundsNeeded_12 {Z : Zt} {d : Nat} {p : Program} {e : Env} {R : Room} {s : State} {m : MethodId} {args : Array Value} {below : List Frame} {meth : Method} {c : Code} {Rp : RT} (C : Cx Z (d + 6) jX3_roundsNeeded RX3 p R s m args meth c) : Sd Z jX3_roundsNeeded p e R s m args below meth c (MQ below (QcS Z Rp) args s 0 0 (fun a => Z.2.2.1 < a)) 12 (w_X3_roundsNeeded_12 (MS Z (d + 6)) (Gw Z 5 p e R s m args below meth c (MQ below (QcS Z Rp) args s 0 0 (fun a => Z.2.2.1 < a))) Rp) := by
  unfold w_X3_roundsNeeded_12
  refine s_aload_n (k := 0) C (by decide +kernel) ?_
  refine s_getR C w_2_153 (by decide +kernel) rfl ?_
  refine s_aload_n (k := 1) C (by decide +kernel) ?_
  refine s_fnV C (j2 := jX10_copyFrom) (cl := 10) (nf := 6) rfl rfl (by decide +kernel) rfl w_5_215 w_3_37 w_3_38 w_1_2 w_3_39 (by decide +kernel) (fun _ _ _ _ _ h => f_X10_copyFrom h) (fun _ _ _ _ _ h => r_X10_copyFrom h) ?_
  refine s_aload_n (k := 0) C (by decide +kernel) ?_
  refine s_getR C w_2_153 (by decide +kernel) rfl ?_
  refine s_getR C w_2_115 (by decide +kernel) rfl ?_
  refine s_iload_n (k := 2) C (by decide +kernel) ?_
  refine s_aald C rfl (by decide +kernel) ?_
  refine s_astore_n (k := 3) C (by decide +kernel) ?_
  refine s_iconst (n := 1) C (by decide +kernel) (by decide) ?_
  refine s_istore (k := 4) C (by decide +kernel) ?_
  exact (fun _ _ _ _ _ _ h => h)
set_option maxRecDepth 20000 in
theorem b_X3_roundsNeeded_0 {Z : Zt} {d : Nat} {p : Program} {e : Env} {R : Room} {s : State} {m : MethodId} {args : Array Value} {below : List Frame} {meth : Method} {c : Code} {Rp : RT} (C : Cx Z (d + 6) jX3_roundsNeeded RX3 p R s m args meth c) : Sd Z jX3_roundsNeeded p e R s m args below meth c (MQ below (QcS Z Rp) args s 0 0 (fun a => Z.2.2.1 < a)) 0 (w_X3_roundsNeeded_0 (MS Z (d + 6)) (Gw Z 5 p e R s m args below meth c (MQ below (QcS Z Rp) args s 0 0 (fun a => Z.2.2.1 < a))) Rp) := by
  unfold w_X3_roundsNeeded_0
  refine s_aload_n (k := 1) C (by decide +kernel) ?_
  refine s_fnS C (j2 := jX8_leaderNow) (by decide +kernel) rfl w_6_7 w_5_205 w_1_21 w_5_206 (by decide +kernel) (fun _ _ _ _ _ h => f_X8_leaderNow h) ?_
  refine s_istore_n (k := 2) C (by decide +kernel) ?_
  refine s_iload_n (k := 2) C (by decide +kernel) ?_
  refine s_iconst (n := (-1)) C (by decide +kernel) (by decide) ?_
  refine s_icmp_ne (off := 5) (tgt := 12) C (by decide +kernel) (by decide) (b_X3_roundsNeeded_12 C) ?_
  refine s_iconst (n := (-1)) C (by decide +kernel) (by decide) ?_
  exact s_iret C rfl (by decide +kernel)
theorem ms_X3_roundsNeeded {Z : Zt} {d : Nat} {S : Sh} {μ : Mi} {ρ : Mr} {Rp : RT} (a0 : Nat) (a1 : Nat) (h : ∀ G : Nat → PT, (∀ (L st : List Value) (S : Sh) (q : Nat × Nat) (μ : Mi) (ρ : Mr), w_X3_roundsNeeded_33 (MS Z (d + 6)) G Rp L st S q μ ρ → G 33 L st S q μ ρ) → w_X3_roundsNeeded_0 (MS Z (d + 6)) G Rp [.ref a0, .ref a1, .null, .null, .null] [] S (0, 0) μ ρ) : MS Z (d + 7) jX3_roundsNeeded [.ref a0, .ref a1] S μ ρ Rp :=
  MS_of [.ref a0, .ref a1, .null, .null, .null] (by decide +kernel) rfl rfl (Nat.le_of_ble_eq_true rfl) rfl (fun p e R s m args below meth c C => b_X3_roundsNeeded_0 C _ _ _ _ _ _ (h _ (b_X3_roundsNeeded_33 C)))
def F_X3_roundsNeeded : FT2 := fun As S μ ρ k => match As with
  | [.ref p, .ref w] => S.2 p = (3, 2) ∧ S.2 w = (10, 6) ∧ PapOK p S ρ ∧ Sht p S μ ρ ∧ apP p w ∧ ∃ A : Rw, RR A w S μ ρ ∧ Gd A ∧ ∀ (μ' : Mi) (ρ' : Mr), Sht p S μ' ρ' → Ot (p + 2) μ μ' → Orf (p + 2) ρ ρ' → k (some (.int (vRounds A))) μ' ρ'
  | _ => False
theorem r_X3_roundsNeeded {As S μ ρ k} (h : F_X3_roundsNeeded As S μ ρ k) : ∃ a As', As = Value.ref a :: As' ∧ S.2 a = (3, 2) := by
  unfold F_X3_roundsNeeded at h
  split at h
  · exact ⟨_, _, rfl, h.1⟩
  · exact h.elim
set_option maxHeartbeats 1000000 in
theorem f_X3_roundsNeeded {Z : Zt} {d : Nat} {As : List Value} {S : Sh} {μ : Mi} {ρ : Mr} {Rp : RT} (h : F_X3_roundsNeeded As S μ ρ (fun r μ' ρ' => Rp r S μ' ρ')) : MS Z (d + 7) jX3_roundsNeeded As S μ ρ Rp := by
  unfold F_X3_roundsNeeded at h
  split at h
  · rename_i p w
    obtain ⟨p, hNp⟩ : ∃ n : Nat, n = p := ⟨p, rfl⟩
    subst hNp
    obtain ⟨w, hNw⟩ : ∃ n : Nat, n = w := ⟨w, rfl⟩
    subst hNw
    obtain ⟨h1, h2, hP, hS, hp, A, hR, hG, h⟩ := h
    unfold apP at hp
    obtain ⟨i1, i2, i3⟩ := Sht_I hS
    refine ms_X3_roundsNeeded _ _ (fun G g33 => ?_)
    obtain ⟨-, r0, r1, sp, rp, p1⟩ := hP
    have hap : apW (p + 2) w := by unfold apW; omega
    unfold vRounds at h
    simp only [w_X3_roundsNeeded_0, tAload, tIload, nth, tGetI, tGetR, tConst, tLconst, tBin, tUn, tI2l, tAld, tAldR, tAlen, tIast, tBast, tZast, tAast, tIret, tZret, tVret, tAret, tIf, tIf2, tGoto, tIstore, tAstore, sset, tIinc, tDup, tDup2, tPop, tPutI, tPutZ, tPutR, tCallV, tCallS, popN, tFn, tCopy, tMax, tMin, tSw, swc, tRem, tObjI, Option.toList, List.nil_append, List.cons_append, okR, true_and, and_true, true_or, or_true, Nat.zero_le, ne_eq, not_false_eq_true, Nat.reduceEqDiff, tFn2, F_X8_leaderNow, h1, h2]
    refine ⟨A, hR, fun c => ?_, fun c => ?_⟩
    rotate_left
    · rw [if_pos (Classical.not_not.mp c)] at h
      exact h μ ρ hS (fun _ _ => rfl) (fun _ _ => rfl)
    rw [if_neg c] at h
    have hl := lead_is (A := A) c
    obtain ⟨s, s1, hs, hrole⟩ := hl
    rw [s1, nI_clamp (by omega)] at h
    have hP' : PapOK p S ρ := ⟨h1, r0, r1, sp, rp, p1⟩
    have loop : ∀ (m n : Nat) (B : Rw) (ν : Mi) (ρ' : Mr), n + m = 21 → 1 ≤ n → RR B (p + 2) S ν ρ' → Gd B → B (514 * s + 3) = 2 → Ot (p + 2) μ ν → Orf (p + 2) ρ ρ' → (∀ ν' ρ'', Sht p S ν' ρ'' → Ot (p + 2) μ ν' → Orf (p + 2) ρ ρ'' → Rp (some (.int (rnF s m n B).1)) S ν' ρ'') → G 33 [.ref p, .ref w, .int (nI s), .ref (p + 2 + 130 + 8 * s), .int (nI n)] [] S (0, 0) ν ρ' := by
      intro m
      induction m with
      | zero =>
        intro n B ν ρ' hn n1 r hg hl o f hh
        apply g33
        simp only [w_X3_roundsNeeded_33, w_X3_roundsNeeded_94, tAload, tIload, nth, tGetI, tGetR, tConst, tLconst, tBin, tUn, tI2l, tAld, tAldR, tAlen, tIast, tBast, tZast, tAast, tIret, tZret, tVret, tAret, tIf, tIf2, tGoto, tIstore, tAstore, sset, tIinc, tDup, tDup2, tPop, tPutI, tPutZ, tPutR, tCallV, tCallS, popN, tFn, tCopy, tMax, tMin, tSw, swc, tRem, tObjI, Option.toList, List.nil_append, List.cons_append, okR, true_and, and_true, true_or, or_true, Nat.zero_le, ne_eq, not_false_eq_true, Nat.reduceEqDiff, tFn2]
        refine ⟨fun _ => hh ν ρ' ⟨_, r⟩ o f, fun z => absurd (by rw [show (20 : Int32) = nI 20 from rfl, nI_ltI (by decide) (by omega)]; omega) z⟩
      | succ m ih =>
        intro n B ν ρ' hn n1 r hg hl o f hh
        rw [rnF_s] at hh
        have e : ρ' p = ρ p := f p (by omega)
        have hWb := RR_W r
        obtain ⟨x1, x2, x3⟩ := W_st hWb hs
        have hst := (good_cm (Gd_good hg)).1 s hs
        have hg2 : Gd (qFeedsAll B s) := Gd_step hg (Sp.beat hs hl)
        apply g33
        simp only [w_X3_roundsNeeded_33, tAload, tIload, nth, tGetI, tGetR, tConst, tLconst, tBin, tUn, tI2l, tAld, tAldR, tAlen, tIast, tBast, tZast, tAast, tIret, tZret, tVret, tAret, tIf, tIf2, tGoto, tIstore, tAstore, sset, tIinc, tDup, tDup2, tPop, tPutI, tPutZ, tPutR, tCallV, tCallS, popN, tFn, tCopy, tMax, tMin, tSw, swc, tRem, tObjI, Option.toList, List.nil_append, List.cons_append, okR, true_and, and_true, true_or, or_true, Nat.zero_le, ne_eq, not_false_eq_true, Nat.reduceEqDiff, tFn2, F_X10_sendToAll, F_X3_drain, h1, e, r1, i1, x1]
        refine ⟨fun z => absurd z (by rw [show (20 : Int32) = nI 20 from rfl, nI_ltI (by decide) (by omega)]; omega), fun _ => ⟨s, B, hs, rfl, r, hl, hst.1.1.2.2.2, fun μ1 q1 o1 => ⟨_, q1, hg2, fun μ2 ρ2 q2 o2 f2 => ?_⟩⟩⟩
        have hg3 : Gd (setF 300 (qFeedsAll B s)) := Gd_set hg2
        have o3 : Ot (p + 2) μ μ2 := ot_trans o (ot_trans (Fm_Ot o1) o2)
        have f3 : Orf (p + 2) ρ ρ2 := orf_trans f f2
        have hS2 := RR_st q2 hs
        have e4 : μ2 (p + 2 + 130 + 8 * s) 4 = setF 300 (qFeedsAll B s) (514 * s + 3) := hS2.1.2.2.2.2.1
        have e8 : μ2 (p + 2 + 130 + 8 * s) 8 = setF 300 (qFeedsAll B s) (514 * s + 7) := hS2.1.2.2.2.2.2.2.2.2.1
        have e7 : μ2 (p + 2 + 130 + 8 * s) 7 = setF 300 (qFeedsAll B s) (514 * s + 4) := hS2.1.2.2.2.2.2.2.2.1
        have eρ : ∀ y, y = p ∨ y = p + 1 → ρ2 y = ρ y := fun y hy => f3 y (by omega)
        have hP2 : PapOK p S ρ2 := by
          unfold PapOK at *
          rw [eρ p (Or.inl rfl), eρ (p + 1) (Or.inr rfl)]
          exact hP'
        rw [e4]
        have ag := agd_iff (A := setF 300 (qFeedsAll B s)) (s := s)
        generalize setF 300 (qFeedsAll B s) = C at *
        refine ⟨fun c2 => ?_, fun c2 => ?_⟩
        · rw [if_neg (not_not_intro c2)] at hh
          have go : qAgd C s = 0 → w_X3_roundsNeeded_88 (MS Z (d + 6)) G Rp [.ref p, .ref w, .int (nI s), .ref (p + 2 + 130 + 8 * s), .int (nI n)] [] S (0, 0) μ2 ρ2 := by
            intro c3
            rw [if_neg (not_not_intro c3)] at hh
            simp only [w_X3_roundsNeeded_88, tAload, tIload, nth, tGetI, tGetR, tConst, tLconst, tBin, tUn, tI2l, tAld, tAldR, tAlen, tIast, tBast, tZast, tAast, tIret, tZret, tVret, tAret, tIf, tIf2, tGoto, tIstore, tAstore, sset, tIinc, tDup, tDup2, tPop, tPutI, tPutZ, tPutR, tCallV, tCallS, popN, tFn, tCopy, tMax, tMin, tSw, swc, tRem, tObjI, Option.toList, List.nil_append, List.cons_append, okR, true_and, and_true, true_or, or_true, Nat.zero_le, ne_eq, not_false_eq_true, Nat.reduceEqDiff, tFn2, nI_s1]
            exact ih (n + 1) C μ2 ρ2 (by omega) (by omega) q2 hg3 c2 o3 f3 hh
          simp only [w_X3_roundsNeeded_66, tAload, tIload, nth, tGetI, tGetR, tConst, tLconst, tBin, tUn, tI2l, tAld, tAldR, tAlen, tIast, tBast, tZast, tAast, tIret, tZret, tVret, tAret, tIf, tIf2, tGoto, tIstore, tAstore, sset, tIinc, tDup, tDup2, tPop, tPutI, tPutZ, tPutR, tCallV, tCallS, popN, tFn, tCopy, tMax, tMin, tSw, swc, tRem, tObjI, Option.toList, List.nil_append, List.cons_append, okR, true_and, and_true, true_or, or_true, Nat.zero_le, ne_eq, not_false_eq_true, Nat.reduceEqDiff, tFn2, F_X3_allAgreeWith, h1, x1, e8, e7]
          refine ⟨fun c3 => go (Classical.not_not.mp (fun z => c3 (ag.mp z).1)), fun c3 => ⟨hP2, s, C, hs, rfl, q2, fun c4 => ⟨fun z => absurd z (by decide), fun _ => ?_⟩, fun c4 => ⟨fun _ => go (Classical.not_not.mp (fun z => c4 (ag.mp z).2)), fun z => absurd trivial z⟩⟩⟩
          rw [if_pos (ag.mpr ⟨Classical.not_not.mp c3, c4⟩)] at hh
          exact hh μ2 ρ2 ⟨_, q2⟩ o3 f3
        · rw [if_pos c2] at hh
          exact hh μ2 ρ2 ⟨_, q2⟩ o3 f3
    simp only [w_X3_roundsNeeded_12, tAload, tIload, nth, tGetI, tGetR, tConst, tLconst, tBin, tUn, tI2l, tAld, tAldR, tAlen, tIast, tBast, tZast, tAast, tIret, tZret, tVret, tAret, tIf, tIf2, tGoto, tIstore, tAstore, sset, tIinc, tDup, tDup2, tPop, tPutI, tPutZ, tPutR, tCallV, tCallS, popN, tFn, tCopy, tMax, tMin, tSw, swc, tRem, tObjI, Option.toList, List.nil_append, List.cons_append, okR, true_and, and_true, true_or, or_true, Nat.zero_le, ne_eq, not_false_eq_true, Nat.reduceEqDiff, tFn2, F_X10_copyFrom, h1, h2, r1, i1, s1]
    refine ⟨i2, i3, hap, A, hR, fun μ1 q1 o1 => ?_⟩
    have hWb := RR_W q1
    obtain ⟨x1, x2, x3⟩ := W_st hWb hs
    rw [hWb.2.2.2.2.1.1, hWb.2.1.2.1, nI_clamp (by omega), x3]
    exact ⟨by omega, rfl, inb_nI hs (by decide), by omega, loop 20 1 A μ1 ρ rfl (by omega) q1 hG hrole o1 (fun _ _ => rfl) h⟩
  · exact h.elim
