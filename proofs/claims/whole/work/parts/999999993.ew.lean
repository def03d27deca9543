/-! ===== what is made: the mail ===== -/
def w_X1_init_51 (M : CT) (G : Nat → PT) (Rp : RT) : PT := tVret Rp
def w_X1_init_26 (M : CT) (G : Nat → PT) (Rp : RT) : PT := tIload 1 <| tConst 60 <| tIf2 (fun x y => y < x) (w_X1_init_51 M G Rp) <| tAload 0 <| tGetR 1 6 0 <| tIload 1 <| tNew 2 10 125 1053 <| tDup <| tCallI M jX2_init 0 125 1053 <| tAast 2 <| tIinc 1 1 <| tGoto (G 26)
def w_X1_init_0 (M : CT) (G : Nat → PT) (Rp : RT) : PT := tAload 0 <| tObjI <| tAload 0 <| tConst 61 <| tAnew 2 125 1053 <| tPutR 1 6 0 <| tAload 0 <| tNew 2 10 125 1053 <| tDup <| tCallI M jX2_init 0 125 1053 <| tPutR 1 6 1 <| tConst 0 <| tIstore 1 <| G 26
set_option maxRecDepth 20000 in
theorem b_X1_init_51 {Z : Zt} {d : Nat} {p : Program} {e : Env} {R : Room} {s : State} {m : MethodId} {args : Array Value} {below : List Frame} {meth : Method} {c : Code} {Rp : RT} (C : Cx Z (d + 1) jX1_init RX1 p R s m args meth c) : Sd Z jX1_init p e R s m args below meth c (MQ below (QcS Z Rp) args s 125 1053 (fun a => Z.2.2.1 < a)) 51 (w_X1_init_51 (MS Z (d + 1)) (Gw Z 2 p e R s m args below meth c (MQ below (QcS Z Rp) args s 125 1053 (fun a => Z.2.2.1 < a))) Rp) := by
  unfold w_X1_init_51
  exact s_vret C rfl (by decide +kernel)
set_option maxRecDepth 20000 in
theorem b_X1_init_26 {Z : Zt} {d : Nat} {p : Program} {e : Env} {R : Room} {s : State} {m : MethodId} {args : Array Value} {below : List Frame} {meth : Method} {c : Code} {Rp : RT} (C : Cx Z (d + 1) jX1_init RX1 p R s m args meth c) : Sd Z jX1_init p e R s m args below meth c (MQ below (QcS Z Rp) args s 125 1053 (fun a => Z.2.2.1 < a)) 26 (w_X1_init_26 (MS Z (d + 1)) (Gw Z 2 p e R s m args below meth c (MQ below (QcS Z Rp) args s 125 1053 (fun a => Z.2.2.1 < a))) Rp) := by
  unfold w_X1_init_26
  refine s_iload_n (k := 1) C (by decide +kernel) ?_
  refine s_bipush (n := 60) C (by decide +kernel) (by decide) ?_
  refine s_icmp_gt (off := 22) (tgt := 51) C (by decide +kernel) (by decide) (b_X1_init_51 C) ?_
  refine s_aload_n (k := 0) C (by decide +kernel) ?_
  refine s_getR C w_1_118 (by decide +kernel) rfl ?_
  refine s_iload_n (k := 1) C (by decide +kernel) ?_
  refine s_new C rfl w_1_44 w_1_46 w_1_4 (by decide +kernel) ?_
  refine s_dup C (by decide +kernel) ?_
  refine s_callIN C (by decide +kernel) ⟨rfl, rfl⟩ w_1_47 w_1_48 w_1_4 w_1_49 (by decide +kernel) ?_
  refine s_aast C rfl (by decide +kernel) ?_
  refine s_iinc (n := 1) C (by decide +kernel) (by decide) ?_
  exact s_goto (off := (-22)) (tgt := 26) C (by decide +kernel) (by decide) (fun _ _ _ _ _ _ h => h)
set_option maxRecDepth 20000 in
theorem b_X1_init_0 {Z : Zt} {d : Nat} {p : Program} {e : Env} {R : Room} {s : State} {m : MethodId} {args : Array Value} {below : List Frame} {meth : Method} {c : Code} {Rp : RT} (C : Cx Z (d + 1) jX1_init RX1 p R s m args meth c) : Sd Z jX1_init p e R s m args below meth c (MQ below (QcS Z Rp) args s 125 1053 (fun a => Z.2.2.1 < a)) 0 (w_X1_init_0 (MS Z (d + 1)) (Gw Z 2 p e R s m args below meth c (MQ below (QcS Z Rp) args s 125 1053 (fun a => Z.2.2.1 < a))) Rp) := by
  unfold w_X1_init_0
  refine s_aload_n (k := 0) C (by decide +kernel) ?_
  refine s_objI C w_1_43 w_1_28 w_1_29 (by decide +kernel) ?_
  refine s_aload_n (k := 0) C (by decide +kernel) ?_
  refine s_bipush (n := 61) C (by decide +kernel) (by decide) ?_
  refine s_anew C rfl w_1_44 w_1_45 (by decide +kernel) ?_
  refine s_putR C w_1_118 (by decide +kernel) rfl (Or.inr ⟨rfl, rfl, rfl⟩) ?_
  refine s_aload_n (k := 0) C (by decide +kernel) ?_
  refine s_new C rfl w_1_44 w_1_46 w_1_4 (by decide +kernel) ?_
  refine s_dup C (by decide +kernel) ?_
  refine s_callIN C (by decide +kernel) ⟨rfl, rfl⟩ w_1_47 w_1_48 w_1_4 w_1_49 (by decide +kernel) ?_
  refine s_putR C w_1_122 (by decide +kernel) rfl (Or.inr ⟨rfl, rfl, rfl⟩) ?_
  refine s_iconst (n := 0) C (by decide +kernel) (by decide) ?_
  refine s_istore_n (k := 1) C (by decide +kernel) ?_
  exact (fun _ _ _ _ _ _ h => h)
theorem ms_X1_init {Z : Zt} {d : Nat} {S : Sh} {μ : Mi} {ρ : Mr} {Rp : RT} (a0 : Nat) (h : ∀ G : Nat → PT, (∀ (L st : List Value) (S : Sh) (q : Nat × Nat) (μ : Mi) (ρ : Mr), w_X1_init_26 (MS Z (d + 1)) G Rp L st S q μ ρ → G 26 L st S q μ ρ) → w_X1_init_0 (MS Z (d + 1)) G Rp [.ref a0, .null] [] S (0, 0) μ ρ) : MS Z (d + 2) jX1_init [.ref a0] S μ ρ Rp :=
  MS_of [.ref a0, .null] (by decide +kernel) rfl rfl (Nat.le_of_ble_eq_true rfl) rfl (fun p e R s m args below meth c C => b_X1_init_0 C _ _ _ _ _ _ (h _ (b_X1_init_26 C)))
def MlK (a i : Nat) (S : Sh) (ρ : Mr) : Prop := S.2 (a + 1) = (32, 61) ∧ (∀ k, k < i + 1 → S.2 (a + 2 + 2 * k) = (2, 10) ∧ S.2 (a + 3 + 2 * k) = (20, 6) ∧ ρ (a + 2 + 2 * k) 9 = a + 3 + 2 * k) ∧ (∀ j, j < i → ρ (a + 1) j = a + 4 + 2 * j) ∧ ρ a 0 = a + 1 ∧ ρ a 1 = a + 2
section Mk1
variable {Z : Zt} {d : Nat} {S : Sh} {μ : Mi} {ρ : Mr} {Rp : RT}
set_option maxHeartbeats 1000000 in
theorem f_X1_init {a : Nat} (h1 : S.1 = a + 1) (hS : S.2 a = (1, 6)) (h : ∀ S' μ' ρ', Grw 125 a S μ ρ S' μ' ρ' → MlK a 61 S' ρ' → Rp none S' μ' ρ') : MS Z (d + 2) jX1_init [.ref a] S μ ρ Rp := by
  refine ms_X1_init _ (fun G g26 => ?_)
  have loop : ∀ (m i : Nat) (S' : Sh) (μ' : Mi) (ρ' : Mr), m + i = 61 → Grw (3 + 2 * i) a S μ ρ S' μ' ρ' → MlK a i S' ρ' → G 26 [.ref a, .int (nI i)] [] S' (3 + 2 * i, 77 + 16 * i) μ' ρ' := by
    intro m
    induction m with
    | zero =>
      intro i S' μ' ρ' hm g k
      obtain rfl : i = 61 := by omega
      apply g26
      simp only [w_X1_init_26, w_X1_init_51, tAload, tIload, nth, tGetI, tGetR, tConst, tLconst, tBin, tUn, tI2l, tAld, tAldR, tAlen, tIast, tBast, tZast, tAast, tIret, tZret, tVret, tAret, tIf, tIf2, tGoto, tIstore, tAstore, sset, tIinc, tDup, tDup2, tPop, tPutI, tPutZ, tPutR, tCallV, tCallS, popN, tFn, tCopy, tMax, tMin, tSw, swc, tRem, tObjI, Option.toList, List.nil_append, List.cons_append, okR, true_and, and_true, true_or, or_true, Nat.zero_le, ne_eq, not_false_eq_true, Nat.reduceEqDiff]
      exact ⟨fun _ => h S' μ' ρ' g k, fun c => absurd (by decide) c⟩
    | succ m ih =>
      intro i S' μ' ρ' hm g k
      obtain ⟨g1, g2, g3, g4⟩ := g
      obtain ⟨k1, k2, k3, k4, k5⟩ := k
      have sa : S'.2 a = (1, 6) := (g2 a (by omega)).trans hS
      apply g26
      simp only [w_X1_init_26, tAload, tIload, nth, tGetI, tGetR, tConst, tLconst, tBin, tUn, tI2l, tAld, tAldR, tAlen, tIast, tBast, tZast, tAast, tIret, tZret, tVret, tAret, tIf, tIf2, tGoto, tIstore, tAstore, sset, tIinc, tDup, tDup2, tPop, tPutI, tPutZ, tPutR, tCallV, tCallS, popN, tFn, tCopy, tMax, tMin, tSw, swc, tRem, tObjI, Option.toList, List.nil_append, List.cons_append, okR, true_and, and_true, true_or, or_true, Nat.zero_le, ne_eq, not_false_eq_true, Nat.reduceEqDiff, tNew, tNewa, tAnew, tCallI, sa, k4]
      refine ⟨fun c => absurd c (by rw [show (60 : Int32) = nI 60 from rfl, nI_ltI (by decide) (by omega)]; omega), fun _ => ⟨by omega, by omega, ?_, ?_, ?_⟩⟩
      · show 3 + 2 * i + 1 + 1 ≤ 125
        omega
      · show 77 + 16 * i + 10 + 6 ≤ 1053
        omega
      refine f_X2_init rfl upK_at (fun S2 μ2 ρ2 gg e1 e2 => ?_)
      obtain ⟨t1, t2, t3, t4⟩ := gg
      dsimp only at t1 t2 t3 t4
      have lo : ∀ y, y < S'.1 → S2.2 y = S'.2 y := fun y hy => by rw [t2 y (by omega), upK_ne (by omega)]
      have sm : S2.2 S'.1 = (2, 10) := by rw [t2 _ (by omega)]; exact upK_at
      have rlo : ∀ y, y < S'.1 → ρ2 y = ρ' y := fun y hy => by rw [t4 y (by omega) (by omega), upFr_ne (by omega)]
      have b1 : S2.2 (a + 1) = (32, 61) := (lo _ (by omega)).trans k1
      simp only [tAload, tIload, nth, tGetI, tGetR, tConst, tLconst, tBin, tUn, tI2l, tAld, tAldR, tAlen, tIast, tBast, tZast, tAast, tIret, tZret, tVret, tAret, tIf, tIf2, tGoto, tIstore, tAstore, sset, tIinc, tDup, tDup2, tPop, tPutI, tPutZ, tPutR, tCallV, tCallS, popN, tFn, tCopy, tMax, tMin, tSw, swc, tRem, tObjI, Option.toList, List.nil_append, List.cons_append, okR, true_and, and_true, true_or, or_true, Nat.zero_le, ne_eq, not_false_eq_true, Nat.reduceEqDiff, tAast, b1, sm, nI_clamp (show i < 2 ^ 31 by omega), nI_s1]
      refine ⟨inb_nI (by omega) (by decide), ?_⟩
      have := ih (i + 1) S2 μ2 (upR ρ2 (a + 1) i S'.1) (by omega) ⟨by omega, fun y hy => by rw [lo y (by omega)]; exact g2 y hy, fun y hy hya => by rw [t3 y (by omega) (by omega), upF_ne (by omega)]; exact g3 y hy hya, fun y hy hya => by rw [upR_ne (by omega), rlo y (by omega)]; exact g4 y hy hya⟩ ⟨b1, fun k hk => ?_, fun j hj => ?_, by rw [upR_ne (by omega), rlo _ (by omega)]; exact k4, by rw [upR_ne (by omega), rlo _ (by omega)]; exact k5⟩
      · rw [show (3 + 2 * (i + 1), 77 + 16 * (i + 1)) = (3 + 2 * i + 1 + 1, 77 + 16 * i + 10 + 6) by congr 1 <;> omega] at this
        exact this
      · by_cases c : k < i + 1
        · obtain ⟨x1, x2, x3⟩ := k2 k c
          exact ⟨(lo _ (by omega)).trans x1, (lo _ (by omega)).trans x2, by rw [upR_ne (by omega), rlo _ (by omega)]; exact x3⟩
        · obtain rfl : k = i + 1 := by omega
          have e : a + 2 + 2 * (i + 1) = S'.1 := by omega
          have e' : a + 3 + 2 * (i + 1) = S'.1 + 1 := by omega
          rw [e, e']
          exact ⟨sm, e1, by rw [upR_ne (by omega)]; exact e2⟩
      · by_cases c : j = i
        · subst c; rw [upR_at]; omega
        · rw [upR_k c, rlo _ (by omega)]; exact k3 j (by omega)
  simp only [w_X1_init_0, tAload, tIload, nth, tGetI, tGetR, tConst, tLconst, tBin, tUn, tI2l, tAld, tAldR, tAlen, tIast, tBast, tZast, tAast, tIret, tZret, tVret, tAret, tIf, tIf2, tGoto, tIstore, tAstore, sset, tIinc, tDup, tDup2, tPop, tPutI, tPutZ, tPutR, tCallV, tCallS, popN, tFn, tCopy, tMax, tMin, tSw, swc, tRem, tObjI, Option.toList, List.nil_append, List.cons_append, okR, true_and, and_true, true_or, or_true, Nat.zero_le, ne_eq, not_false_eq_true, Nat.reduceEqDiff, tNew, tNewa, tAnew, tCallI, show Int32.toNatClampNeg 61 = 61 from by decide]
  refine ⟨by decide, by decide, by decide, by decide, by rw [upK_ne (by omega)]; exact hS, nzA (by omega), by decide, by decide, by decide, by decide, ?_⟩
  refine f_X2_init rfl upK_at (fun S2 μ2 ρ2 gg e1 e2 => ?_)
  obtain ⟨t1, t2, t3, t4⟩ := gg
  dsimp only at t1 t2 t3 t4
  have lo : ∀ y, y < S.1 → S2.2 y = S.2 y := fun y hy => by rw [t2 y (by omega), upK_ne (by omega), upK_ne (by omega)]
  have r4 : ∀ y, y < S.1 + 1 → ρ2 y = upR (upF ρ S.1 fun x => 0) a 0 S.1 y := fun y hy => by rw [t4 y (by omega) (by omega), upFr_ne (by omega)]
  simp only [tAload, tIload, nth, tGetI, tGetR, tConst, tLconst, tBin, tUn, tI2l, tAld, tAldR, tAlen, tIast, tBast, tZast, tAast, tIret, tZret, tVret, tAret, tIf, tIf2, tGoto, tIstore, tAstore, sset, tIinc, tDup, tDup2, tPop, tPutI, tPutZ, tPutR, tCallV, tCallS, popN, tFn, tCopy, tMax, tMin, tSw, swc, tRem, tObjI, Option.toList, List.nil_append, List.cons_append, okR, true_and, and_true, true_or, or_true, Nat.zero_le, ne_eq, not_false_eq_true, Nat.reduceEqDiff]
  refine ⟨by rw [lo a (by omega)]; exact hS, ?_⟩
  have := loop 61 0 S2 μ2 (upR ρ2 a 1 (S.1 + 1)) (by omega) ⟨by omega, lo, fun y hy hya => by rw [t3 y (by omega) (by omega), upF_ne (by omega), upF_ne (by omega)], fun y hy hya => by rw [upR_ne hya, r4 y (by omega), upR_ne hya, upFr_ne (by omega)]⟩ ⟨?_, fun k hk => ?_, fun j hj => by omega, ?_, ?_⟩
  · exact this
  · rw [← h1, t2 _ (by omega), upK_ne (by omega)]; exact upK_at
  · obtain rfl : k = 0 := by omega
    refine ⟨?_, ?_, ?_⟩
    · rw [show a + 2 + 2 * 0 = S.1 + 1 by omega, t2 _ (by omega)]; exact upK_at
    · rw [show a + 3 + 2 * 0 = S.1 + 1 + 1 by omega]; exact e1
    · rw [show a + 2 + 2 * 0 = S.1 + 1 by omega, show a + 3 + 2 * 0 = S.1 + 1 + 1 by omega, upR_ne (by omega)]; exact e2
  · rw [upR_k (by omega), r4 a (by omega), upR_at]; exact h1
  · rw [upR_at]; omega
end Mk1
