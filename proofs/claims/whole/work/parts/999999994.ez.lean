/-! ===== what is made: a world ===== -/
def w_X10_init_67 (M : CT) (G : Nat → PT) (Rp : RT) : PT := tAload 0 <| tConst 31 <| tFn 2 F_X10_renew <| tVret Rp
def w_X10_init_42 (M : CT) (G : Nat → PT) (Rp : RT) : PT := tIload 1 <| tConst 5 <| tIf2 (fun x y => y ≤ x) (w_X10_init_67 M G Rp) <| tAload 0 <| tGetR 10 6 0 <| tIload 1 <| tNew 7 18 169 2216 <| tDup <| tIload 1 <| tCallI M jX7_init 1 169 2216 <| tAast 7 <| tIinc 1 1 <| tGoto (G 42)
def w_X10_init_0 (M : CT) (G : Nat → PT) (Rp : RT) : PT := tAload 0 <| tObjI <| tAload 0 <| tConst 5 <| tAnew 7 169 2216 <| tPutR 10 6 0 <| tAload 0 <| tNew 1 6 169 2216 <| tDup <| tCallI M jX1_init 0 169 2216 <| tPutR 10 6 1 <| tAload 0 <| tConst 121 <| tNewa 20 169 2216 <| tPutR 10 6 2 <| tAload 0 <| tConst 201 <| tNewa 20 169 2216 <| tPutR 10 6 3 <| tConst 0 <| tIstore 1 <| G 42
set_option maxRecDepth 20000 in
theorem b_X10_init_67 {Z : Zt} {d : Nat} {p : Program} {e : Env} {R : Room} {s : State} {m : MethodId} {args : Array Value} {below : List Frame} {meth : Method} {c : Code} {Rp : RT} (C : Cx Z (d + 4) jX10_init RX10 p R s m args meth c) : Sd Z jX10_init p e R s m args below meth c (MQ below (QcS Z Rp) args s 169 2216 (fun a => Z.2.2.1 < a)) 67 (w_X10_init_67 (MS Z (d + 4)) (Gw Z 2 p e R s m args below meth c (MQ below (QcS Z Rp) args s 169 2216 (fun a => Z.2.2.1 < a))) Rp) := by
  unfold w_X10_init_67
  refine s_aload_n (k := 0) C (by decide +kernel) ?_
  refine s_bipush (n := 31) C (by decide +kernel) (by decide) ?_
  refine s_fnV C (j2 := jX10_renew) (cl := 10) (nf := 6) rfl rfl (by decide +kernel) rfl w_2_75 w_2_77 w_p1_0 w_1_2 w_2_78 (by decide +kernel) (fun _ _ _ _ _ h => f_X10_renew h) (fun _ _ _ _ _ h => r_X10_renew h) ?_
  exact s_vret C rfl (by decide +kernel)
set_option maxRecDepth 20000 in
theorem b_X10_init_42 {Z : Zt} {d : Nat} {p : Program} {e : Env} {R : Room} {s : State} {m : MethodId} {args : Array Value} {below : List Frame} {meth : Method} {c : Code} {Rp : RT} (C : Cx Z (d + 4) jX10_init RX10 p R s m args meth c) : Sd Z jX10_init p e R s m args below meth c (MQ below (QcS Z Rp) args s 169 2216 (fun a => Z.2.2.1 < a)) 42 (w_X10_init_42 (MS Z (d + 4)) (Gw Z 2 p e R s m args below meth c (MQ below (QcS Z Rp) args s 169 2216 (fun a => Z.2.2.1 < a))) Rp) := by
  unfold w_X10_init_42
  refine s_iload_n (k := 1) C (by decide +kernel) ?_
  refine s_iconst (n := 5) C (by decide +kernel) (by decide) ?_
  refine s_icmp_ge (off := 23) (tgt := 67) C (by decide +kernel) (by decide) (b_X10_init_67 C) ?_
  refine s_aload_n (k := 0) C (by decide +kernel) ?_
  refine s_getR C w_2_113 (by decide +kernel) rfl ?_
  refine s_iload_n (k := 1) C (by decide +kernel) ?_
  refine s_new C rfl w_1_36 w_1_149 w_1_5 (by decide +kernel) ?_
  refine s_dup C (by decide +kernel) ?_
  refine s_iload_n (k := 1) C (by decide +kernel) ?_
  refine s_callI C (by decide +kernel) ⟨rfl, rfl⟩ w_1_150 w_1_151 w_1_5 w_1_152 (by decide +kernel) ?_
  refine s_aast C rfl (by decide +kernel) ?_
  refine s_iinc (n := 1) C (by decide +kernel) (by decide) ?_
  exact s_goto (off := (-22)) (tgt := 42) C (by decide +kernel) (by decide) (fun _ _ _ _ _ _ h => h)
set_option maxRecDepth 20000 in
theorem b_X10_init_0 {Z : Zt} {d : Nat} {p : Program} {e : Env} {R : Room} {s : State} {m : MethodId} {args : Array Value} {below : List Frame} {meth : Method} {c : Code} {Rp : RT} (C : Cx Z (d + 4) jX10_init RX10 p R s m args meth c) : Sd Z jX10_init p e R s m args below meth c (MQ below (QcS Z Rp) args s 169 2216 (fun a => Z.2.2.1 < a)) 0 (w_X10_init_0 (MS Z (d + 4)) (Gw Z 2 p e R s m args below meth c (MQ below (QcS Z Rp) args s 169 2216 (fun a => Z.2.2.1 < a))) Rp) := by
  unfold w_X10_init_0
  refine s_aload_n (k := 0) C (by decide +kernel) ?_
  refine s_objI C w_1_35 w_1_28 w_1_29 (by decide +kernel) ?_
  refine s_aload_n (k := 0) C (by decide +kernel) ?_
  refine s_iconst (n := 5) C (by decide +kernel) (by decide) ?_
  refine s_anew C rfl w_1_36 w_1_37 (by decide +kernel) ?_
  refine s_putR C w_2_113 (by decide +kernel) rfl (Or.inr ⟨rfl, rfl, rfl⟩) ?_
  refine s_aload_n (k := 0) C (by decide +kernel) ?_
  refine s_new C rfl w_1_38 w_1_39 w_1_3 (by decide +kernel) ?_
  refine s_dup C (by decide +kernel) ?_
  refine s_callI C (by decide +kernel) ⟨rfl, rfl⟩ w_1_40 w_1_41 w_1_3 w_1_42 (by decide +kernel) ?_
  refine s_putR C w_2_117 (by decide +kernel) rfl (Or.inr ⟨rfl, rfl, rfl⟩) ?_
  refine s_aload_n (k := 0) C (by decide +kernel) ?_
  refine s_bipush (n := 121) C (by decide +kernel) (by decide) ?_
  refine s_newa (aty := .int) C rfl w_1_117 (fun _ _ h => h) (by decide +kernel) ?_
  refine s_putR C w_2_121 (by decide +kernel) rfl (Or.inr ⟨rfl, rfl, rfl⟩) ?_
  refine s_aload_n (k := 0) C (by decide +kernel) ?_
  refine s_sipush (n := 201) C (by decide +kernel) (by decide) ?_
  refine s_newa (aty := .int) C rfl w_1_117 (fun _ _ h => h) (by decide +kernel) ?_
  refine s_putR C w_2_124 (by decide +kernel) rfl (Or.inr ⟨rfl, rfl, rfl⟩) ?_
  refine s_iconst (n := 0) C (by decide +kernel) (by decide) ?_
  refine s_istore_n (k := 1) C (by decide +kernel) ?_
  exact (fun _ _ _ _ _ _ h => h)
theorem ms_X10_init {Z : Zt} {d : Nat} {S : Sh} {μ : Mi} {ρ : Mr} {Rp : RT} (a0 : Nat) (h : ∀ G : Nat → PT, (∀ (L st : List Value) (S : Sh) (q : Nat × Nat) (μ : Mi) (ρ : Mr), w_X10_init_42 (MS Z (d + 4)) G Rp L st S q μ ρ → G 42 L st S q μ ρ) → w_X10_init_0 (MS Z (d + 4)) G Rp [.ref a0, .null] [] S (0, 0) μ ρ) : MS Z (d + 5) jX10_init [.ref a0] S μ ρ Rp :=
  MS_of [.ref a0, .null] (by decide +kernel) rfl rfl (Nat.le_of_ble_eq_true rfl) rfl (fun p e R s m args below meth c C => b_X10_init_0 C _ _ _ _ _ _ (h _ (b_X10_init_42 C)))
def WK (a i : Nat) (S : Sh) (μ : Mi) (ρ : Mr) : Prop := (S.2 (a + 1) = (37, 5) ∧ S.2 (a + 2) = (1, 6) ∧ S.2 (a + 128) = (20, 121) ∧ S.2 (a + 129) = (20, 201)) ∧ MlK (a + 2) 61 S ρ ∧ (ρ a 0 = a + 1 ∧ ρ a 1 = a + 2 ∧ ρ a 2 = a + 128 ∧ ρ a 3 = a + 129) ∧
  ∀ s, s < i → S.2 (a + 130 + 8 * s) = (7, 18) ∧ StS S ρ (a + 130 + 8 * s) ∧ ρ (a + 1) s = a + 130 + 8 * s ∧ μ (a + 130 + 8 * s) 0 = nI s
theorem MlK_lo {a : Nat} {S S' : Sh} {ρ ρ' : Mr} (h : MlK a 61 S ρ) (hS : ∀ y, a ≤ y → y < a + 126 → S'.2 y = S.2 y) (hρ : ∀ y, a ≤ y → y < a + 126 → ρ' y = ρ y) : MlK a 61 S' ρ' := by
  obtain ⟨k1, k2, k3, k4, k5⟩ := h
  refine ⟨(hS _ (by omega) (by omega)).trans k1, fun k hk => ?_, fun j hj => ?_, ?_, ?_⟩
  · obtain ⟨x1, x2, x3⟩ := k2 k hk
    exact ⟨(hS _ (by omega) (by omega)).trans x1, (hS _ (by omega) (by omega)).trans x2, by rw [hρ _ (by omega) (by omega)]; exact x3⟩
  · rw [hρ _ (by omega) (by omega)]; exact k3 j hj
  · rw [hρ _ (by omega) (by omega)]; exact k4
  · rw [hρ _ (by omega) (by omega)]; exact k5
theorem StS_lo {x : Nat} {S S' : Sh} {ρ ρ' : Mr} (h : StS S ρ x) (hS : ∀ y, x ≤ y → y < x + 8 → S'.2 y = S.2 y) (hρ : ∀ y, x ≤ y → y < x + 8 → ρ' y = ρ y) : StS S' ρ' x := by
  unfold StS at *
  rw [hρ x (by omega) (by omega), hρ (x + 5) (by omega) (by omega), hS (x + 1) (by omega) (by omega), hS (x + 2) (by omega) (by omega), hS (x + 3) (by omega) (by omega), hS (x + 4) (by omega) (by omega), hS (x + 5) (by omega) (by omega), hS (x + 6) (by omega) (by omega), hS (x + 7) (by omega) (by omega)]
  exact h
theorem WK_OK {a : Nat} {S : Sh} {μ : Mi} {ρ : Mr} (ha : 1 ≤ a) (h0 : S.2 a = (10, 6)) (h : WK a 5 S μ ρ) : WOK a S ρ ∧ WI a μ := by
  obtain ⟨⟨h1, h2, h3, h4⟩, ⟨k1, k2, k3, k4, k5⟩, ⟨r0, r1, r2, r3⟩, hs⟩ := h
  refine ⟨⟨ha, ⟨h0, h1, h2, k1, h3, h4⟩, fun i hi => ?_, fun s s5 => ⟨(hs s s5).1, (hs s s5).2.1, (hs s s5).2.2.1⟩, ⟨r0, r1, r2, r3, k4, k5⟩, fun i hi => ⟨i, hi, ?_⟩, fun i j hi hj e => ?_⟩, fun s s5 => (hs s s5).2.2.2⟩
  · exact k2 i (by omega)
  · exact k3 i (by omega)
  · have e1 := k3 i (by omega)
    have e2 := k3 j (by omega)
    have e' : ρ (a + 2 + 1) i = ρ (a + 2 + 1) j := e
    rw [e1, e2] at e'
    omega
section Mk2
variable {Z : Zt} {d : Nat} {S : Sh} {μ : Mi} {ρ : Mr} {Rp : RT}
set_option maxHeartbeats 1000000 in
theorem f_X10_init {a : Nat} (ha : 1 ≤ a) (h1 : S.1 = a + 1) (hS : S.2 a = (10, 6)) (h : ∀ S' μ' ρ' A, Grw 169 a S μ ρ S' μ' ρ' → RR (qInit A 31) a S' μ' ρ' → Rp none S' μ' ρ') : MS Z (d + 5) jX10_init [.ref a] S μ ρ Rp := by
  refine ms_X10_init _ (fun G g42 => ?_)
  have loop : ∀ (m i : Nat) (S' : Sh) (μ' : Mi) (ρ' : Mr), m + i = 5 → Grw (129 + 8 * i) a S μ ρ S' μ' ρ' → WK a i S' μ' ρ' → G 42 [.ref a, .int (nI i)] [] S' (129 + 8 * i, 1386 + 166 * i) μ' ρ' := by
    intro m
    induction m with
    | zero =>
      intro i S' μ' ρ' hm g k
      obtain rfl : i = 5 := by omega
      obtain ⟨g1, g2, g3, g4⟩ := g
      have sa : S'.2 a = (10, 6) := (g2 a (by omega)).trans hS
      obtain ⟨w1, w2⟩ := WK_OK ha sa k
      apply g42
      simp only [w_X10_init_42, w_X10_init_67, tAload, tIload, nth, tGetI, tGetR, tConst, tLconst, tBin, tUn, tI2l, tAld, tAldR, tAlen, tIast, tBast, tZast, tAast, tIret, tZret, tVret, tAret, tIf, tIf2, tGoto, tIstore, tAstore, sset, tIinc, tDup, tDup2, tPop, tPutI, tPutZ, tPutR, tCallV, tCallS, popN, tFn, tCopy, tMax, tMin, tSw, swc, tRem, tObjI, Option.toList, List.nil_append, List.cons_append, okR, true_and, and_true, true_or, or_true, Nat.zero_le, ne_eq, not_false_eq_true, Nat.reduceEqDiff, F_X10_renew, sa]
      exact ⟨fun _ => ⟨w1, w2, ⟨by decide, by decide⟩, fun A μ2 r o => h S' μ2 ρ' A ⟨g1, g2, fun y hy hya => by rw [o y (by omega)]; exact g3 y hy hya, g4⟩ r⟩, fun c => absurd (by decide) c⟩
    | succ m ih =>
      intro i S' μ' ρ' hm g k
      obtain ⟨g1, g2, g3, g4⟩ := g
      obtain ⟨⟨k1, k2, k3, k4⟩, kM, ⟨r0, r1, r2, r3⟩, ks⟩ := k
      have sa : S'.2 a = (10, 6) := (g2 a (by omega)).trans hS
      apply g42
      simp only [w_X10_init_42, tAload, tIload, nth, tGetI, tGetR, tConst, tLconst, tBin, tUn, tI2l, tAld, tAldR, tAlen, tIast, tBast, tZast, tAast, tIret, tZret, tVret, tAret, tIf, tIf2, tGoto, tIstore, tAstore, sset, tIinc, tDup, tDup2, tPop, tPutI, tPutZ, tPutR, tCallV, tCallS, popN, tFn, tCopy, tMax, tMin, tSw, swc, tRem, tObjI, Option.toList, List.nil_append, List.cons_append, okR, true_and, and_true, true_or, or_true, Nat.zero_le, ne_eq, not_false_eq_true, Nat.reduceEqDiff, tNew, tNewa, tAnew, tCallI, sa, r0]
      refine ⟨fun c => absurd c (by rw [show (5 : Int32) = nI 5 from rfl, nI_leI (by decide) (by omega)]; omega), fun _ => ⟨by omega, by omega, ?_, ?_, ?_⟩⟩
      · show 129 + 8 * i + 1 + 7 ≤ 169
        omega
      · show 1386 + 166 * i + 18 + 148 ≤ 2216
        omega
      refine f_X7_init rfl upK_at (fun S2 μ2 ρ2 gg e1 e2 => ?_)
      obtain ⟨t1, t2, t3, t4⟩ := gg
      dsimp only at t1 t2 t3 t4
      have lo : ∀ y, y < S'.1 → S2.2 y = S'.2 y := fun y hy => by rw [t2 y (by omega), upK_ne (by omega)]
      have sm : S2.2 S'.1 = (7, 18) := by rw [t2 _ (by omega)]; exact upK_at
      have rlo : ∀ y, y < S'.1 → ρ2 y = ρ' y := fun y hy => by rw [t4 y (by omega) (by omega), upFr_ne (by omega)]
      have mlo : ∀ y, y < S'.1 → μ2 y = μ' y := fun y hy => by rw [t3 y (by omega) (by omega), upF_ne (by omega)]
      have b1 : S2.2 (a + 1) = (37, 5) := (lo _ (by omega)).trans k1
      have ro : ∀ y, y ≠ a + 1 → y < S'.1 → upR ρ2 (a + 1) i S'.1 y = ρ' y := fun y y1 y2 => by rw [upR_ne y1]; exact rlo y y2
      simp only [tAload, tIload, nth, tGetI, tGetR, tConst, tLconst, tBin, tUn, tI2l, tAld, tAldR, tAlen, tIast, tBast, tZast, tAast, tIret, tZret, tVret, tAret, tIf, tIf2, tGoto, tIstore, tAstore, sset, tIinc, tDup, tDup2, tPop, tPutI, tPutZ, tPutR, tCallV, tCallS, popN, tFn, tCopy, tMax, tMin, tSw, swc, tRem, tObjI, Option.toList, List.nil_append, List.cons_append, okR, true_and, and_true, true_or, or_true, Nat.zero_le, ne_eq, not_false_eq_true, Nat.reduceEqDiff, tAast, b1, sm, nI_clamp (show i < 2 ^ 31 by omega), nI_s1]
      refine ⟨inb_nI (by omega) (by decide), ?_⟩
      have := ih (i + 1) S2 μ2 (upR ρ2 (a + 1) i S'.1) (by omega) ⟨by omega, fun y hy => by rw [lo y (by omega)]; exact g2 y hy, fun y hy hya => by rw [mlo y (by omega)]; exact g3 y hy hya, fun y hy hya => by rw [ro y (by omega) (by omega)]; exact g4 y hy hya⟩
        ⟨⟨b1, (lo _ (by omega)).trans k2, (lo _ (by omega)).trans k3, (lo _ (by omega)).trans k4⟩, MlK_lo kM (fun y y1 y2 => lo y (by omega)) (fun y y1 y2 => ro y (by omega) (by omega)), by rw [ro a (by omega) (by omega)]; exact ⟨r0, r1, r2, r3⟩, fun s hs => ?_⟩
      · rw [show (129 + 8 * (i + 1), 1386 + 166 * (i + 1)) = (129 + 8 * i + 1 + 7, 1386 + 166 * i + 18 + 148) from Prod.ext (by show 129 + 8 * (i + 1) = 129 + 8 * i + 1 + 7; omega) (by show 1386 + 166 * (i + 1) = 1386 + 166 * i + 18 + 148; omega)] at this
        exact this
      · by_cases c : s = i
        · subst c
          rw [show a + 130 + 8 * s = S'.1 by omega]
          exact ⟨sm, StS_lo e1 (fun y y1 y2 => rfl) (fun y y1 y2 => upR_ne (by omega)), by rw [upR_at], e2⟩
        · obtain ⟨x1, x2, x3, x4⟩ := ks s (by omega)
          refine ⟨(lo _ (by omega)).trans x1, StS_lo x2 (fun y y1 y2 => lo y (by omega)) (fun y y1 y2 => ro y (by omega) (by omega)), ?_, ?_⟩
          · rw [upR_k c, rlo _ (by omega)]; exact x3
          · rw [mlo _ (by omega)]; exact x4
  simp only [w_X10_init_0, tAload, tIload, nth, tGetI, tGetR, tConst, tLconst, tBin, tUn, tI2l, tAld, tAldR, tAlen, tIast, tBast, tZast, tAast, tIret, tZret, tVret, tAret, tIf, tIf2, tGoto, tIstore, tAstore, sset, tIinc, tDup, tDup2, tPop, tPutI, tPutZ, tPutR, tCallV, tCallS, popN, tFn, tCopy, tMax, tMin, tSw, swc, tRem, tObjI, Option.toList, List.nil_append, List.cons_append, okR, true_and, and_true, true_or, or_true, Nat.zero_le, ne_eq, not_false_eq_true, Nat.reduceEqDiff, tNew, tNewa, tAnew, tCallI, show Int32.toNatClampNeg 5 = 5 from by decide, show Int32.toNatClampNeg 121 = 121 from by decide, show Int32.toNatClampNeg 201 = 201 from by decide]
  refine ⟨by decide, by decide, by decide, by decide, by rw [upK_ne (by omega)]; exact hS, nzA (by omega), by decide, by decide, by decide, by decide, ?_⟩
  refine f_X1_init rfl upK_at (fun S' μ' ρ' gg kM => ?_)
  obtain ⟨t1, t2, t3, t4⟩ := gg
  dsimp only at t1 t2 t3 t4
  have lo : ∀ y, y < S.1 → S'.2 y = S.2 y := fun y hy => by rw [t2 y (by omega), upK_ne (by omega), upK_ne (by omega)]
  have sa : S'.2 a = (10, 6) := (lo a (by omega)).trans hS
  have s1 : S'.2 (a + 1) = (37, 5) := by rw [← h1, t2 _ (by omega), upK_ne (by omega)]; exact upK_at
  have s2 : S'.2 (a + 2) = (1, 6) := by rw [show a + 2 = S.1 + 1 by omega, t2 _ (by omega)]; exact upK_at
  have r0 : ρ' a 0 = a + 1 := by rw [t4 a (by omega) (by omega), upFr_ne (by omega), upR_at]; exact h1
  have rlo : ∀ y, y < S.1 → y ≠ a → ρ' y = ρ y := fun y hy hya => by rw [t4 y (by omega) (by omega), upFr_ne (by omega), upR_ne hya, upFr_ne (by omega)]
  simp only [tAload, tIload, nth, tGetI, tGetR, tConst, tLconst, tBin, tUn, tI2l, tAld, tAldR, tAlen, tIast, tBast, tZast, tAast, tIret, tZret, tVret, tAret, tIf, tIf2, tGoto, tIstore, tAstore, sset, tIinc, tDup, tDup2, tPop, tPutI, tPutZ, tPutR, tCallV, tCallS, popN, tFn, tCopy, tMax, tMin, tSw, swc, tRem, tObjI, Option.toList, List.nil_append, List.cons_append, okR, true_and, and_true, true_or, or_true, Nat.zero_le, ne_eq, not_false_eq_true, Nat.reduceEqDiff]
  refine ⟨sa, by decide, by decide, by decide, by decide, by rw [upK_ne (by omega)]; exact sa, nzA (by omega), by decide, by decide, by decide, by decide, by rw [upK_ne (by omega), upK_ne (by omega)]; exact sa, ?_⟩
  have kl : ∀ y, y < S'.1 → upK (upK S'.2 S'.1 (20, 121)) (S'.1 + 1) (20, 201) y = S'.2 y := fun y hy => by rw [upK_ne (by omega), upK_ne (by omega)]
  have rl : ∀ y, y < S'.1 → y ≠ a → upR (upF (upR (upF (upR ρ' a 1 (S.1 + 1)) S'.1 fun x => 0) a 2 S'.1) (S'.1 + 1) fun x => 0) a 3 (S'.1 + 1) y = ρ' y := fun y hy hya => by rw [upR_ne hya, upFr_ne (by omega), upR_ne hya, upFr_ne (by omega), upR_ne hya]
  have := loop 5 0 (S'.1 + 1 + 1, upK (upK S'.2 S'.1 (20, 121)) (S'.1 + 1) (20, 201)) (upF (upF μ' S'.1 fun x => 0) (S'.1 + 1) fun x => 0) (upR (upF (upR (upF (upR ρ' a 1 (S.1 + 1)) S'.1 fun x => 0) a 2 S'.1) (S'.1 + 1) fun x => 0) a 3 (S'.1 + 1)) (by omega)
    ⟨by show S'.1 + 1 + 1 = _; omega, fun y hy => (kl y (by omega)).trans (lo y hy), fun y hy hya => by rw [upF_ne (by omega), upF_ne (by omega), t3 y (by omega) (by omega), upF_ne (by omega), upF_ne (by omega)], fun y hy hya => (rl y (by omega) hya).trans (rlo y hy hya)⟩
    ⟨⟨(kl _ (by omega)).trans s1, (kl _ (by omega)).trans s2, ?_, ?_⟩, MlK_lo (by rw [show a + 2 = S.1 + 1 by omega]; exact kM) (fun y y1 y2 => kl y (by omega)) (fun y y1 y2 => rl y (by omega) (by omega)), ⟨?_, ?_, ?_, ?_⟩, fun s hs => by omega⟩
  · exact this
  · show upK (upK S'.2 S'.1 (20, 121)) (S'.1 + 1) (20, 201) (a + 128) = _
    rw [show a + 128 = S'.1 by omega, upK_ne (by omega)]; exact upK_at
  · show upK (upK S'.2 S'.1 (20, 121)) (S'.1 + 1) (20, 201) (a + 129) = _
    rw [show a + 129 = S'.1 + 1 by omega]; exact upK_at
  · rw [upR_k (by omega), upFr_ne (by omega), upR_k (by omega), upFr_ne (by omega), upR_k (by omega)]; exact r0
  · rw [upR_k (by omega), upFr_ne (by omega), upR_k (by omega), upFr_ne (by omega), upR_at]; omega
  · rw [upR_k (by omega), upFr_ne (by omega), upR_at]; omega
  · rw [upR_at]; omega
end Mk2
