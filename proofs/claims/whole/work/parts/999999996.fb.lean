/-! ===== what is made: the paper ===== -/
def w_X3_init_49 (M : CT) (G : Nat → PT) (Rp : RT) : PT := tVret Rp
def w_X3_init_25 (M : CT) (G : Nat → PT) (Rp : RT) : PT := tIload 1 <| tConst 3 <| tIf2 (fun x y => y ≤ x) (w_X3_init_49 M G Rp) <| tAload 0 <| tGetR 3 2 0 <| tIload 1 <| tNew 10 6 681 8891 <| tDup <| tCallI M jX10_init 0 681 8891 <| tAast 10 <| tIinc 1 1 <| tGoto (G 25)
def w_X3_init_0 (M : CT) (G : Nat → PT) (Rp : RT) : PT := tAload 0 <| tObjI <| tAload 0 <| tConst 3 <| tAnew 10 681 8891 <| tPutR 3 2 0 <| tAload 0 <| tNew 10 6 681 8891 <| tDup <| tCallI M jX10_init 0 681 8891 <| tPutR 3 2 1 <| tConst 0 <| tIstore 1 <| G 25
set_option maxRecDepth 20000 in
theorem b_X3_init_49 {Z : Zt} {d : Nat} {p : Program} {e : Env} {R : Room} {s : State} {m : MethodId} {args : Array Value} {below : List Frame} {meth : Method} {c : Code} {Rp : RT} (C : Cx Z (d + 5) jX3_init RX3 p R s m args meth c) : Sd Z jX3_init p e R s m args below meth c (MQ below (QcS Z Rp) args s 681 8891 (fun a => Z.2.2.1 < a)) 49 (w_X3_init_49 (MS Z (d + 5)) (Gw Z 2 p e R s m args below meth c (MQ below (QcS Z Rp) args s 681 8891 (fun a => Z.2.2.1 < a))) Rp) := by
  unfold w_X3_init_49
  exact s_vret C rfl (by decide +kernel)
set_option maxRecDepth 20000 in
theorem b_X3_init_25 {Z : Zt} {d : Nat} {p : Program} {e : Env} {R : Room} {s : State} {m : MethodId} {args : Array Value} {below : List Frame} {meth : Method} {c : Code} {Rp : RT} (C : Cx Z (d + 5) jX3_init RX3 p R s m args meth c) : Sd Z jX3_init p e R s m args below meth c (MQ below (QcS Z Rp) args s 681 8891 (fun a => Z.2.2.1 < a)) 25 (w_X3_init_25 (MS Z (d + 5)) (Gw Z 2 p e R s m args below meth c (MQ below (QcS Z Rp) args s 681 8891 (fun a => Z.2.2.1 < a))) Rp) := by
  unfold w_X3_init_25
  refine s_iload_n (k := 1) C (by decide +kernel) ?_
  refine s_iconst (n := 3) C (by decide +kernel) (by decide) ?_
  refine s_icmp_ge (off := 22) (tgt := 49) C (by decide +kernel) (by decide) (b_X3_init_49 C) ?_
  refine s_aload_n (k := 0) C (by decide +kernel) ?_
  refine s_getR C w_2_152 (by decide +kernel) rfl ?_
  refine s_iload_n (k := 1) C (by decide +kernel) ?_
  refine s_new C rfl w_2_150 w_1_31 w_1_2 (by decide +kernel) ?_
  refine s_dup C (by decide +kernel) ?_
  refine s_callI C (by decide +kernel) ⟨rfl, rfl⟩ w_2_151 w_1_33 w_1_2 w_1_34 (by decide +kernel) ?_
  refine s_aast C rfl (by decide +kernel) ?_
  refine s_iinc (n := 1) C (by decide +kernel) (by decide) ?_
  exact s_goto (off := (-21)) (tgt := 25) C (by decide +kernel) (by decide) (fun _ _ _ _ _ _ h => h)
set_option maxRecDepth 20000 in
theorem b_X3_init_0 {Z : Zt} {d : Nat} {p : Program} {e : Env} {R : Room} {s : State} {m : MethodId} {args : Array Value} {below : List Frame} {meth : Method} {c : Code} {Rp : RT} (C : Cx Z (d + 5) jX3_init RX3 p R s m args meth c) : Sd Z jX3_init p e R s m args below meth c (MQ below (QcS Z Rp) args s 681 8891 (fun a => Z.2.2.1 < a)) 0 (w_X3_init_0 (MS Z (d + 5)) (Gw Z 2 p e R s m args below meth c (MQ below (QcS Z Rp) args s 681 8891 (fun a => Z.2.2.1 < a))) Rp) := by
  unfold w_X3_init_0
  refine s_aload_n (k := 0) C (by decide +kernel) ?_
  refine s_objI C w_2_149 w_1_28 w_1_29 (by decide +kernel) ?_
  refine s_aload_n (k := 0) C (by decide +kernel) ?_
  refine s_iconst (n := 3) C (by decide +kernel) (by decide) ?_
  refine s_anew C rfl w_2_150 w_2_143 (by decide +kernel) ?_
  refine s_putR C w_2_152 (by decide +kernel) rfl (Or.inr ⟨rfl, rfl, rfl⟩) ?_
  refine s_aload_n (k := 0) C (by decide +kernel) ?_
  refine s_new C rfl w_2_150 w_1_31 w_1_2 (by decide +kernel) ?_
  refine s_dup C (by decide +kernel) ?_
  refine s_callI C (by decide +kernel) ⟨rfl, rfl⟩ w_2_151 w_1_33 w_1_2 w_1_34 (by decide +kernel) ?_
  refine s_putR C w_2_153 (by decide +kernel) rfl (Or.inr ⟨rfl, rfl, rfl⟩) ?_
  refine s_iconst (n := 0) C (by decide +kernel) (by decide) ?_
  refine s_istore_n (k := 1) C (by decide +kernel) ?_
  exact (fun _ _ _ _ _ _ h => h)
theorem ms_X3_init {Z : Zt} {d : Nat} {S : Sh} {μ : Mi} {ρ : Mr} {Rp : RT} (a0 : Nat) (h : ∀ G : Nat → PT, (∀ (L st : List Value) (S : Sh) (q : Nat × Nat) (μ : Mi) (ρ : Mr), w_X3_init_25 (MS Z (d + 5)) G Rp L st S q μ ρ → G 25 L st S q μ ρ) → w_X3_init_0 (MS Z (d + 5)) G Rp [.ref a0, .null] [] S (0, 0) μ ρ) : MS Z (d + 6) jX3_init [.ref a0] S μ ρ Rp :=
  MS_of [.ref a0, .null] (by decide +kernel) rfl rfl (Nat.le_of_ble_eq_true rfl) rfl (fun p e R s m args below meth c C => b_X3_init_0 C _ _ _ _ _ _ (h _ (b_X3_init_25 C)))
theorem RR_blk {A : Rw} {w : Nat} {S S' : Sh} {μ μ' : Mi} {ρ ρ' : Mr} (h : RR A w S μ ρ) (hS : ∀ y, w ≤ y → y < w + 170 → S'.2 y = S.2 y) (hμ : ∀ y, w ≤ y → y < w + 170 → μ' y = μ y) (hρ : ∀ y, w ≤ y → y < w + 170 → ρ' y = ρ y) : RR A w S' μ' ρ' := by
  have h' := RR_in h hμ
  obtain ⟨⟨h1, h2, h3, h4, h5⟩, h6⟩ := h'
  have e3 := hρ (w + 3) (by omega) (by omega)
  refine ⟨⟨?_, h2, ⟨h3.1, h3.2.1, fun i hi => ?_⟩, h4, h5⟩, h6⟩
  · obtain ⟨a, ⟨s0, s1, s2, s3, s4, s5⟩, m, st, ⟨r0, r1, r2, r3, r4, r5⟩, bx⟩ := h1
    refine ⟨a, ⟨(hS _ (by omega) (by omega)).trans s0, (hS _ (by omega) (by omega)).trans s1, (hS _ (by omega) (by omega)).trans s2, (hS _ (by omega) (by omega)).trans s3, (hS _ (by omega) (by omega)).trans s4, (hS _ (by omega) (by omega)).trans s5⟩, fun i hi => ?_, fun s hs => ?_, ?_, ?_⟩
    · obtain ⟨m1, m2, m3⟩ := m i hi
      exact ⟨(hS _ (by omega) (by omega)).trans m1, (hS _ (by omega) (by omega)).trans m2, by rw [hρ _ (by omega) (by omega)]; exact m3⟩
    · obtain ⟨m1, m2, m3⟩ := st s hs
      exact ⟨(hS _ (by omega) (by omega)).trans m1, StS_lo m2 (fun y y1 y2 => hS y (by omega) (by omega)) (fun y y1 y2 => hρ y (by omega) (by omega)), by rw [hρ _ (by omega) (by omega)]; exact m3⟩
    · rw [hρ w (by omega) (by omega), hρ (w + 2) (by omega) (by omega)]
      exact ⟨r0, r1, r2, r3, r4, r5⟩
    · unfold BX at *
      rw [e3]
      exact bx
  · rw [e3]; exact h3.2.2 i hi
theorem any_blk {w : Nat} {S S' : Sh} {μ μ' : Mi} {ρ ρ' : Mr} (h : anyW w S μ ρ) (hS : ∀ y, w ≤ y → y < w + 170 → S'.2 y = S.2 y) (hμ : ∀ y, w ≤ y → y < w + 170 → μ' y = μ y) (hρ : ∀ y, w ≤ y → y < w + 170 → ρ' y = ρ y) : anyW w S' μ' ρ' := by
  obtain ⟨B, hB⟩ := h
  exact ⟨B, RR_blk hB hS hμ hρ⟩
def PpK (a i : Nat) (S : Sh) (μ : Mi) (ρ : Mr) : Prop := S.2 (a + 1) = (40, 3) ∧ (ρ a 0 = a + 1 ∧ ρ a 1 = a + 2) ∧ anyW (a + 2) S μ ρ ∧ ∀ j, j < i → anyW (a + 172 + 170 * j) S μ ρ ∧ ρ (a + 1) j = a + 172 + 170 * j
section Mk4
variable {Z : Zt} {d : Nat} {S : Sh} {μ : Mi} {ρ : Mr} {Rp : RT}
set_option maxHeartbeats 1000000 in
theorem f_X3_init {a : Nat} (ha : 1 ≤ a) (h1 : S.1 = a + 1) (hS : S.2 a = (3, 2)) (h : ∀ S' μ' ρ', Grw 681 a S μ ρ S' μ' ρ' → PpK a 3 S' μ' ρ' → Rp none S' μ' ρ') : MS Z (d + 6) jX3_init [.ref a] S μ ρ Rp := by
  refine ms_X3_init _ (fun G g25 => ?_)
  have loop : ∀ (m i : Nat) (S' : Sh) (μ' : Mi) (ρ' : Mr), m + i = 3 → Grw (171 + 170 * i) a S μ ρ S' μ' ρ' → PpK a i S' μ' ρ' → G 25 [.ref a, .int (nI i)] [] S' (171 + 170 * i, 2225 + 2222 * i) μ' ρ' := by
    intro m
    induction m with
    | zero =>
      intro i S' μ' ρ' hm g k
      obtain rfl : i = 3 := by omega
      apply g25
      simp only [w_X3_init_25, w_X3_init_49, tAload, tIload, nth, tGetI, tGetR, tConst, tLconst, tBin, tUn, tI2l, tAld, tAldR, tAlen, tIast, tBast, tZast, tAast, tIret, tZret, tVret, tAret, tIf, tIf2, tGoto, tIstore, tAstore, sset, tIinc, tDup, tDup2, tPop, tPutI, tPutZ, tPutR, tCallV, tCallS, popN, tFn, tCopy, tMax, tMin, tSw, swc, tRem, tObjI, Option.toList, List.nil_append, List.cons_append, okR, true_and, and_true, true_or, or_true, Nat.zero_le, ne_eq, not_false_eq_true, Nat.reduceEqDiff]
      exact ⟨fun _ => h S' μ' ρ' g k, fun c => absurd (by decide) c⟩
    | succ m ih =>
      intro i S' μ' ρ' hm g k
      obtain ⟨g1, g2, g3, g4⟩ := g
      obtain ⟨k1, ⟨r0, r1⟩, kw, ks⟩ := k
      have sa : S'.2 a = (3, 2) := (g2 a (by omega)).trans hS
      apply g25
      simp only [w_X3_init_25, tAload, tIload, nth, tGetI, tGetR, tConst, tLconst, tBin, tUn, tI2l, tAld, tAldR, tAlen, tIast, tBast, tZast, tAast, tIret, tZret, tVret, tAret, tIf, tIf2, tGoto, tIstore, tAstore, sset, tIinc, tDup, tDup2, tPop, tPutI, tPutZ, tPutR, tCallV, tCallS, popN, tFn, tCopy, tMax, tMin, tSw, swc, tRem, tObjI, Option.toList, List.nil_append, List.cons_append, okR, true_and, and_true, true_or, or_true, Nat.zero_le, ne_eq, not_false_eq_true, Nat.reduceEqDiff, tNew, tNewa, tAnew, tCallI, sa, r0]
      refine ⟨fun c => absurd c (by rw [show (3 : Int32) = nI 3 from rfl, nI_leI (by decide) (by omega)]; omega), fun _ => ⟨by omega, by omega, ?_, ?_, ?_⟩⟩
      · show 171 + 170 * i + 1 + 169 ≤ 681
        omega
      · show 2225 + 2222 * i + 6 + 2216 ≤ 8891
        omega
      refine f_X10_init (by omega) rfl upK_at (fun S2 μ2 ρ2 B gg e1 => ?_)
      obtain ⟨t1, t2, t3, t4⟩ := gg
      dsimp only at t1 t2 t3 t4
      have lo : ∀ y, y < S'.1 → S2.2 y = S'.2 y := fun y hy => by rw [t2 y (by omega), upK_ne (by omega)]
      have sm : S2.2 S'.1 = (10, 6) := by rw [t2 _ (by omega)]; exact upK_at
      have rlo : ∀ y, y < S'.1 → ρ2 y = ρ' y := fun y hy => by rw [t4 y (by omega) (by omega), upFr_ne (by omega)]
      have mlo : ∀ y, y < S'.1 → μ2 y = μ' y := fun y hy => by rw [t3 y (by omega) (by omega), upF_ne (by omega)]
      have b1 : S2.2 (a + 1) = (40, 3) := (lo _ (by omega)).trans k1
      have ro : ∀ y, y ≠ a + 1 → y < S'.1 → upR ρ2 (a + 1) i S'.1 y = ρ' y := fun y y1 y2 => by rw [upR_ne y1]; exact rlo y y2
      simp only [tAload, tIload, nth, tGetI, tGetR, tConst, tLconst, tBin, tUn, tI2l, tAld, tAldR, tAlen, tIast, tBast, tZast, tAast, tIret, tZret, tVret, tAret, tIf, tIf2, tGoto, tIstore, tAstore, sset, tIinc, tDup, tDup2, tPop, tPutI, tPutZ, tPutR, tCallV, tCallS, popN, tFn, tCopy, tMax, tMin, tSw, swc, tRem, tObjI, Option.toList, List.nil_append, List.cons_append, okR, true_and, and_true, true_or, or_true, Nat.zero_le, ne_eq, not_false_eq_true, Nat.reduceEqDiff, tAast, b1, sm, nI_clamp (show i < 2 ^ 31 by omega), nI_s1]
      refine ⟨inb_nI (by omega) (by decide), ?_⟩
      have := ih (i + 1) S2 μ2 (upR ρ2 (a + 1) i S'.1) (by omega) ⟨by omega, fun y hy => by rw [lo y (by omega)]; exact g2 y hy, fun y hy hya => by rw [mlo y (by omega)]; exact g3 y hy hya, fun y hy hya => by rw [ro y (by omega) (by omega)]; exact g4 y hy hya⟩
        ⟨b1, by rw [ro a (by omega) (by omega)]; exact ⟨r0, r1⟩, any_blk kw (fun y y1 y2 => lo y (by omega)) (fun y y1 y2 => mlo y (by omega)) (fun y y1 y2 => ro y (by omega) (by omega)), fun j hj => ?_⟩
      · rw [show (171 + 170 * (i + 1), 2225 + 2222 * (i + 1)) = (171 + 170 * i + 1 + 169, 2225 + 2222 * i + 6 + 2216) from Prod.ext (by show 171 + 170 * (i + 1) = 171 + 170 * i + 1 + 169; omega) (by show 2225 + 2222 * (i + 1) = 2225 + 2222 * i + 6 + 2216; omega)] at this
        exact this
      · by_cases c : j = i
        · subst c
          rw [show a + 172 + 170 * j = S'.1 by omega]
          exact ⟨⟨_, RR_blk e1 (fun y y1 y2 => rfl) (fun y y1 y2 => rfl) (fun y y1 y2 => upR_ne (by omega))⟩, by rw [upR_at]⟩
        · obtain ⟨x1, x2⟩ := ks j (by omega)
          exact ⟨any_blk x1 (fun y y1 y2 => lo y (by omega)) (fun y y1 y2 => mlo y (by omega)) (fun y y1 y2 => ro y (by omega) (by omega)), by rw [upR_k c, rlo _ (by omega)]; exact x2⟩
  simp only [w_X3_init_0, tAload, tIload, nth, tGetI, tGetR, tConst, tLconst, tBin, tUn, tI2l, tAld, tAldR, tAlen, tIast, tBast, tZast, tAast, tIret, tZret, tVret, tAret, tIf, tIf2, tGoto, tIstore, tAstore, sset, tIinc, tDup, tDup2, tPop, tPutI, tPutZ, tPutR, tCallV, tCallS, popN, tFn, tCopy, tMax, tMin, tSw, swc, tRem, tObjI, Option.toList, List.nil_append, List.cons_append, okR, true_and, and_true, true_or, or_true, Nat.zero_le, ne_eq, not_false_eq_true, Nat.reduceEqDiff, tNew, tNewa, tAnew, tCallI, show Int32.toNatClampNeg 3 = 3 from by decide]
  refine ⟨by decide, by decide, by decide, by decide, by rw [upK_ne (by omega)]; exact hS, nzA (by omega), by decide, by decide, by decide, by decide, ?_⟩
  refine f_X10_init (by omega) rfl upK_at (fun S' μ' ρ' B gg kM => ?_)
  obtain ⟨t1, t2, t3, t4⟩ := gg
  dsimp only at t1 t2 t3 t4
  have lo : ∀ y, y < S.1 → S'.2 y = S.2 y := fun y hy => by rw [t2 y (by omega), upK_ne (by omega), upK_ne (by omega)]
  have sa : S'.2 a = (3, 2) := (lo a (by omega)).trans hS
  simp only [tAload, tIload, nth, tGetI, tGetR, tConst, tLconst, tBin, tUn, tI2l, tAld, tAldR, tAlen, tIast, tBast, tZast, tAast, tIret, tZret, tVret, tAret, tIf, tIf2, tGoto, tIstore, tAstore, sset, tIinc, tDup, tDup2, tPop, tPutI, tPutZ, tPutR, tCallV, tCallS, popN, tFn, tCopy, tMax, tMin, tSw, swc, tRem, tObjI, Option.toList, List.nil_append, List.cons_append, okR, true_and, and_true, true_or, or_true, Nat.zero_le, ne_eq, not_false_eq_true, Nat.reduceEqDiff]
  refine ⟨sa, ?_⟩
  have := loop 3 0 S' μ' (upR ρ' a 1 (S.1 + 1)) (by omega)
    ⟨by omega, lo, fun y hy hya => by rw [t3 y (by omega) (by omega), upF_ne (by omega), upF_ne (by omega)], fun y hy hya => by rw [upR_ne hya, t4 y (by omega) (by omega), upFr_ne (by omega), upR_ne hya, upFr_ne (by omega)]⟩
    ⟨?_, ⟨?_, ?_⟩, ?_, fun j hj => by omega⟩
  · exact this
  · rw [← h1, t2 _ (by omega), upK_ne (by omega)]; exact upK_at
  · rw [upR_k (by omega), t4 a (by omega) (by omega), upFr_ne (by omega), upR_at]; exact h1
  · rw [upR_at]; omega
  · rw [show a + 2 = S.1 + 1 by omega]
    exact ⟨_, RR_blk kM (fun _ _ _ => rfl) (fun _ _ _ => rfl) (fun y y1 y2 => upR_ne (by omega))⟩
end Mk4
