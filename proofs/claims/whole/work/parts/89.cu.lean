/-! ===== the class: a leader, both sets are left ===== -/
theorem Nx_other {A A' : Rw} {w s : Nat} {μ μ' : Mi} (hs : s < 5) (h : Nx A w μ) (hr : ¬ A' (514 * s + 3) = 2) (hA : ∀ i, (i < 514 * s ∨ 514 * s + 514 ≤ i) → A' i = A i) (hμ : ∀ y, (y < w + 130 + 8 * s ∨ w + 130 + 8 * s + 8 ≤ y) → μ' y = μ y) : Nx A' w μ' := by
  intro t ht hrt u hu
  by_cases c : t = s
  · subst c; exact absurd hrt hr
  · rw [hA _ (by omega)] at hrt
    rw [hμ _ (by omega), hμ _ (by omega), hA _ (by omega), hA _ (by omega)]
    exact h t ht hrt u hu
theorem RR_bec {A : Rw} {w s : Nat} {S : Sh} {μ : Mi} {ρ : Mr} {o : Int32} (hs : s < 5) (h : RR A w S μ ρ) (ho : ¬ o = 2) : RR (qPlays A s o) w S (cBec μ (w + 130 + 8 * s) o) ρ := by
  have h1 : ∀ i, (i < 514 * s ∨ 514 * s + 514 ≤ i) → qPlays A s o i = A i := fun i hi => qPlays_out (by omega)
  have h2 : ∀ y, (y < w + 130 + 8 * s ∨ w + 130 + 8 * s + 8 ≤ y) → cBec μ (w + 130 + 8 * s) o y = μ y := fun y hy => cBec_ne (by omega) (by omega)
  exact ⟨R0_store hs h.1 h1 h2 (St_bec hs (RR_st h hs)), Nx_other hs h.2 (by rw [qPlays_3]; exact ho) h1 h2⟩
theorem RR_put {A : Rw} {w s l : Nat} {S : Sh} {μ : Mi} {ρ : Mr} {e t kd u v : Int32} (hs : s < 5) (h : RR A w S μ ρ) (hl : A (514 * s + 4) = nI l) (hl1 : l < 120) (he : eTm e = t ∧ eKd e = kd ∧ eX e = u ∧ eY e = v) (ho : entOK e) : RR (qPut A s t kd u v) w S (cApp μ (w + 130 + 8 * s) e) ρ := by
  refine ⟨R0_store hs h.1 (fun i hi => qPut_out hl (by omega) (by omega) (by omega)) (fun y hy => cApp_ne (by omega) (by omega)) (St_put hs (RR_st h hs) hl hl1 he ho), Nx_keep h.2 (fun r i hr hi => qPut_out hl (by omega) ?_ ?_) (fun r hr => ⟨cApp_ne (by omega) (by omega), cApp_ne (by omega) (by omega)⟩)⟩
  · rcases Nat.lt_trichotomy r s with z | z | z <;> omega
  · rcases Nat.lt_trichotomy r s with z | z | z <;> omega
theorem R0_leaders {A : Rw} {w t : Nat} {S : Sh} {μ : Mi} {ρ : Mr} {v : Int32} (h : R0 A w S μ ρ) (t1 : 1 ≤ t) (t2 : t ≤ 200) : R0 (up A (4309 + t) v) w S (upI μ (w + 129) t v) ρ := by
  obtain ⟨h1, h2, h3, h4, h5⟩ := h
  have o : ∀ i, (i < 4310 ∨ 4510 ≤ i) → up A (4309 + t) v i = A i := fun i hi => up_ne (by omega)
  refine ⟨h1, fun s hs => ?_, ⟨?_, ?_, fun i hi => ?_⟩, ⟨fun q q1 q2 => ?_, fun r r1 r2 => ?_⟩, ?_⟩
  · exact St_congr hs (h2 s hs) (fun i i1 i2 => o i (by omega)) (o _ (by omega)) (fun y y1 y2 => upI_ne (by omega))
  · rw [upI_ne (by omega)]
    simp (disch := omega) only [o]
    exact h3.1
  · simp (disch := omega) only [o]
    exact h3.2.1
  · rw [o _ (by omega)] at hi
    obtain ⟨n, e1, e2, -, e3⟩ := rg_ex h3.2.1.1
    have hi' := hi
    rw [e1, nI_clamp e2] at hi'
    obtain ⟨j, j1, j2, -⟩ := WOK_box h1 (i := i) (by omega)
    refine MsR_congr (h3.2.2 i hi) (fun k hk => o _ (by omega)) (o _ (by omega)) ?_ ?_
    · exact upI_ne (by omega)
    · exact upI_ne (by omega)
  · rw [upI_ne (by omega)]
    rcases h4.1 q q1 q2 with z | z
    · exact Or.inl ⟨z.1, by rw [o _ (by omega)]; exact z.2⟩
    · exact Or.inr (enR_congr z (o _ (by omega)) (o _ (by omega)) (o _ (by omega)) (o _ (by omega)))
  · by_cases c : r = t
    · subst c; rw [upI_at, up_at]
    · rw [upI_k c, up_ne (by omega)]
      exact h4.2 r r1 r2
  · unfold Wd at *
    rw [upI_ne (by omega), o _ (by omega), o _ (by omega)]
    exact h5
theorem ent_pk {t kd x y : Int32} (ht : rg t 1 200) (hk : rg kd 0 4) (hx : rg x 0 31) (hy : rg y (-999) 999) (h4 : kd = 4 → y = 0) (h3 : kd = 3 → rg y 1 31) (h34 : (kd = 3 ∨ kd = 4) → ¬ x = 0) (h12 : (kd = 1 ∨ kd = 2) → rg x 0 3) :
    (eTm (ePk t kd x y) = t ∧ eKd (ePk t kd x y) = kd ∧ eX (ePk t kd x y) = x ∧ eY (ePk t kd x y) = y) ∧ entOK (ePk t kd x y) := by
  have a1 : rg t 0 255 := ⟨by have := ht.1; omega, by have := ht.2; omega⟩
  have a2 : rg kd 0 7 := ⟨hk.1, by have := hk.2; omega⟩
  have a3 : rg y (-32768) 32767 := ⟨by have := hy.1; omega, by have := hy.2; omega⟩
  have e1 := eTm_pk (kd := kd) (x := x) (y := y) a1
  have e2 := eKd_pk (x := x) (y := y) a1 a2
  have e3 := eX_pk (y := y) a1 a2 hx
  have e4 := eY_pk a1 a2 hx a3
  refine ⟨⟨e1, e2, e3, e4⟩, ?_⟩
  unfold entOK
  rw [e1, e2, e3, e4]
  refine ⟨fun z => ?_, hk, h4, h3, h34, h12⟩
  rw [z] at ht
  exact absurd ht.1 (by decide)
/-- a leader leaves both sets -/
def lvs (A : Rw) (s : Nat) : Prop := ¬ (qMem A s).2.1 = 0 ∧ ¬ A (514 * s + 7) < (qMem A s).2.2.2 ∧ A (514 * s + 4) < 120
def w_X10_leavesJoint_49 (M : CT) (G : Nat → PT) (Rp : RT) : PT := tAload 1 <| tAload 1 <| tGetI 7 18 2 <| tConst 4 <| tAload 1 <| tGetI 7 18 11 <| tConst 0 <| tFn 4 F_X0_of <| tFn 2 F_X7_append <| tConst 1 <| tZret Rp
def w_X10_leavesJoint_38 (M : CT) (G : Nat → PT) (Rp : RT) : PT := tAload 1 <| tGetI 7 18 7 <| tConst 120 <| tIf2 (fun x y => x < y) (w_X10_leavesJoint_49 M G Rp) <| tConst 0 <| tZret Rp
def w_X10_leavesJoint_36 (M : CT) (G : Nat → PT) (Rp : RT) : PT := tConst 0 <| tZret Rp
def w_X10_leavesJoint_13 (M : CT) (G : Nat → PT) (Rp : RT) : PT := tAload 1 <| tGetI 7 18 11 <| tIf (fun x => x ≠ 0) (w_X10_leavesJoint_38 M G Rp) <| tAload 1 <| tAload 1 <| tGetI 7 18 0 <| tFn 2 F_X7_isMember <| tIf (fun x => x ≠ 0) (w_X10_leavesJoint_36 M G Rp) <| tAload 1 <| tConst 0 <| tFn 2 F_X7_becomes <| w_X10_leavesJoint_36 M G Rp
def w_X10_leavesJoint_0 (M : CT) (G : Nat → PT) (Rp : RT) : PT := tAload 1 <| tGetI 7 18 9 <| tAload 1 <| tGetI 7 18 8 <| tIf2 (fun x y => x ≤ y) (w_X10_leavesJoint_13 M G Rp) <| tConst 0 <| tZret Rp
set_option maxRecDepth 20000 in
theorem b_X10_leavesJoint_49 {Z : Zt} {d : Nat} {p : Program} {e : Env} {R : Room} {s : State} {m : MethodId} {args : Array Value} {below : List Frame} {meth : Method} {c : Code} {Rp : RT} (C : Cx Z (d + 2) jX10_leavesJoint RX10 p R s m args meth c) : Sd Z jX10_leavesJoint p e R s m args below meth c (MQ below (QcS Z Rp) args s 0 0 (fun a => Z.2.2.1 < a)) 49 (w_X10_leavesJoint_49 (MS Z (d + 2)) (Gw Z 2 p e R s m args below meth c (MQ below (QcS Z Rp) args s 0 0 (fun a => Z.2.2.1 < a))) Rp) := by
  unfold w_X10_leavesJoint_49
  refine s_aload_n (k := 1) C (by decide +kernel) ?_
  refine s_aload_n (k := 1) C (by decide +kernel) ?_
  refine s_getI C w_1_227 (by decide +kernel) rfl ?_
  refine s_iconst (n := 4) C (by decide +kernel) (by decide) ?_
  refine s_aload_n (k := 1) C (by decide +kernel) ?_
  refine s_getI C w_2_19 (by decide +kernel) rfl ?_
  refine s_iconst (n := 0) C (by decide +kernel) (by decide) ?_
  refine s_fnS C (j2 := jX0_of) (by decide +kernel) rfl w_3_151 w_3_152 w_1_9 w_3_153 (by decide +kernel) (fun _ _ _ _ _ h => f_X0_of h) ?_
  refine s_fnV C (j2 := jX7_append) (cl := 7) (nf := 18) rfl rfl (by decide +kernel) rfl w_3_154 w_3_155 w_3_156 w_1_5 w_3_157 (by decide +kernel) (fun _ _ _ _ _ h => f_X7_append h) (fun _ _ _ _ _ h => r_X7_append h) ?_
  refine s_iconst (n := 1) C (by decide +kernel) (by decide) ?_
  exact s_zret C rfl (by decide +kernel)
set_option maxRecDepth 20000 in
theorem b_X10_leavesJoint_38 {Z : Zt} {d : Nat} {p : Program} {e : Env} {R : Room} {s : State} {m : MethodId} {args : Array Value} {below : List Frame} {meth : Method} {c : Code} {Rp : RT} (C : Cx Z (d + 2) jX10_leavesJoint RX10 p R s m args meth c) : Sd Z jX10_leavesJoint p e R s m args below meth c (MQ below (QcS Z Rp) args s 0 0 (fun a => Z.2.2.1 < a)) 38 (w_X10_leavesJoint_38 (MS Z (d + 2)) (Gw Z 2 p e R s m args below meth c (MQ below (QcS Z Rp) args s 0 0 (fun a => Z.2.2.1 < a))) Rp) := by
  unfold w_X10_leavesJoint_38
  refine s_aload_n (k := 1) C (by decide +kernel) ?_
  refine s_getI C w_2_5 (by decide +kernel) rfl ?_
  refine s_bipush (n := 120) C (by decide +kernel) (by decide) ?_
  refine s_icmp_lt (off := 5) (tgt := 49) C (by decide +kernel) (by decide) (b_X10_leavesJoint_49 C) ?_
  refine s_iconst (n := 0) C (by decide +kernel) (by decide) ?_
  exact s_zret C rfl (by decide +kernel)
set_option maxRecDepth 20000 in
theorem b_X10_leavesJoint_36 {Z : Zt} {d : Nat} {p : Program} {e : Env} {R : Room} {s : State} {m : MethodId} {args : Array Value} {below : List Frame} {meth : Method} {c : Code} {Rp : RT} (C : Cx Z (d + 2) jX10_leavesJoint RX10 p R s m args meth c) : Sd Z jX10_leavesJoint p e R s m args below meth c (MQ below (QcS Z Rp) args s 0 0 (fun a => Z.2.2.1 < a)) 36 (w_X10_leavesJoint_36 (MS Z (d + 2)) (Gw Z 2 p e R s m args below meth c (MQ below (QcS Z Rp) args s 0 0 (fun a => Z.2.2.1 < a))) Rp) := by
  unfold w_X10_leavesJoint_36
  refine s_iconst (n := 0) C (by decide +kernel) (by decide) ?_
  exact s_zret C rfl (by decide +kernel)
set_option maxRecDepth 20000 in
theorem b_X10_leavesJoint_13 {Z : Zt} {d : Nat} {p : Program} {e : Env} {R : Room} {s : State} {m : MethodId} {args : Array Value} {below : List Frame} {meth : Method} {c : Code} {Rp : RT} (C : Cx Z (d + 2) jX10_leavesJoint RX10 p R s m args meth c) : Sd Z jX10_leavesJoint p e R s m args below meth c (MQ below (QcS Z Rp) args s 0 0 (fun a => Z.2.2.1 < a)) 13 (w_X10_leavesJoint_13 (MS Z (d + 2)) (Gw Z 2 p e R s m args below meth c (MQ below (QcS Z Rp) args s 0 0 (fun a => Z.2.2.1 < a))) Rp) := by
  unfold w_X10_leavesJoint_13
  refine s_aload_n (k := 1) C (by decide +kernel) ?_
  refine s_getI C w_2_19 (by decide +kernel) rfl ?_
  refine s_if_ne (off := 21) (tgt := 38) C (by decide +kernel) (by decide) (b_X10_leavesJoint_38 C) ?_
  refine s_aload_n (k := 1) C (by decide +kernel) ?_
  refine s_aload_n (k := 1) C (by decide +kernel) ?_
  refine s_getI C w_1_221 (by decide +kernel) rfl ?_
  refine s_fnV C (j2 := jX7_isMember) (cl := 7) (nf := 18) rfl rfl (by decide +kernel) rfl w_3_109 w_3_110 w_3_111 w_1_5 w_3_112 (by decide +kernel) (fun _ _ _ _ _ h => f_X7_isMember h) (fun _ _ _ _ _ h => r_X7_isMember h) ?_
  refine s_if_ne (off := 8) (tgt := 36) C (by decide +kernel) (by decide) (b_X10_leavesJoint_36 C) ?_
  refine s_aload_n (k := 1) C (by decide +kernel) ?_
  refine s_iconst (n := 0) C (by decide +kernel) (by decide) ?_
  refine s_fnV C (j2 := jX7_becomes) (cl := 7) (nf := 18) rfl rfl (by decide +kernel) rfl w_3_117 w_3_118 w_3_119 w_1_5 w_3_120 (by decide +kernel) (fun _ _ _ _ _ h => f_X7_becomes h) (fun _ _ _ _ _ h => r_X7_becomes h) ?_
  exact (b_X10_leavesJoint_36 C)
set_option maxRecDepth 20000 in
theorem b_X10_leavesJoint_0 {Z : Zt} {d : Nat} {p : Program} {e : Env} {R : Room} {s : State} {m : MethodId} {args : Array Value} {below : List Frame} {meth : Method} {c : Code} {Rp : RT} (C : Cx Z (d + 2) jX10_leavesJoint RX10 p R s m args meth c) : Sd Z jX10_leavesJoint p e R s m args below meth c (MQ below (QcS Z Rp) args s 0 0 (fun a => Z.2.2.1 < a)) 0 (w_X10_leavesJoint_0 (MS Z (d + 2)) (Gw Z 2 p e R s m args below meth c (MQ below (QcS Z Rp) args s 0 0 (fun a => Z.2.2.1 < a))) Rp) := by
  unfold w_X10_leavesJoint_0
  refine s_aload_n (k := 1) C (by decide +kernel) ?_
  refine s_getI C w_2_11 (by decide +kernel) rfl ?_
  refine s_aload_n (k := 1) C (by decide +kernel) ?_
  refine s_getI C w_2_9 (by decide +kernel) rfl ?_
  refine s_icmp_le (off := 5) (tgt := 13) C (by decide +kernel) (by decide) (b_X10_leavesJoint_13 C) ?_
  refine s_iconst (n := 0) C (by decide +kernel) (by decide) ?_
  exact s_zret C rfl (by decide +kernel)
theorem ms_X10_leavesJoint {Z : Zt} {d : Nat} {S : Sh} {μ : Mi} {ρ : Mr} {Rp : RT} (a0 : Nat) (a1 : Nat) (h : ∀ G : Nat → PT, w_X10_leavesJoint_0 (MS Z (d + 2)) G Rp [.ref a0, .ref a1] [] S (0, 0) μ ρ) : MS Z (d + 3) jX10_leavesJoint [.ref a0, .ref a1] S μ ρ Rp :=
  MS_of [.ref a0, .ref a1] (by decide +kernel) rfl rfl (Nat.le_of_ble_eq_true rfl) rfl (fun p e R s m args below meth c C => b_X10_leavesJoint_0 C _ _ _ _ _ _ (h _ ))
def F_X10_leavesJoint : FT := fun As S μ ρ k => match As with
  | [.ref a, .ref x] => S.2 a = (10, 6) ∧ ∃ (s : Nat) (A : Rw), s < 5 ∧ x = a + 130 + 8 * s ∧ RR A a S μ ρ ∧ rg (A (514 * s + 1)) 1 200 ∧ (lvs A s → ∀ μ', RR (qPut A s (A (514 * s + 1)) 4 (qMem A s).2.1 0) a S μ' ρ → Ot a μ μ' → k (some (.int 1)) μ') ∧ (¬ lvs A s → ∀ μ', RR (qFin A s) a S μ' ρ → Ot a μ μ' → k (some (.int 0)) μ')
  | _ => False
theorem r_X10_leavesJoint {As S μ ρ k} (h : F_X10_leavesJoint As S μ ρ k) : ∃ a As', As = Value.ref a :: As' ∧ S.2 a = (10, 6) := by
  unfold F_X10_leavesJoint at h
  split at h
  · exact ⟨_, _, rfl, h.1⟩
  · exact h.elim
set_option maxHeartbeats 1000000 in
theorem f_X10_leavesJoint {Z : Zt} {d : Nat} {As : List Value} {S : Sh} {μ : Mi} {ρ : Mr} {Rp : RT} (h : F_X10_leavesJoint As S μ ρ (fun r μ' => Rp r S μ' ρ)) : MS Z (d + 3) jX10_leavesJoint As S μ ρ Rp := by
  unfold F_X10_leavesJoint at h
  split at h
  · rename_i a x
    obtain ⟨a, hNa⟩ : ∃ n : Nat, n = a := ⟨a, rfl⟩
    subst hNa
    obtain ⟨h1, s, A, hs, rfl, hR, htm, hy, hn⟩ := h
    refine ms_X10_leavesJoint _ _ (fun G => ?_)
    have hW := RR_W hR
    obtain ⟨x1, x2, -⟩ := W_st hW hs
    have hSt := RR_st hR hs
    have hA := hSt.1
    unfold StA at hA
    have hmem := St_mem hSt
    rw [hSt.2.2.2.2.2.1, hSt.2.2.2.2.2.2] at hmem
    simp only [w_X10_leavesJoint_0, w_X10_leavesJoint_13, w_X10_leavesJoint_36, w_X10_leavesJoint_38, w_X10_leavesJoint_49, tAload, tIload, nth, tGetI, tGetR, tConst, tLconst, tBin, tUn, tI2l, tAld, tAldR, tAlen, tIast, tBast, tZast, tAast, tIret, tZret, tVret, tAret, tIf, tIf2, tGoto, tIstore, tAstore, sset, tIinc, tDup, tDup2, tPop, tPutI, tPutZ, tPutR, tCallV, tCallS, popN, tFn, tCopy, tMax, tMin, tSw, swc, tRem, tObjI, Option.toList, List.nil_append, List.cons_append, okR, true_and, and_true, true_or, or_true, Nat.zero_le, ne_eq, not_false_eq_true, Nat.reduceEqDiff, F_X7_isMember, F_X0_of, F_X7_append, F_X7_becomes, b2_z, x1, x2, hA, hSt.2.2.2.2.1, hSt.2.2.2.2.2.1, hSt.2.2.2.2.2.2, hSt.2.1.2.1, Decidable.not_not]
    obtain ⟨l, l1, l2, -, l3⟩ := rg_ex hSt.2.1.2.1
    refine ⟨fun c => ⟨fun c2 => ⟨fun c3 => ?_, fun c3 => ?_⟩, fun c2 => ⟨fun c3 => ?_, fun c3 => ?_⟩⟩, fun c => ?_⟩
    · have hl : l < 120 := by
        rw [l1, show (120 : Int32) = nI 120 from rfl, nI_ltI l2 (by decide)] at c3
        exact c3
      have pk := ent_pk (t := A (514 * s + 1)) (kd := 4) (x := (qMem A s).2.1) (y := 0) htm ⟨by decide, by decide⟩ hmem.2.1 ⟨by decide, by decide⟩ (fun _ => rfl) (fun z => absurd z (by decide)) (fun _ => c2) (fun z => absurd z (by decide))
      exact hy ⟨c2, Int32.not_lt.mpr c, c3⟩ _ (RR_put hs hR l1 hl pk.1 pk.2) (fun y hy => cApp_ne (by omega) (by omega))
    · refine hn (fun z => c3 z.2.2) μ ?_ (fun _ _ => rfl)
      unfold qFin
      rw [if_neg (fun z => c2 z.1)]
      exact hR
    · refine hn (fun z => z.1 c2) μ ?_ (fun _ _ => rfl)
      unfold qFin
      rw [c2, Int32.or_zero] at c3
      rw [if_neg (fun z => z.2.2 c3)]
      exact hR
    · refine hn (fun z => z.1 c2) _ ?_ (fun y hy => cBec_ne (by omega) (by omega))
      unfold qFin
      rw [c2, Int32.or_zero] at c3
      rw [if_pos ⟨c2, Int32.not_lt.mpr c, c3⟩]
      exact RR_bec hs hR (by decide)
    · refine hn (fun z => z.2.1 (Int32.not_le.mp c)) μ ?_ (fun _ _ => rfl)
      unfold qFin
      rw [if_neg (fun z => z.2.1 (Int32.not_le.mp c))]
      exact hR
  · exact h.elim
def cNx (μ : Mi) (x t : Nat) (v : Int32) : Mi := upF (upF μ (x + 3) (fun i => if i < t then v else μ (x + 3) i)) (x + 4) (fun i => if i < t then 0 else μ (x + 4) i)
theorem cNx_s {μ : Mi} {x t : Nat} {v : Int32} : upI (upI (cNx μ x t v) (x + 3) t v) (x + 4) t 0 = cNx μ x (t + 1) v := by
  funext b i
  unfold cNx upI upF
  by_cases h3 : b = x + 3
  · subst h3
    simp only [if_true, if_neg (show ¬ x + 3 = x + 4 by omega)]
    by_cases z : i = t
    · simp [z]
    · simp only [if_neg z, show (i < t + 1) ↔ (i < t) by omega]
  · by_cases h4 : b = x + 4
    · subst h4
      simp only [if_true, if_neg h3]
      by_cases z : i = t
      · simp [z]
      · simp only [if_neg z, show (i < t + 1) ↔ (i < t) by omega]
    · simp only [if_neg h3, if_neg h4]
theorem cNx_0 {μ : Mi} {x : Nat} {v : Int32} : cNx μ x 0 v = μ := by
  funext b i
  unfold cNx upF
  by_cases h4 : b = x + 4
  · subst h4; simp
  · by_cases h3 : b = x + 3
    · subst h3; simp
    · simp [h3, h4]
theorem cNx_ne {μ : Mi} {x t y : Nat} {v : Int32} (h3 : y ≠ x + 3) (h4 : y ≠ x + 4) : cNx μ x t v y = μ y := by unfold cNx; rw [upF_ne h4, upF_ne h3]
theorem qLd1_eq {A : Rw} {s t : Nat} (hs : s < 5) (ht : (qReadsNothing (qPlays A s 2) s) (514 * s + 1) = nI t) (t1 : 1 ≤ t) (t2 : t ≤ 200) : qLead1 A s = (let B := up (nx5 (qReadsNothing (qPlays A s 2) s) s ((qReadsNothing (qPlays A s 2) s) (514 * s + 4) + 1)) (4309 + t) ((qReadsNothing (qPlays A s 2) s) (4309 + t) ||| (1 : Int32) <<< (nI s &&& 31)); if B (514 * s + 4) < 120 then qPut B s (B (514 * s + 1)) 0 0 0 else B) := by
  unfold qLead1
  generalize qReadsNothing (qPlays A s 2) s = C at *
  simp only [ht, nI_clamp (show t < 2 ^ 31 by omega)]
  have e : nx5 (up C (4309 + t) (C (4309 + t) ||| 1 <<< (nI s &&& 31))) s (up C (4309 + t) (C (4309 + t) ||| 1 <<< (nI s &&& 31)) (514 * s + 4) + 1) = up (nx5 C s (C (514 * s + 4) + 1)) (4309 + t) (C (4309 + t) ||| 1 <<< (nI s &&& 31)) := by
    rw [up_ne (by omega)]
    funext i
    unfold nx5 up
    by_cases z : i = 4309 + t
    · subst z; rw [if_neg (by omega), if_neg (by omega), if_pos rfl, if_pos rfl]
    · simp only [if_neg z]
  rw [e]
theorem nx5_out {A : Rw} {s i : Nat} {v : Int32} (h : i < 514 * s + 24 ∨ 514 * s + 34 ≤ i) : nx5 A s v i = A i := by
  unfold nx5
  rw [if_neg (by omega), if_neg (by omega)]
theorem St_congr2 {A A' : Rw} {s x : Nat} {μ μ' : Mi} (hs : s < 5) (h : St A s x μ) (hA : ∀ i, (i < 514 * s + 24 ∨ 514 * s + 34 ≤ i) → 514 * s ≤ i → i < 514 * s + 514 → A' i = A i) (h4 : A' 4514 = A 4514) (hμ : ∀ y, x ≤ y → y < x + 8 → y ≠ x + 3 → y ≠ x + 4 → μ' y = μ y) : St A' s x μ' := by
  obtain ⟨h1, h2, h3, h5, h6⟩ := h
  obtain ⟨l, e1, e2, -, e3⟩ := rg_ex h2.2.1
  have hm : qMem A' s = qMem A s := by
    unfold qMem
    rw [hA _ (by omega) (by omega) (by omega), e1, nI_clamp e2]
    exact qCfg_c (hA _ (by omega) (by omega) (by omega)) (hA _ (by omega) (by omega) (by omega)) (hA _ (by omega) (by omega) (by omega)) h4 l (fun i i1 i2 => hA _ (by omega) (by omega) (by omega))
  refine ⟨?_, ?_, ⟨?_, ?_, ?_⟩, ?_, ?_⟩
  · unfold StA at *
    rw [hμ x (by omega) (by omega) (by omega) (by omega), hμ (x + 5) (by omega) (by omega) (by omega) (by omega), hμ (x + 7) (by omega) (by omega) (by omega) (by omega)]
    simp (disch := omega) only [hA]
    exact h1
  · unfold StB at *
    rw [h4]
    simp (disch := omega) only [hA]
    exact h2
  · intro i hi
    rw [hμ (x + 2) (by omega) (by omega) (by omega) (by omega), hA _ (by omega) (by omega) (by omega)]
    exact h3.1 i hi
  · intro i hi
    rw [hμ (x + 6) (by omega) (by omega) (by omega) (by omega), hA _ (by omega) (by omega) (by omega)]
    exact h3.2.1 i hi
  · rw [hμ (x + 5) (by omega) (by omega) (by omega) (by omega), h4, hA _ (by omega) (by omega) (by omega)]
    exact h3.2.2
  · intro p p1 p2
    rw [hA _ (by omega) (by omega) (by omega)] at p1 p2
    have hp : p ≤ 120 := by
      rw [e1, nI_clamp e2] at p2
      omega
    rw [hμ (x + 1) (by omega) (by omega) (by omega) (by omega)]
    exact enR_congr (h5 p p1 p2) (hA _ (by omega) (by omega) (by omega)) (hA _ (by omega) (by omega) (by omega)) (hA _ (by omega) (by omega) (by omega)) (hA _ (by omega) (by omega) (by omega))
  · unfold StQ at *
    rw [hm, hμ x (by omega) (by omega) (by omega) (by omega)]
    exact h6
def w_X10_lead_44 (M : CT) (G : Nat → PT) (Rp : RT) : PT := tAload 0 <| tGetR 10 6 3 <| tAload 1 <| tGetI 7 18 2 <| tDup2 <| tAld 20 <| tConst 1 <| tAload 1 <| tGetI 7 18 0 <| tBin (fun x y => x <<< (y &&& 31)) <| tBin (fun x y => x ||| y) <| tIast <| tAload 1 <| tAload 1 <| tGetI 7 18 2 <| tConst 0 <| tConst 0 <| tConst 0 <| tFn 4 F_X0_of <| tFn 2 F_X7_append <| tVret Rp
def w_X10_lead_14 (M : CT) (G : Nat → PT) (Rp : RT) : PT := tIload 2 <| tConst 5 <| tIf2 (fun x y => y ≤ x) (w_X10_lead_44 M G Rp) <| tAload 1 <| tGetR 7 18 14 <| tIload 2 <| tAload 1 <| tGetI 7 18 7 <| tConst 1 <| tBin (fun x y => x + y) <| tIast <| tAload 1 <| tGetR 7 18 15 <| tIload 2 <| tConst 0 <| tIast <| tIinc 2 1 <| tGoto (G 14)
def w_X10_lead_0 (M : CT) (G : Nat → PT) (Rp : RT) : PT := tAload 1 <| tConst 2 <| tFn 2 F_X7_becomes <| tAload 1 <| tGetR 7 18 17 <| tFn 1 F_X5_clear <| tConst 0 <| tIstore 2 <| G 14
set_option maxRecDepth 20000 in
theorem b_X10_lead_44 {Z : Zt} {d : Nat} {p : Program} {e : Env} {R : Room} {s : State} {m : MethodId} {args : Array Value} {below : List Frame} {meth : Method} {c : Code} {Rp : RT} (C : Cx Z (d + 2) jX10_lead RX10 p R s m args meth c) : Sd Z jX10_lead p e R s m args below meth c (MQ below (QcS Z Rp) args s 0 0 (fun a => Z.2.2.1 < a)) 44 (w_X10_lead_44 (MS Z (d + 2)) (Gw Z 3 p e R s m args below meth c (MQ below (QcS Z Rp) args s 0 0 (fun a => Z.2.2.1 < a))) Rp) := by
  unfold w_X10_lead_44
  refine s_aload_n (k := 0) C (by decide +kernel) ?_
  refine s_getR C w_2_124 (by decide +kernel) rfl ?_
  refine s_aload_n (k := 1) C (by decide +kernel) ?_
  refine s_getI C w_1_227 (by decide +kernel) rfl ?_
  refine s_dup2 C (by decide +kernel) ?_
  refine s_iald C (by decide +kernel) ?_
  refine s_iconst (n := 1) C (by decide +kernel) (by decide) ?_
  refine s_aload_n (k := 1) C (by decide +kernel) ?_
  refine s_getI C w_1_221 (by decide +kernel) rfl ?_
  refine s_ishl C (by decide +kernel) ?_
  refine s_ior C (by decide +kernel) ?_
  refine s_iast C (by decide +kernel) ?_
  refine s_aload_n (k := 1) C (by decide +kernel) ?_
  refine s_aload_n (k := 1) C (by decide +kernel) ?_
  refine s_getI C w_1_227 (by decide +kernel) rfl ?_
  refine s_iconst (n := 0) C (by decide +kernel) (by decide) ?_
  refine s_iconst (n := 0) C (by decide +kernel) (by decide) ?_
  refine s_iconst (n := 0) C (by decide +kernel) (by decide) ?_
  refine s_fnS C (j2 := jX0_of) (by decide +kernel) rfl w_3_151 w_3_152 w_1_9 w_3_153 (by decide +kernel) (fun _ _ _ _ _ h => f_X0_of h) ?_
  refine s_fnV C (j2 := jX7_append) (cl := 7) (nf := 18) rfl rfl (by decide +kernel) rfl w_3_154 w_3_155 w_3_156 w_1_5 w_3_157 (by decide +kernel) (fun _ _ _ _ _ h => f_X7_append h) (fun _ _ _ _ _ h => r_X7_append h) ?_
  exact s_vret C rfl (by decide +kernel)
set_option maxRecDepth 20000 in
theorem b_X10_lead_14 {Z : Zt} {d : Nat} {p : Program} {e : Env} {R : Room} {s : State} {m : MethodId} {args : Array Value} {below : List Frame} {meth : Method} {c : Code} {Rp : RT} (C : Cx Z (d + 2) jX10_lead RX10 p R s m args meth c) : Sd Z jX10_lead p e R s m args below meth c (MQ below (QcS Z Rp) args s 0 0 (fun a => Z.2.2.1 < a)) 14 (w_X10_lead_14 (MS Z (d + 2)) (Gw Z 3 p e R s m args below meth c (MQ below (QcS Z Rp) args s 0 0 (fun a => Z.2.2.1 < a))) Rp) := by
  unfold w_X10_lead_14
  refine s_iload_n (k := 2) C (by decide +kernel) ?_
  refine s_iconst (n := 5) C (by decide +kernel) (by decide) ?_
  refine s_icmp_ge (off := 28) (tgt := 44) C (by decide +kernel) (by decide) (b_X10_lead_44 C) ?_
  refine s_aload_n (k := 1) C (by decide +kernel) ?_
  refine s_getR C w_2_28 (by decide +kernel) rfl ?_
  refine s_iload_n (k := 2) C (by decide +kernel) ?_
  refine s_aload_n (k := 1) C (by decide +kernel) ?_
  refine s_getI C w_2_5 (by decide +kernel) rfl ?_
  refine s_iconst (n := 1) C (by decide +kernel) (by decide) ?_
  refine s_iadd C (by decide +kernel) ?_
  refine s_iast C (by decide +kernel) ?_
  refine s_aload_n (k := 1) C (by decide +kernel) ?_
  refine s_getR C w_2_30 (by decide +kernel) rfl ?_
  refine s_iload_n (k := 2) C (by decide +kernel) ?_
  refine s_iconst (n := 0) C (by decide +kernel) (by decide) ?_
  refine s_iast C (by decide +kernel) ?_
  refine s_iinc (n := 1) C (by decide +kernel) (by decide) ?_
  exact s_goto (off := (-27)) (tgt := 14) C (by decide +kernel) (by decide) (fun _ _ _ _ _ _ h => h)
set_option maxRecDepth 20000 in
theorem b_X10_lead_0 {Z : Zt} {d : Nat} {p : Program} {e : Env} {R : Room} {s : State} {m : MethodId} {args : Array Value} {below : List Frame} {meth : Method} {c : Code} {Rp : RT} (C : Cx Z (d + 2) jX10_lead RX10 p R s m args meth c) : Sd Z jX10_lead p e R s m args below meth c (MQ below (QcS Z Rp) args s 0 0 (fun a => Z.2.2.1 < a)) 0 (w_X10_lead_0 (MS Z (d + 2)) (Gw Z 3 p e R s m args below meth c (MQ below (QcS Z Rp) args s 0 0 (fun a => Z.2.2.1 < a))) Rp) := by
  unfold w_X10_lead_0
  refine s_aload_n (k := 1) C (by decide +kernel) ?_
  refine s_iconst (n := 2) C (by decide +kernel) (by decide) ?_
  refine s_fnV C (j2 := jX7_becomes) (cl := 7) (nf := 18) rfl rfl (by decide +kernel) rfl w_3_117 w_3_118 w_3_119 w_1_5 w_3_120 (by decide +kernel) (fun _ _ _ _ _ h => f_X7_becomes h) (fun _ _ _ _ _ h => r_X7_becomes h) ?_
  refine s_aload_n (k := 1) C (by decide +kernel) ?_
  refine s_getR C w_2_37 (by decide +kernel) rfl ?_
  refine s_fnV C (j2 := jX5_clear) (cl := 5) (nf := 4) rfl rfl (by decide +kernel) rfl w_3_150 w_2_91 w_2_92 w_1_7 w_2_93 (by decide +kernel) (fun _ _ _ _ _ h => f_X5_clear h) (fun _ _ _ _ _ h => r_X5_clear h) ?_
  refine s_iconst (n := 0) C (by decide +kernel) (by decide) ?_
  refine s_istore_n (k := 2) C (by decide +kernel) ?_
  exact (fun _ _ _ _ _ _ h => h)
theorem ms_X10_lead {Z : Zt} {d : Nat} {S : Sh} {μ : Mi} {ρ : Mr} {Rp : RT} (a0 : Nat) (a1 : Nat) (h : ∀ G : Nat → PT, (∀ (L st : List Value) (S : Sh) (q : Nat × Nat) (μ : Mi) (ρ : Mr), w_X10_lead_14 (MS Z (d + 2)) G Rp L st S q μ ρ → G 14 L st S q μ ρ) → w_X10_lead_0 (MS Z (d + 2)) G Rp [.ref a0, .ref a1, .null] [] S (0, 0) μ ρ) : MS Z (d + 3) jX10_lead [.ref a0, .ref a1] S μ ρ Rp :=
  MS_of [.ref a0, .ref a1, .null] (by decide +kernel) rfl rfl (Nat.le_of_ble_eq_true rfl) rfl (fun p e R s m args below meth c C => b_X10_lead_0 C _ _ _ _ _ _ (h _ (b_X10_lead_14 C)))
def F_X10_lead : FT := fun As S μ ρ k => match As with
  | [.ref a, .ref x] => S.2 a = (10, 6) ∧ ∃ (s : Nat) (A : Rw), s < 5 ∧ x = a + 130 + 8 * s ∧ RR A a S μ ρ ∧ rg (A (514 * s + 1)) 1 200 ∧ ∀ μ', RR (qLead1 A s) a S μ' ρ → Ot a μ μ' → k none μ'
  | _ => False
theorem r_X10_lead {As S μ ρ k} (h : F_X10_lead As S μ ρ k) : ∃ a As', As = Value.ref a :: As' ∧ S.2 a = (10, 6) := by
  unfold F_X10_lead at h
  split at h
  · exact ⟨_, _, rfl, h.1⟩
  · exact h.elim
set_option maxHeartbeats 1000000 in
theorem f_X10_lead {Z : Zt} {d : Nat} {As : List Value} {S : Sh} {μ : Mi} {ρ : Mr} {Rp : RT} (h : F_X10_lead As S μ ρ (fun r μ' => Rp r S μ' ρ)) : MS Z (d + 3) jX10_lead As S μ ρ Rp := by
  unfold F_X10_lead at h
  split at h
  · rename_i a x
    obtain ⟨a, hNa⟩ : ∃ n : Nat, n = a := ⟨a, rfl⟩
    subst hNa
    obtain ⟨h1, s, A, hs, rfl, hR, htm, h⟩ := h
    refine ms_X10_lead _ _ (fun G g14 => ?_)
    have hW := RR_W hR
    obtain ⟨x1, x2, -⟩ := W_st hW hs
    have x2' := x2
    unfold StS at x2
    obtain ⟨t, t0, t2, t1, t3⟩ := rg_ex htm
    have c0 : R0 (qReadsNothing (qPlays A s 2) s) a S (clr (cBec μ (a + 130 + 8 * s) 2) (a + 130 + 8 * s + 7)) ρ :=
      R0_store hs hR.1 (fun i hi => by rw [qRN_out (by omega), qPlays_out (by omega)]) (fun y hy => by rw [clr_ne (by omega), cBec_ne (by omega) (by omega)]) (St_clr hs (St_bec hs (RR_st hR hs)))
    have et : qReadsNothing (qPlays A s 2) s (514 * s + 1) = nI t := by rw [qRN_out (by omega), qPlays_out (by omega), t0]
    have er : qReadsNothing (qPlays A s 2) s (514 * s + 3) = 2 := by rw [qRN_out (by omega), qPlays_3]
    rw [qLd1_eq hs et (by omega) (by omega)] at h
    simp only [] at h
    have hν : ∀ y, (y < a + 130 + 8 * s ∨ a + 130 + 8 * s + 8 ≤ y) ∨ (y = a + 130 + 8 * s + 3 ∨ y = a + 130 + 8 * s + 4) → clr (cBec μ (a + 130 + 8 * s) 2) (a + 130 + 8 * s + 7) y = μ y := fun y hy => by rw [clr_ne (by omega), cBec_ne (by omega) (by omega)]
    have hout : ∀ i, (i < 514 * s ∨ 514 * s + 514 ≤ i) → qReadsNothing (qPlays A s 2) s i = A i := fun i hi => by rw [qRN_out (by omega), qPlays_out (by omega)]
    have hNA := hR.2
    simp only [w_X10_lead_0, tAload, tIload, nth, tGetI, tGetR, tConst, tLconst, tBin, tUn, tI2l, tAld, tAldR, tAlen, tIast, tBast, tZast, tAast, tIret, tZret, tVret, tAret, tIf, tIf2, tGoto, tIstore, tAstore, sset, tIinc, tDup, tDup2, tPop, tPutI, tPutZ, tPutR, tCallV, tCallS, popN, tFn, tCopy, tMax, tMin, tSw, swc, tRem, tObjI, Option.toList, List.nil_append, List.cons_append, okR, true_and, and_true, true_or, or_true, Nat.zero_le, ne_eq, not_false_eq_true, Nat.reduceEqDiff, F_X7_becomes, F_X5_clear, x1, x2, x2']
    generalize hC : qReadsNothing (qPlays A s 2) s = C at *
    generalize hm : clr (cBec μ (a + 130 + 8 * s) 2) (a + 130 + 8 * s + 7) = ν at *
    have hSt := c0.2.1 s hs
    have hA := hSt.1
    unfold StA at hA
    obtain ⟨l, l1, l2, -, l3⟩ := rg_ex hSt.2.1.2.1
    have e7 : ν (a + 130 + 8 * s) 7 = nI l := hA.2.2.2.2.2.2.2.1.trans l1
    have e2 : ν (a + 130 + 8 * s) 2 = nI t := hA.2.2.1.trans et
    have e0 : ν (a + 130 + 8 * s) 0 = nI s := hA.1
    have loop : ∀ (j r : Nat), j + r = 5 → G 14 [.ref a, .ref (a + 130 + 8 * s), .int (nI r)] [] S (0, 0) (cNx ν (a + 130 + 8 * s) r (nI (l + 1))) ρ := by
      intro j
      induction j with
      | zero =>
        intro r hr
        obtain rfl : r = 5 := by omega
        apply g14
        simp only [w_X10_lead_14, w_X10_lead_44, tAload, tIload, nth, tGetI, tGetR, tConst, tLconst, tBin, tUn, tI2l, tAld, tAldR, tAlen, tIast, tBast, tZast, tAast, tIret, tZret, tVret, tAret, tIf, tIf2, tGoto, tIstore, tAstore, sset, tIinc, tDup, tDup2, tPop, tPutI, tPutZ, tPutR, tCallV, tCallS, popN, tFn, tCopy, tMax, tMin, tSw, swc, tRem, tObjI, Option.toList, List.nil_append, List.cons_append, okR, true_and, and_true, true_or, or_true, Nat.zero_le, ne_eq, not_false_eq_true, Nat.reduceEqDiff, F_X0_of, F_X7_append, h1, x1, x2', hW.2.2.2.2.1, hW.2.1]
        simp (disch := omega) only [cNx_ne, upI_ne, e0, e2, e7, nI_clamp]
        refine ⟨fun _ => ⟨inb_nI (by omega) (by decide), inb_nI (by omega) (by decide), (rg_nI l2).mpr ⟨by omega, by omega⟩, ?_⟩, fun z => absurd ((nI_le5 (by decide)).mpr rfl) z⟩
        rw [l1, nI_s1] at h
        have q1 : R0 (nx5 C s (nI (l + 1))) a S (cNx ν (a + 130 + 8 * s) 5 (nI (l + 1))) ρ := by
          exact R0_store hs c0 (fun i hi => nx5_out (by omega)) (fun y hy => cNx_ne (by omega) (by omega)) (St_congr2 hs hSt (fun i i1 i2 i3 => nx5_out (by omega)) (nx5_out (by omega)) (fun y y1 y2 y3 y4 => cNx_ne (by omega) (by omega)))
        have q2 : Nx (nx5 C s (nI (l + 1))) a (cNx ν (a + 130 + 8 * s) 5 (nI (l + 1))) := by
          intro r hr hrr u hu
          by_cases z : r = s
          · subst z
            unfold cNx nx5
            rw [upF_ne (by omega), upF_same, upF_same]
            simp only [if_pos hu]
            rw [if_pos (by omega), if_neg (by omega), if_pos (by omega)]
            exact ⟨rfl, rfl⟩
          · rw [nx5_out (by omega), hout _ (by omega)] at hrr
            rw [cNx_ne (by omega) (by omega), cNx_ne (by omega) (by omega), nx5_out (by omega), nx5_out (by omega), hout _ (by omega), hout _ (by omega), hν _ (by omega), hν _ (by omega)]
            exact hNA r hr hrr u hu
        have ev : ν (a + 129) t = C (4309 + t) := c0.2.2.2.1.2 t (by omega) (by omega)
        rw [ev]
        have q3 := R0_leaders (v := C (4309 + t) ||| (1 : Int32) <<< (nI s &&& 31)) q1 (show 1 ≤ t by omega) (by omega)
        have q4 : RR (up (nx5 C s (nI (l + 1))) (4309 + t) (C (4309 + t) ||| (1 : Int32) <<< (nI s &&& 31))) a S (upI (cNx ν (a + 130 + 8 * s) 5 (nI (l + 1))) (a + 129) t (C (4309 + t) ||| (1 : Int32) <<< (nI s &&& 31))) ρ :=
          ⟨q3, Nx_keep q2 (fun r i hr hi => up_ne (by omega)) (fun r hr => ⟨upI_ne (by omega), upI_ne (by omega)⟩)⟩
        have b4 : up (nx5 C s (nI (l + 1))) (4309 + t) (C (4309 + t) ||| (1 : Int32) <<< (nI s &&& 31)) (514 * s + 4) = nI l := by rw [up_ne (by omega), nx5_out (by omega), l1]
        have b1 : up (nx5 C s (nI (l + 1))) (4309 + t) (C (4309 + t) ||| (1 : Int32) <<< (nI s &&& 31)) (514 * s + 1) = nI t := by rw [up_ne (by omega), nx5_out (by omega), et]
        have ho : Ot a μ (upI (cNx ν (a + 130 + 8 * s) 5 (nI (l + 1))) (a + 129) t (C (4309 + t) ||| (1 : Int32) <<< (nI s &&& 31))) := by
          intro y hy
          rw [upI_ne (by omega), cNx_ne (by omega) (by omega), hν _ (by omega)]
        rw [b4, b1] at h
        generalize up (nx5 C s (nI (l + 1))) (4309 + t) (C (4309 + t) ||| (1 : Int32) <<< (nI s &&& 31)) = D at *
        generalize hk : upI (cNx ν (a + 130 + 8 * s) 5 (nI (l + 1))) (a + 129) t (C (4309 + t) ||| (1 : Int32) <<< (nI s &&& 31)) = κ at *
        have k7 : κ (a + 130 + 8 * s) 7 = nI l := by rw [(q4.1.2.1 s hs).1.2.2.2.2.2.2.2.1, b4]
        by_cases c : l < 120
        · rw [if_pos (by rw [show (120 : Int32) = nI 120 from rfl, nI_ltI l2 (by decide)]; exact c)] at h
          have pk := ent_pk (t := nI t) (kd := 0) (x := 0) (y := 0) (by rw [← t0]; exact htm) ⟨by decide, by decide⟩ ⟨by decide, by decide⟩ ⟨by decide, by decide⟩ (fun z => absurd z (by decide)) (fun z => absurd z (by decide)) (fun z => absurd z (by decide)) (fun z => absurd z (by decide))
          exact h _ (RR_put hs q4 b4 c pk.1 pk.2) (fun y hy => by rw [cApp_ne (by omega) (by omega)]; exact ho y hy)
        · have c' : ¬ nI l < 120 := by rw [show (120 : Int32) = nI 120 from rfl, nI_ltI l2 (by decide)]; exact c
          rw [if_neg c'] at h
          unfold cApp
          rw [k7, if_neg c']
          exact h _ q4 ho
      | succ j ih =>
        intro r hr
        apply g14
        simp only [w_X10_lead_14, tAload, tIload, nth, tGetI, tGetR, tConst, tLconst, tBin, tUn, tI2l, tAld, tAldR, tAlen, tIast, tBast, tZast, tAast, tIret, tZret, tVret, tAret, tIf, tIf2, tGoto, tIstore, tAstore, sset, tIinc, tDup, tDup2, tPop, tPutI, tPutZ, tPutR, tCallV, tCallS, popN, tFn, tCopy, tMax, tMin, tSw, swc, tRem, tObjI, Option.toList, List.nil_append, List.cons_append, okR, true_and, and_true, true_or, or_true, Nat.zero_le, ne_eq, not_false_eq_true, Nat.reduceEqDiff, x1, x2]
        simp (disch := omega) only [cNx_ne, upI_ne, e7, nI_clamp, nI_s1]
        rw [nI_le5 (by omega), cNx_s]
        refine ⟨fun z => absurd z (by omega), fun _ => ⟨inb_nI (by omega) (by decide), inb_nI (by omega) (by decide), ih (r + 1) (by omega)⟩⟩
    have := loop 5 0 rfl
    rw [cNx_0] at this
    exact this
  · exact h.elim
