/-! ===== the reference: asksAll, standsUp, asks ===== -/
theorem nI_nm1 {n : Nat} (h : n < 2 ^ 31) : ¬ nI n = -1 := by
  intro z
  have := congrArg Int32.toInt z
  rw [nI_toInt h, show (-1 : Int32).toInt = -1 by decide] at this
  omega
theorem as1_lo {A : Rw} {s t i : Nat} {set kd : Int32} (h : i < 2570) : as1 s set kd A t i = A i := by
  unfold as1
  split
  · exact qPost_lo h
  · rfl
theorem as1_w {A : Rw} {s t : Nat} {set kd : Int32} (h : rg (A 4510) 0 60) : rg (as1 s set kd A t 4510) 0 60 := by
  unfold as1
  split
  · exact qPost_w h
  · exact h
theorem as1_4514 {A : Rw} {s t : Nat} {set kd : Int32} (hw : rg (A 4510) 0 60) : as1 s set kd A t 4514 = A 4514 := by
  unfold as1
  split
  · exact qPost_4514 hw
  · rfl
theorem qAsksAll_lo {A : Rw} {s i : Nat} {kd : Int32} (h : i < 2570) : qAsksAll A s kd i = A i := by
  unfold qAsksAll qAsks5
  rw [as1_lo h, as1_lo h, as1_lo h, as1_lo h, as1_lo h]
theorem qAsksAll_w {A : Rw} {s : Nat} {kd : Int32} (h : rg (A 4510) 0 60) : rg (qAsksAll A s kd 4510) 0 60 := as1_w (as1_w (as1_w (as1_w (as1_w h))))
theorem qAsksAll_4514 {A : Rw} {s : Nat} {kd : Int32} (h : rg (A 4510) 0 60) : qAsksAll A s kd 4514 = A 4514 := by
  unfold qAsksAll qAsks5
  rw [as1_4514 (as1_w (as1_w (as1_w (as1_w h)))), as1_4514 (as1_w (as1_w (as1_w h))), as1_4514 (as1_w (as1_w h)), as1_4514 (as1_w h), as1_4514 h]
theorem qTermAt_lo {A B : Rw} {s : Nat} {p : Int32} (hs : s < 5) (hl : rg (A (514 * s + 4)) 0 120) (hB : ∀ i, 514 * s ≤ i → i < 514 * s + 514 → B i = A i) : qTermAt B s p = qTermAt A s p := by
  obtain ⟨l, el, el0, -, el1⟩ := rg_ex hl
  unfold qTermAt
  rw [hB (514 * s + 5) (by omega) (by omega), hB (514 * s + 6) (by omega) (by omega), hB (514 * s + 4) (by omega) (by omega)]
  split
  · rfl
  · split
    · rename_i _ hc
      rw [el, nI_toInt el0] at hc
      rw [hB _ (by omega) ?_]
      have : p.toNatClampNeg ≤ 120 := by
        show p.toInt.toNat ≤ 120
        omega
      omega
    · rfl
def w_X12_asksAll_89 (M : CT) (G : Nat → PT) (Rp : RT) : PT := tVret Rp
def w_X12_asksAll_83 (M : CT) (G : Nat → PT) (Rp : RT) : PT := tIinc 4 1 <| tGoto (G 15)
def w_X12_asksAll_41 (M : CT) (G : Nat → PT) (Rp : RT) : PT := tAload 0 <| tIload 1 <| tIload 4 <| tIload 2 <| tIload 3 <| tAload 0 <| tIload 1 <| tIload 3 <| tFn 3 F_X12_termAt <| tFn 6 F_X12_sends <| tIstore 5 <| tIload 5 <| tConst (-1) <| tIf2 (fun x y => x = y) (w_X12_asksAll_83 M G Rp) <| tIload 2 <| tConst 7 <| tIf2 (fun x y => x ≠ y) (w_X12_asksAll_83 M G Rp) <| tAload 0 <| tGetR 12 27 1 <| tIload 5 <| tConst 2 <| tBin (fun x y => x + y) <| tDup2 <| tAld 20 <| tConst 1 <| tBin (fun x y => x + y) <| tIast <| w_X12_asksAll_83 M G Rp
def w_X12_asksAll_15 (M : CT) (G : Nat → PT) (Rp : RT) : PT := tIload 4 <| tConst 5 <| tIf2 (fun x y => y ≤ x) (w_X12_asksAll_89 M G Rp) <| tAload 0 <| tGetI 12 27 8 <| tAload 0 <| tGetI 12 27 9 <| tBin (fun x y => x ||| y) <| tIload 4 <| tFn 2 F_X12_has <| tIf (fun x => x ≠ 0) (w_X12_asksAll_41 M G Rp) <| tGoto (w_X12_asksAll_83 M G Rp)
def w_X12_asksAll_0 (M : CT) (G : Nat → PT) (Rp : RT) : PT := tAload 0 <| tIload 1 <| tFn 2 F_X12_laysMembers <| tAload 0 <| tIload 1 <| tConst 4 <| tFn 3 F_X12_of <| tIstore 3 <| tConst 0 <| tIstore 4 <| G 15
set_option maxRecDepth 20000 in
theorem b_X12_asksAll_89 {Z : Zt} {d : Nat} {p : Program} {e : Env} {R : Room} {s : State} {m : MethodId} {args : Array Value} {below : List Frame} {meth : Method} {c : Code} {Rp : RT} (C : Cx Z (d + 4) jX12_asksAll RX12 p R s m args meth c) : Sd Z jX12_asksAll p e R s m args below meth c (MQ below (QcS Z Rp) args s 0 0 (fun a => Z.2.2.1 < a)) 89 (w_X12_asksAll_89 (MS Z (d + 4)) (Gw Z 6 p e R s m args below meth c (MQ below (QcS Z Rp) args s 0 0 (fun a => Z.2.2.1 < a))) Rp) := by
  unfold w_X12_asksAll_89
  exact s_vret C rfl (by decide +kernel)
set_option maxRecDepth 20000 in
theorem b_X12_asksAll_83 {Z : Zt} {d : Nat} {p : Program} {e : Env} {R : Room} {s : State} {m : MethodId} {args : Array Value} {below : List Frame} {meth : Method} {c : Code} {Rp : RT} (C : Cx Z (d + 4) jX12_asksAll RX12 p R s m args meth c) : Sd Z jX12_asksAll p e R s m args below meth c (MQ below (QcS Z Rp) args s 0 0 (fun a => Z.2.2.1 < a)) 83 (w_X12_asksAll_83 (MS Z (d + 4)) (Gw Z 6 p e R s m args below meth c (MQ below (QcS Z Rp) args s 0 0 (fun a => Z.2.2.1 < a))) Rp) := by
  unfold w_X12_asksAll_83
  refine s_iinc (n := 1) C (by decide +kernel) (by decide) ?_
  exact s_goto (off := (-71)) (tgt := 15) C (by decide +kernel) (by decide) (fun _ _ _ _ _ _ h => h)
set_option maxRecDepth 20000 in
theorem b_X12_asksAll_41 {Z : Zt} {d : Nat} {p : Program} {e : Env} {R : Room} {s : State} {m : MethodId} {args : Array Value} {below : List Frame} {meth : Method} {c : Code} {Rp : RT} (C : Cx Z (d + 4) jX12_asksAll RX12 p R s m args meth c) : Sd Z jX12_asksAll p e R s m args below meth c (MQ below (QcS Z Rp) args s 0 0 (fun a => Z.2.2.1 < a)) 41 (w_X12_asksAll_41 (MS Z (d + 4)) (Gw Z 6 p e R s m args below meth c (MQ below (QcS Z Rp) args s 0 0 (fun a => Z.2.2.1 < a))) Rp) := by
  unfold w_X12_asksAll_41
  refine s_aload_n (k := 0) C (by decide +kernel) ?_
  refine s_iload_n (k := 1) C (by decide +kernel) ?_
  refine s_iload (k := 4) C (by decide +kernel) ?_
  refine s_iload_n (k := 2) C (by decide +kernel) ?_
  refine s_iload_n (k := 3) C (by decide +kernel) ?_
  refine s_aload_n (k := 0) C (by decide +kernel) ?_
  refine s_iload_n (k := 1) C (by decide +kernel) ?_
  refine s_iload_n (k := 3) C (by decide +kernel) ?_
  refine s_fnV C (j2 := jX12_termAt) (cl := 12) (nf := 27) rfl rfl (by decide +kernel) rfl w_7_23 w_7_25 w_p4_5 w_1_13 w_7_26 (by decide +kernel) (fun _ _ _ _ _ h => f_X12_termAt h) (fun _ _ _ _ _ h => r_X12_termAt h) ?_
  refine s_fnV C (j2 := jX12_sends) (cl := 12) (nf := 27) rfl rfl (by decide +kernel) rfl w_7_27 w_7_29 w_p4_6 w_1_13 w_7_30 (by decide +kernel) (fun _ _ _ _ _ h => f_X12_sends h) (fun _ _ _ _ _ h => r_X12_sends h) ?_
  refine s_istore (k := 5) C (by decide +kernel) ?_
  refine s_iload (k := 5) C (by decide +kernel) ?_
  refine s_iconst (n := (-1)) C (by decide +kernel) (by decide) ?_
  refine s_icmp_eq (off := 22) (tgt := 83) C (by decide +kernel) (by decide) (b_X12_asksAll_83 C) ?_
  refine s_iload_n (k := 2) C (by decide +kernel) ?_
  refine s_bipush (n := 7) C (by decide +kernel) (by decide) ?_
  refine s_icmp_ne (off := 16) (tgt := 83) C (by decide +kernel) (by decide) (b_X12_asksAll_83 C) ?_
  refine s_aload_n (k := 0) C (by decide +kernel) ?_
  refine s_getR C w_6_88 (by decide +kernel) rfl ?_
  refine s_iload (k := 5) C (by decide +kernel) ?_
  refine s_iconst (n := 2) C (by decide +kernel) (by decide) ?_
  refine s_iadd C (by decide +kernel) ?_
  refine s_dup2 C (by decide +kernel) ?_
  refine s_iald C (by decide +kernel) ?_
  refine s_iconst (n := 1) C (by decide +kernel) (by decide) ?_
  refine s_iadd C (by decide +kernel) ?_
  refine s_iast C (by decide +kernel) ?_
  exact (b_X12_asksAll_83 C)
set_option maxRecDepth 20000 in
theorem b_X12_asksAll_15 {Z : Zt} {d : Nat} {p : Program} {e : Env} {R : Room} {s : State} {m : MethodId} {args : Array Value} {below : List Frame} {meth : Method} {c : Code} {Rp : RT} (C : Cx Z (d + 4) jX12_asksAll RX12 p R s m args meth c) : Sd Z jX12_asksAll p e R s m args below meth c (MQ below (QcS Z Rp) args s 0 0 (fun a => Z.2.2.1 < a)) 15 (w_X12_asksAll_15 (MS Z (d + 4)) (Gw Z 6 p e R s m args below meth c (MQ below (QcS Z Rp) args s 0 0 (fun a => Z.2.2.1 < a))) Rp) := by
  unfold w_X12_asksAll_15
  refine s_iload (k := 4) C (by decide +kernel) ?_
  refine s_iconst (n := 5) C (by decide +kernel) (by decide) ?_
  refine s_icmp_ge (off := 71) (tgt := 89) C (by decide +kernel) (by decide) (b_X12_asksAll_89 C) ?_
  refine s_aload_n (k := 0) C (by decide +kernel) ?_
  refine s_getI C w_6_95 (by decide +kernel) rfl ?_
  refine s_aload_n (k := 0) C (by decide +kernel) ?_
  refine s_getI C w_6_96 (by decide +kernel) rfl ?_
  refine s_ior C (by decide +kernel) ?_
  refine s_iload (k := 4) C (by decide +kernel) ?_
  refine s_fnS C (j2 := jX12_has) (by decide +kernel) rfl w_7_0 w_7_1 w_1_13 w_7_2 (by decide +kernel) (fun _ _ _ _ _ h => f_X12_has h) ?_
  refine s_if_ne (off := 6) (tgt := 41) C (by decide +kernel) (by decide) (b_X12_asksAll_41 C) ?_
  exact s_goto (off := 45) (tgt := 83) C (by decide +kernel) (by decide) (b_X12_asksAll_83 C)
set_option maxRecDepth 20000 in
theorem b_X12_asksAll_0 {Z : Zt} {d : Nat} {p : Program} {e : Env} {R : Room} {s : State} {m : MethodId} {args : Array Value} {below : List Frame} {meth : Method} {c : Code} {Rp : RT} (C : Cx Z (d + 4) jX12_asksAll RX12 p R s m args meth c) : Sd Z jX12_asksAll p e R s m args below meth c (MQ below (QcS Z Rp) args s 0 0 (fun a => Z.2.2.1 < a)) 0 (w_X12_asksAll_0 (MS Z (d + 4)) (Gw Z 6 p e R s m args below meth c (MQ below (QcS Z Rp) args s 0 0 (fun a => Z.2.2.1 < a))) Rp) := by
  unfold w_X12_asksAll_0
  refine s_aload_n (k := 0) C (by decide +kernel) ?_
  refine s_iload_n (k := 1) C (by decide +kernel) ?_
  refine s_fnV C (j2 := jX12_laysMembers) (cl := 12) (nf := 27) rfl rfl (by decide +kernel) rfl w_6_216 w_6_218 w_p3_10 w_1_13 w_6_219 (by decide +kernel) (fun _ _ _ _ _ h => f_X12_laysMembers h) (fun _ _ _ _ _ h => r_X12_laysMembers h) ?_
  refine s_aload_n (k := 0) C (by decide +kernel) ?_
  refine s_iload_n (k := 1) C (by decide +kernel) ?_
  refine s_iconst (n := 4) C (by decide +kernel) (by decide) ?_
  refine s_fnV C (j2 := jX12_of) (cl := 12) (nf := 27) rfl rfl (by decide +kernel) rfl w_6_220 w_6_222 w_p3_11 w_1_13 w_6_223 (by decide +kernel) (fun _ _ _ _ _ h => f_X12_of h) (fun _ _ _ _ _ h => r_X12_of h) ?_
  refine s_istore_n (k := 3) C (by decide +kernel) ?_
  refine s_iconst (n := 0) C (by decide +kernel) (by decide) ?_
  refine s_istore (k := 4) C (by decide +kernel) ?_
  exact (fun _ _ _ _ _ _ h => h)
theorem ms_X12_asksAll {Z : Zt} {d : Nat} {S : Sh} {μ : Mi} {ρ : Mr} {Rp : RT} (a0 : Nat) (x1 : Int32) (x2 : Int32) (h : ∀ G : Nat → PT, (∀ (L st : List Value) (S : Sh) (q : Nat × Nat) (μ : Mi) (ρ : Mr), w_X12_asksAll_15 (MS Z (d + 4)) G Rp L st S q μ ρ → G 15 L st S q μ ρ) → w_X12_asksAll_0 (MS Z (d + 4)) G Rp [.ref a0, .int x1, .int x2, .null, .null, .null] [] S (0, 0) μ ρ) : MS Z (d + 5) jX12_asksAll [.ref a0, .int x1, .int x2] S μ ρ Rp :=
  MS_of [.ref a0, .int x1, .int x2, .null, .null, .null] (by decide +kernel) rfl rfl (Nat.le_of_ble_eq_true rfl) rfl (fun p e R s m args below meth c C => b_X12_asksAll_0 C _ _ _ _ _ _ (h _ (b_X12_asksAll_15 C)))
def F_X12_asksAll : FT := fun As S μ ρ k => match As with
  | [.ref a, .int s, .int kd] => a = 2737 ∧ RS S ρ ∧ rg s 0 4 ∧ (kd = 0 ∨ kd = 7) ∧ rg (μ 2738 4510) 0 60 ∧ rg (μ 2738 (514 * s.toNatClampNeg + 4)) 0 120 ∧ rg (μ 2738 (514 * s.toNatClampNeg + 5)) 0 120 ∧ k none (M3 μ (qMem (μ 2738) s.toNatClampNeg) (qAsksAll (μ 2738) s.toNatClampNeg kd))
  | _ => False
theorem r_X12_asksAll {As S μ ρ k} (h : F_X12_asksAll As S μ ρ k) : ∃ a As', As = Value.ref a :: As' ∧ S.2 a = (12, 27) := by
  unfold F_X12_asksAll at h
  split at h
  · exact ⟨_, _, rfl, by rw [h.1]; exact h.2.1.1⟩
  · exact h.elim
set_option maxHeartbeats 1000000 in
theorem f_X12_asksAll {Z : Zt} {d : Nat} {As : List Value} {S : Sh} {μ : Mi} {ρ : Mr} {Rp : RT} (h : F_X12_asksAll As S μ ρ (fun r μ' => Rp r S μ' ρ)) : MS Z (d + 5) jX12_asksAll As S μ ρ Rp := by
  unfold F_X12_asksAll at h
  split at h
  · rename_i a s kd
    obtain ⟨rfl, hS, h⟩ := h
    have hS0 := hS
    unfold RS at hS
    obtain ⟨h1, hkd, k1, k2, k3, h⟩ := h
    obtain ⟨s, rfl, hs0, -, hs⟩ := rg_ex h1
    have hs5 : s < 5 := by omega
    have hrs := rg_T (lo := 0) (hi := 4) (n := s) (by omega) (by omega) hs0
    simp (disch := omega) only [nI_clamp] at h k2 k3
    obtain ⟨t0, ht0⟩ := M3_self μ
    rw [ht0]
    generalize hA : μ 2738 = A at *
    refine ms_X12_asksAll _ _ _ (fun G g15 => ?_)
    simp only [w_X12_asksAll_0, tAload, tIload, nth, tGetI, tGetR, tConst, tLconst, tBin, tUn, tI2l, tAld, tAldR, tAlen, tIast, tBast, tZast, tAast, tIret, tZret, tVret, tAret, tIf, tIf2, tGoto, tIstore, tAstore, sset, tIinc, tDup, tDup2, tPop, tPutI, tPutZ, tPutR, tCallV, tCallS, popN, tFn, tCopy, tMax, tMin, tSw, swc, tRem, tObjI, Option.toList, List.nil_append, List.cons_append, okR, true_and, and_true, true_or, or_true, Nat.zero_le, ne_eq, not_false_eq_true, Nat.reduceEqDiff, F_X12_laysMembers, F_X12_of, hS0, hS, hrs, M3_row, M3_setM]
    simp (disch := omega) only [ixs 4 4 rfl, nI_clamp, nI_inb]
    refine ⟨k2, k3, by omega, ?_⟩
    generalize hc : qMem A s = c at *
    have step : ∀ (t : Nat) (B : Rw) (v : Value), t < 5 → (∀ i, i < 2570 → B i = A i) → rg (B 4510) 0 60 → (∀ v', G 15 [.ref 2737, .int (nI s), .int kd, .int (A (514 * s + 4)), .int (nI (t + 1)), v'] [] S (0, 0) (M3 μ c (as1 s (c.1 ||| c.2.1) kd B t)) ρ) → G 15 [.ref 2737, .int (nI s), .int kd, .int (A (514 * s + 4)), .int (nI t), v] [] S (0, 0) (M3 μ c B) ρ := by
      intro t B v ht hB hw hg
      have hrt := rg_T (lo := 0) (hi := 4) (n := t) (by omega) (by omega) (by omega)
      have hB4 : B (514 * s + 4) = A (514 * s + 4) := hB _ (by omega)
      have hB5 : B (514 * s + 5) = A (514 * s + 5) := hB _ (by omega)
      refine g15 _ _ _ _ _ _ ?_
      simp only [w_X12_asksAll_15, w_X12_asksAll_41, w_X12_asksAll_83, tAload, tIload, nth, tGetI, tGetR, tConst, tLconst, tBin, tUn, tI2l, tAld, tAldR, tAlen, tIast, tBast, tZast, tAast, tIret, tZret, tVret, tAret, tIf, tIf2, tGoto, tIstore, tAstore, sset, tIinc, tDup, tDup2, tPop, tPutI, tPutZ, tPutR, tCallV, tCallS, popN, tFn, tCopy, tMax, tMin, tSw, swc, tRem, tObjI, Option.toList, List.nil_append, List.cons_append, okR, true_and, and_true, true_or, or_true, Nat.zero_le, ne_eq, not_false_eq_true, Nat.reduceEqDiff, F_X12_has, F_X12_termAt, F_X12_sends, hS0, hS, hrs, hrt, b2_z, Decidable.not_not, M3_row, M3_8, M3_9, M3_m, M3_upF, upI_upF, nI_1]
      simp (disch := omega) only [nI_clamp, hB4, hB5]
      refine ⟨fun hc => absurd hc (lt5' t ht), fun _ => ⟨fun c1 => ⟨k2, k3, hw, ?_⟩, fun c1 => ?_⟩⟩
      · have hz : rndS B (μ 2744 8) s kd = 0 := by rcases hkd with rfl | rfl <;> rfl
        by_cases hst : s = t
        · subst hst
          have e1 : vSend B s s = -1 := by unfold vSend; rw [if_neg (fun z => z.1 rfl)]
          have e2 : qSend B (μ 2744 8) s s kd (A (514 * s + 4)) (qTermAt B s (A (514 * s + 4))) = B := by unfold qSend; rw [if_pos rfl]
          have e3 : as1 s (c.1 ||| c.2.1) kd B s = B := by
            unfold as1
            rw [if_pos c1]
            unfold qPost
            rw [if_pos rfl]
          rw [e1, e2]
          rw [e3] at hg
          exact ⟨fun _ => hg _, fun z => absurd rfl z⟩
        · by_cases hok : okS B s t
          · obtain ⟨w, ew, ew0, -, ew1⟩ := rg_ex hw
            have hw60 : w < 60 := by
              have : ¬ w = 60 := fun z => hok.2.1 (by rw [ew, z]; rfl)
              omega
            have e1 : vSend B s t = nI (2570 + 21 * w) := by unfold vSend; rw [if_pos hok, ew, nI_clamp ew0]
            have e2 : qSend B (μ 2744 8) s t kd (A (514 * s + 4)) (qTermAt B s (A (514 * s + 4))) = qPush B (rowS (nI s) (nI t) (B (514 * s + 1)) kd (A (514 * s + 4)) (qTermAt B s (A (514 * s + 4))) 0) := by unfold qSend; rw [if_neg hst, if_pos hok, hz]
            have e3 : as1 s (c.1 ||| c.2.1) kd B t = qPush B (rowS (nI s) (nI t) (if kd = 7 then B (514 * s + 1) + 1 else B (514 * s + 1)) kd (A (514 * s + 4)) (qTermAt B s (A (514 * s + 4))) 0) := by
              unfold as1 qPost
              rw [if_pos c1, if_neg hst, if_pos hok, hB4]
            rw [e1, e2]
            rw [e3] at hg
            rw [show nI (2570 + 21 * w) + 2 = nI (2570 + 21 * w + 2) from by rw [show (2 : Int32) = nI 2 from rfl, nI_add]]
            simp (disch := omega) only [nI_clamp, nI_inb]
            refine ⟨fun z => absurd z (nI_nm1 (by omega)), fun _ => ⟨fun c2 => ?_, fun c2 => ⟨by omega, ?_⟩⟩⟩
            · rw [if_neg c2] at hg
              exact hg _
            · subst c2
              rw [if_pos rfl] at hg
              rw [push_up ew hw60 (by decide)]
              have e5 : qPush B (rowS (nI s) (nI t) (B (514 * s + 1)) 7 (A (514 * s + 4)) (qTermAt B s (A (514 * s + 4))) 0) (2570 + 21 * w + 2) = B (514 * s + 1) := by
                unfold qPush
                rw [ew, nI_clamp ew0]
                simp only [rowS]
                rw [if_pos (by omega)]
                have : 2570 + 21 * w + 2 - (2570 + 21 * w) = 2 := by omega
                rw [this]
                rfl
              rw [e5]
              have e6 : up (rowS (nI s) (nI t) (B (514 * s + 1)) 7 (A (514 * s + 4)) (qTermAt B s (A (514 * s + 4))) 0) 2 (B (514 * s + 1) + 1) = rowS (nI s) (nI t) (B (514 * s + 1) + 1) 7 (A (514 * s + 4)) (qTermAt B s (A (514 * s + 4))) 0 := by
                funext k
                unfold up rowS
                by_cases hk : k = 2
                · subst hk; rfl
                · rw [if_neg hk]
                  simp only [hk, if_false]
              rw [e6]
              exact ⟨by omega, hg _⟩
          · have e1 : vSend B s t = -1 := by unfold vSend; rw [if_neg hok]
            have e2 : qSend B (μ 2744 8) s t kd (A (514 * s + 4)) (qTermAt B s (A (514 * s + 4))) = up B 4511 (B 4511 + 1) := by unfold qSend; rw [if_neg hst, if_neg hok]
            have e3 : as1 s (c.1 ||| c.2.1) kd B t = up B 4511 (B 4511 + 1) := by
              unfold as1 qPost
              rw [if_pos c1, if_neg hst, if_neg hok]
            rw [e1, e2]
            rw [e3] at hg
            exact ⟨fun _ => hg _, fun z => absurd rfl z⟩
      · have e3 : as1 s (c.1 ||| c.2.1) kd B t = B := by
          unfold as1
          rw [if_neg c1]
        rw [e3] at hg
        exact hg _
    refine step 0 _ _ (by decide) (fun _ _ => rfl) k1 (fun _ => step 1 _ _ (by decide) (fun i hi => as1_lo hi) (as1_w k1) (fun _ => step 2 _ _ (by decide) (fun i hi => by rw [as1_lo hi, as1_lo hi]) (as1_w (as1_w k1)) (fun _ => step 3 _ _ (by decide) (fun i hi => by rw [as1_lo hi, as1_lo hi, as1_lo hi]) (as1_w (as1_w (as1_w k1))) (fun _ => step 4 _ _ (by decide) (fun i hi => by rw [as1_lo hi, as1_lo hi, as1_lo hi, as1_lo hi]) (as1_w (as1_w (as1_w (as1_w k1)))) (fun _ => ?_)))))
    refine g15 _ _ _ _ _ _ ?_
    simp only [w_X12_asksAll_15, w_X12_asksAll_89, tAload, tIload, nth, tGetI, tGetR, tConst, tLconst, tBin, tUn, tI2l, tAld, tAldR, tAlen, tIast, tBast, tZast, tAast, tIret, tZret, tVret, tAret, tIf, tIf2, tGoto, tIstore, tAstore, sset, tIinc, tDup, tDup2, tPop, tPutI, tPutZ, tPutR, tCallV, tCallS, popN, tFn, tCopy, tMax, tMin, tSw, swc, tRem, tObjI, Option.toList, List.nil_append, List.cons_append, okR, true_and, and_true, true_or, or_true, Nat.zero_le, ne_eq, not_false_eq_true, Nat.reduceEqDiff]
    refine ⟨fun _ => ?_, fun hc => absurd (by decide) hc⟩
    unfold qAsksAll qAsks5 at h
    rw [hc] at h
    exact h
  · exact h.elim
/-- what one needs so that it can stand up -/
def suOK (A : Rw) (s : Nat) : Prop := agOK A s ∧ (A (514 * s + 5)).toInt ≤ (A (514 * s + 4)).toInt ∧ rg (A (514 * s + 1)) 0 199
theorem qStand1_out {A : Rw} {s i : Nat} (h : i ≠ 514 * s + 1 ∧ i ≠ 514 * s + 2 ∧ i ≠ 514 * s + 3 ∧ i ≠ 514 * s + 8 ∧ i ≠ 514 * s + 11 ∧ i ≠ 514 * s + 12 ∧ i ≠ 514 * s + 13 ∧ i ≠ 514 * s + 15) : qStand1 A s i = A i := by
  unfold qStand1
  rw [up_ne (by omega), up_ne (by omega), qPlays_out (by omega), up_ne (by omega)]
theorem ldOK_of {A B : Rw} {s : Nat} (hs : s < 5) (ha : agOK A s) (hsl : (A (514 * s + 5)).toInt ≤ (A (514 * s + 4)).toInt) (ht : rg (B (514 * s + 1)) 1 200) (hw : rg (B 4510) 0 60) (ho : ∀ i, 514 * s ≤ i → i < 514 * s + 514 → i ≠ 514 * s + 1 → i ≠ 514 * s + 2 → i ≠ 514 * s + 3 → i ≠ 514 * s + 8 → i ≠ 514 * s + 11 → i ≠ 514 * s + 12 → i ≠ 514 * s + 13 → i ≠ 514 * s + 15 → B i = A i) : ldOK B s := by
  have e4 : B (514 * s + 4) = A (514 * s + 4) := ho _ (by omega) (by omega) (by omega) (by omega) (by omega) (by omega) (by omega) (by omega) (by omega) (by omega)
  have e5 : B (514 * s + 5) = A (514 * s + 5) := ho _ (by omega) (by omega) (by omega) (by omega) (by omega) (by omega) (by omega) (by omega) (by omega) (by omega)
  refine ⟨agOK_of hs ha hw e4 e5 (ho _ (by omega) (by omega) (by omega) (by omega) (by omega) (by omega) (by omega) (by omega) (by omega) (by omega)) (fun t ht => ?_) (fun i q1 q2 => ho _ (by omega) (by omega) (by omega) (by omega) (by omega) (by omega) (by omega) (by omega) (by omega) (by omega)), by rw [e4, e5]; exact hsl, ht⟩
  rw [ho _ (by omega) (by omega) (by omega) (by omega) (by omega) (by omega) (by omega) (by omega) (by omega) (by omega)]
  exact ha.1.2.2.2 t ht
theorem stand1_1 {A : Rw} {s : Nat} : qStand1 A s (514 * s + 1) = A (514 * s + 1) + 1 := by
  unfold qStand1
  rw [up_ne (by omega), up_ne (by omega), qPlays_out (by omega), up_at]
theorem stand1_ok {A : Rw} {s : Nat} (hs : s < 5) (h : suOK A s) : ldOK (qAsksAll (qStand1 A s) s 0) s := by
  obtain ⟨ha, hsl, ht⟩ := h
  refine ldOK_of hs ha hsl ?_ (qAsksAll_w (by rw [qStand1_out (by omega)]; exact ha.1.1)) (fun i q1 q2 c1 c2 c3 c4 c5 c6 c7 c8 => by rw [qAsksAll_lo (by omega), qStand1_out (by omega)])
  rw [qAsksAll_lo (by omega), stand1_1]
  obtain ⟨t, et, et0, et1, et2⟩ := rg_ex ht
  rw [et, nI_1, rg_nI (by omega)]
  omega
def w_X12_standsUp_58 (M : CT) (G : Nat → PT) (Rp : RT) : PT := tVret Rp
def w_X12_standsUp_0 (M : CT) (G : Nat → PT) (Rp : RT) : PT := tAload 0 <| tIload 1 <| tConst 1 <| tAload 0 <| tIload 1 <| tConst 1 <| tFn 3 F_X12_of <| tConst 1 <| tBin (fun x y => x + y) <| tFn 4 F_X12_lays <| tAload 0 <| tIload 1 <| tConst 1 <| tFn 3 F_X12_plays <| tAload 0 <| tIload 1 <| tConst 2 <| tIload 1 <| tFn 4 F_X12_lays <| tAload 0 <| tIload 1 <| tConst 8 <| tConst 1 <| tIload 1 <| tBin (fun x y => x <<< (y &&& 31)) <| tFn 4 F_X12_lays <| tAload 0 <| tIload 1 <| tConst 0 <| tFn 3 F_X12_asksAll <| tAload 0 <| tConst 1 <| tIload 1 <| tBin (fun x y => x <<< (y &&& 31)) <| tFn 2 F_X12_isMajority <| tIf (fun x => x = 0) (w_X12_standsUp_58 M G Rp) <| tAload 0 <| tIload 1 <| tFn 2 F_X12_leads <| w_X12_standsUp_58 M G Rp
set_option maxRecDepth 20000 in
theorem b_X12_standsUp_58 {Z : Zt} {d : Nat} {p : Program} {e : Env} {R : Room} {s : State} {m : MethodId} {args : Array Value} {below : List Frame} {meth : Method} {c : Code} {Rp : RT} (C : Cx Z (d + 8) jX12_standsUp RX12 p R s m args meth c) : Sd Z jX12_standsUp p e R s m args below meth c (MQ below (QcS Z Rp) args s 0 0 (fun a => Z.2.2.1 < a)) 58 (w_X12_standsUp_58 (MS Z (d + 8)) (Gw Z 2 p e R s m args below meth c (MQ below (QcS Z Rp) args s 0 0 (fun a => Z.2.2.1 < a))) Rp) := by
  unfold w_X12_standsUp_58
  exact s_vret C rfl (by decide +kernel)
set_option maxRecDepth 20000 in
theorem b_X12_standsUp_0 {Z : Zt} {d : Nat} {p : Program} {e : Env} {R : Room} {s : State} {m : MethodId} {args : Array Value} {below : List Frame} {meth : Method} {c : Code} {Rp : RT} (C : Cx Z (d + 8) jX12_standsUp RX12 p R s m args meth c) : Sd Z jX12_standsUp p e R s m args below meth c (MQ below (QcS Z Rp) args s 0 0 (fun a => Z.2.2.1 < a)) 0 (w_X12_standsUp_0 (MS Z (d + 8)) (Gw Z 2 p e R s m args below meth c (MQ below (QcS Z Rp) args s 0 0 (fun a => Z.2.2.1 < a))) Rp) := by
  unfold w_X12_standsUp_0
  refine s_aload_n (k := 0) C (by decide +kernel) ?_
  refine s_iload_n (k := 1) C (by decide +kernel) ?_
  refine s_iconst (n := 1) C (by decide +kernel) (by decide) ?_
  refine s_aload_n (k := 0) C (by decide +kernel) ?_
  refine s_iload_n (k := 1) C (by decide +kernel) ?_
  refine s_iconst (n := 1) C (by decide +kernel) (by decide) ?_
  refine s_fnV C (j2 := jX12_of) (cl := 12) (nf := 27) rfl rfl (by decide +kernel) rfl w_6_220 w_6_222 w_p3_11 w_1_13 w_6_223 (by decide +kernel) (fun _ _ _ _ _ h => f_X12_of h) (fun _ _ _ _ _ h => r_X12_of h) ?_
  refine s_iconst (n := 1) C (by decide +kernel) (by decide) ?_
  refine s_iadd C (by decide +kernel) ?_
  refine s_fnV C (j2 := jX12_lays) (cl := 12) (nf := 27) rfl rfl (by decide +kernel) rfl w_6_82 w_6_84 w_p3_4 w_1_13 w_6_85 (by decide +kernel) (fun _ _ _ _ _ h => f_X12_lays h) (fun _ _ _ _ _ h => r_X12_lays h) ?_
  refine s_aload_n (k := 0) C (by decide +kernel) ?_
  refine s_iload_n (k := 1) C (by decide +kernel) ?_
  refine s_iconst (n := 1) C (by decide +kernel) (by decide) ?_
  refine s_fnV C (j2 := jX12_plays) (cl := 12) (nf := 27) rfl rfl (by decide +kernel) rfl w_7_11 w_7_13 w_p4_2 w_1_13 w_7_14 (by decide +kernel) (fun _ _ _ _ _ h => f_X12_plays h) (fun _ _ _ _ _ h => r_X12_plays h) ?_
  refine s_aload_n (k := 0) C (by decide +kernel) ?_
  refine s_iload_n (k := 1) C (by decide +kernel) ?_
  refine s_iconst (n := 2) C (by decide +kernel) (by decide) ?_
  refine s_iload_n (k := 1) C (by decide +kernel) ?_
  refine s_fnV C (j2 := jX12_lays) (cl := 12) (nf := 27) rfl rfl (by decide +kernel) rfl w_6_82 w_6_84 w_p3_4 w_1_13 w_6_85 (by decide +kernel) (fun _ _ _ _ _ h => f_X12_lays h) (fun _ _ _ _ _ h => r_X12_lays h) ?_
  refine s_aload_n (k := 0) C (by decide +kernel) ?_
  refine s_iload_n (k := 1) C (by decide +kernel) ?_
  refine s_bipush (n := 8) C (by decide +kernel) (by decide) ?_
  refine s_iconst (n := 1) C (by decide +kernel) (by decide) ?_
  refine s_iload_n (k := 1) C (by decide +kernel) ?_
  refine s_ishl C (by decide +kernel) ?_
  refine s_fnV C (j2 := jX12_lays) (cl := 12) (nf := 27) rfl rfl (by decide +kernel) rfl w_6_82 w_6_84 w_p3_4 w_1_13 w_6_85 (by decide +kernel) (fun _ _ _ _ _ h => f_X12_lays h) (fun _ _ _ _ _ h => r_X12_lays h) ?_
  refine s_aload_n (k := 0) C (by decide +kernel) ?_
  refine s_iload_n (k := 1) C (by decide +kernel) ?_
  refine s_iconst (n := 0) C (by decide +kernel) (by decide) ?_
  refine s_fnV C (j2 := jX12_asksAll) (cl := 12) (nf := 27) rfl rfl (by decide +kernel) rfl w_7_19 w_7_21 w_p4_4 w_1_13 w_7_22 (by decide +kernel) (fun _ _ _ _ _ h => f_X12_asksAll h) (fun _ _ _ _ _ h => r_X12_asksAll h) ?_
  refine s_aload_n (k := 0) C (by decide +kernel) ?_
  refine s_iconst (n := 1) C (by decide +kernel) (by decide) ?_
  refine s_iload_n (k := 1) C (by decide +kernel) ?_
  refine s_ishl C (by decide +kernel) ?_
  refine s_fnV C (j2 := jX12_isMajority) (cl := 12) (nf := 27) rfl rfl (by decide +kernel) rfl w_7_35 w_7_37 w_p4_8 w_1_13 w_7_38 (by decide +kernel) (fun _ _ _ _ _ h => f_X12_isMajority h) (fun _ _ _ _ _ h => r_X12_isMajority h) ?_
  refine s_if_eq (off := 8) (tgt := 58) C (by decide +kernel) (by decide) (b_X12_standsUp_58 C) ?_
  refine s_aload_n (k := 0) C (by decide +kernel) ?_
  refine s_iload_n (k := 1) C (by decide +kernel) ?_
  refine s_fnV C (j2 := jX12_leads) (cl := 12) (nf := 27) rfl rfl (by decide +kernel) rfl w_7_39 w_7_41 w_p4_9 w_1_13 w_7_42 (by decide +kernel) (fun _ _ _ _ _ h => f_X12_leads h) (fun _ _ _ _ _ h => r_X12_leads h) ?_
  exact (b_X12_standsUp_58 C)
theorem ms_X12_standsUp {Z : Zt} {d : Nat} {S : Sh} {μ : Mi} {ρ : Mr} {Rp : RT} (a0 : Nat) (x1 : Int32) (h : ∀ G : Nat → PT, w_X12_standsUp_0 (MS Z (d + 8)) G Rp [.ref a0, .int x1] [] S (0, 0) μ ρ) : MS Z (d + 9) jX12_standsUp [.ref a0, .int x1] S μ ρ Rp :=
  MS_of [.ref a0, .int x1] (by decide +kernel) rfl rfl (Nat.le_of_ble_eq_true rfl) rfl (fun p e R s m args below meth c C => b_X12_standsUp_0 C _ _ _ _ _ _ (h _ ))
def F_X12_standsUp : FT := fun As S μ ρ k => match As with
  | [.ref a, .int s] => a = 2737 ∧ RS S ρ ∧ rg s 0 4 ∧ suOK (μ 2738) s.toNatClampNeg ∧ ∀ t : T4, k none (M3 μ t (qStands (μ 2738) s.toNatClampNeg))
  | _ => False
theorem r_X12_standsUp {As S μ ρ k} (h : F_X12_standsUp As S μ ρ k) : ∃ a As', As = Value.ref a :: As' ∧ S.2 a = (12, 27) := by
  unfold F_X12_standsUp at h
  split at h
  · exact ⟨_, _, rfl, by rw [h.1]; exact h.2.1.1⟩
  · exact h.elim
set_option maxHeartbeats 1000000 in
theorem f_X12_standsUp {Z : Zt} {d : Nat} {As : List Value} {S : Sh} {μ : Mi} {ρ : Mr} {Rp : RT} (h : F_X12_standsUp As S μ ρ (fun r μ' => Rp r S μ' ρ)) : MS Z (d + 9) jX12_standsUp As S μ ρ Rp := by
  unfold F_X12_standsUp at h
  split at h
  · rename_i a s
    obtain ⟨rfl, hS, h⟩ := h
    have hS0 := hS
    unfold RS at hS
    obtain ⟨h1, h2, h⟩ := h
    obtain ⟨s, rfl, hs0, -, hs⟩ := rg_ex h1
    have hs5 : s < 5 := by omega
    have hrs := rg_T (lo := 0) (hi := 4) (n := s) (by omega) (by omega) hs0
    simp (disch := omega) only [nI_clamp] at h h2
    obtain ⟨t0, ht0⟩ := M3_self μ
    rw [ht0]
    generalize hA : μ 2738 = A at *
    have hl := stand1_ok hs5 h2
    obtain ⟨ha, h3, h4⟩ := h2
    refine ms_X12_standsUp _ _ (fun G => ?_)
    simp only [w_X12_standsUp_0, w_X12_standsUp_58, tAload, tIload, nth, tGetI, tGetR, tConst, tLconst, tBin, tUn, tI2l, tAld, tAldR, tAlen, tIast, tBast, tZast, tAast, tIret, tZret, tVret, tAret, tIf, tIf2, tGoto, tIstore, tAstore, sset, tIinc, tDup, tDup2, tPop, tPutI, tPutZ, tPutR, tCallV, tCallS, popN, tFn, tCopy, tMax, tMin, tSw, swc, tRem, tObjI, Option.toList, List.nil_append, List.cons_append, okR, true_and, and_true, true_or, or_true, Nat.zero_le, ne_eq, not_false_eq_true, Nat.reduceEqDiff, F_X12_of, F_X12_lays, F_X12_plays, F_X12_asksAll, F_X12_isMajority, F_X12_leads, hS0, hrs, M3_row, M3_upF, M3_M3, M3_8, M3_9, b2_z, Decidable.not_not]
    simp (disch := omega) only [ixs 1 1 rfl, ixs 2 2 rfl, ixs 8 8 rfl, nI_clamp, nI_inb]
    have e : up (up (qPlays (up A (514 * s + 1) (A (514 * s + 1) + 1)) s 1) (514 * s + 2) (nI s)) (514 * s + 8) ((1 : Int32) <<< (nI s &&& 31)) = qStand1 A s := rfl
    rw [e]
    unfold qStands at h
    refine ⟨by omega, by omega, by omega, by omega, ?_, ?_, ?_, fun c => ?_, fun c => ⟨hl, fun t => ?_⟩⟩
    · rw [qStand1_out (by omega)]; exact ha.1.1
    · rw [qStand1_out (by omega)]; exact ha.1.2.1
    · rw [qStand1_out (by omega)]; exact ha.1.2.2.1
    · have := h (qMem (qStand1 A s) s)
      rw [if_neg c] at this
      exact this
    · have := h t
      rw [if_pos c] at this
      exact this
  · exact h.elim
theorem qAsk1_out {A : Rw} {s i : Nat} (h : i ≠ 514 * s + 3 ∧ i ≠ 514 * s + 8 ∧ i ≠ 514 * s + 11 ∧ i ≠ 514 * s + 12 ∧ i ≠ 514 * s + 13 ∧ i ≠ 514 * s + 15) : qAsk1 A s i = A i := by
  unfold qAsk1
  rw [up_ne (by omega), qPlays_out (by omega)]
theorem ask1_ok {A : Rw} {s : Nat} (hs : s < 5) (h : suOK A s) : suOK (qAsksAll (qAsk1 A s) s 7) s := by
  obtain ⟨ha, hsl, ht⟩ := h
  have ho : ∀ i, i < 2570 → (i ≠ 514 * s + 3 ∧ i ≠ 514 * s + 8 ∧ i ≠ 514 * s + 11 ∧ i ≠ 514 * s + 12 ∧ i ≠ 514 * s + 13 ∧ i ≠ 514 * s + 15) → qAsksAll (qAsk1 A s) s 7 i = A i := fun i q1 q2 => by rw [qAsksAll_lo q1, qAsk1_out q2]
  refine ⟨agOK_of hs ha (qAsksAll_w (by rw [qAsk1_out (by omega)]; exact ha.1.1)) (ho _ (by omega) (by omega)) (ho _ (by omega) (by omega)) (ho _ (by omega) (by omega)) (fun t ht => by rw [ho _ (by omega) (by omega)]; exact ha.1.2.2.2 t ht) (fun i q1 q2 => ho _ (by omega) (by omega)), ?_, ?_⟩
  · rw [ho _ (by omega) (by omega), ho _ (by omega) (by omega)]; exact hsl
  · rw [ho _ (by omega) (by omega)]; exact ht
def w_X12_asks_55 (M : CT) (G : Nat → PT) (Rp : RT) : PT := tVret Rp
def w_X12_asks_17 (M : CT) (G : Nat → PT) (Rp : RT) : PT := tAload 0 <| tIload 1 <| tConst 3 <| tFn 3 F_X12_plays <| tAload 0 <| tIload 1 <| tConst 8 <| tConst 1 <| tIload 1 <| tBin (fun x y => x <<< (y &&& 31)) <| tFn 4 F_X12_lays <| tAload 0 <| tIload 1 <| tConst 7 <| tFn 3 F_X12_asksAll <| tAload 0 <| tConst 1 <| tIload 1 <| tBin (fun x y => x <<< (y &&& 31)) <| tFn 2 F_X12_isMajority <| tIf (fun x => x = 0) (w_X12_asks_55 M G Rp) <| tAload 0 <| tIload 1 <| tFn 2 F_X12_standsUp <| w_X12_asks_55 M G Rp
def w_X12_asks_0 (M : CT) (G : Nat → PT) (Rp : RT) : PT := tAload 0 <| tGetR 12 27 1 <| tConst 4515 <| tAld 20 <| tIf (fun x => x ≠ 0) (w_X12_asks_17 M G Rp) <| tAload 0 <| tIload 1 <| tFn 2 F_X12_standsUp <| tVret Rp
set_option maxRecDepth 20000 in
theorem b_X12_asks_55 {Z : Zt} {d : Nat} {p : Program} {e : Env} {R : Room} {s : State} {m : MethodId} {args : Array Value} {below : List Frame} {meth : Method} {c : Code} {Rp : RT} (C : Cx Z (d + 9) jX12_asks RX12 p R s m args meth c) : Sd Z jX12_asks p e R s m args below meth c (MQ below (QcS Z Rp) args s 0 0 (fun a => Z.2.2.1 < a)) 55 (w_X12_asks_55 (MS Z (d + 9)) (Gw Z 2 p e R s m args below meth c (MQ below (QcS Z Rp) args s 0 0 (fun a => Z.2.2.1 < a))) Rp) := by
  unfold w_X12_asks_55
  exact s_vret C rfl (by decide +kernel)
set_option maxRecDepth 20000 in
theorem b_X12_asks_17 {Z : Zt} {d : Nat} {p : Program} {e : Env} {R : Room} {s : State} {m : MethodId} {args : Array Value} {below : List Frame} {meth : Method} {c : Code} {Rp : RT} (C : Cx Z (d + 9) jX12_asks RX12 p R s m args meth c) : Sd Z jX12_asks p e R s m args below meth c (MQ below (QcS Z Rp) args s 0 0 (fun a => Z.2.2.1 < a)) 17 (w_X12_asks_17 (MS Z (d + 9)) (Gw Z 2 p e R s m args below meth c (MQ below (QcS Z Rp) args s 0 0 (fun a => Z.2.2.1 < a))) Rp) := by
  unfold w_X12_asks_17
  refine s_aload_n (k := 0) C (by decide +kernel) ?_
  refine s_iload_n (k := 1) C (by decide +kernel) ?_
  refine s_iconst (n := 3) C (by decide +kernel) (by decide) ?_
  refine s_fnV C (j2 := jX12_plays) (cl := 12) (nf := 27) rfl rfl (by decide +kernel) rfl w_7_11 w_7_13 w_p4_2 w_1_13 w_7_14 (by decide +kernel) (fun _ _ _ _ _ h => f_X12_plays h) (fun _ _ _ _ _ h => r_X12_plays h) ?_
  refine s_aload_n (k := 0) C (by decide +kernel) ?_
  refine s_iload_n (k := 1) C (by decide +kernel) ?_
  refine s_bipush (n := 8) C (by decide +kernel) (by decide) ?_
  refine s_iconst (n := 1) C (by decide +kernel) (by decide) ?_
  refine s_iload_n (k := 1) C (by decide +kernel) ?_
  refine s_ishl C (by decide +kernel) ?_
  refine s_fnV C (j2 := jX12_lays) (cl := 12) (nf := 27) rfl rfl (by decide +kernel) rfl w_6_82 w_6_84 w_p3_4 w_1_13 w_6_85 (by decide +kernel) (fun _ _ _ _ _ h => f_X12_lays h) (fun _ _ _ _ _ h => r_X12_lays h) ?_
  refine s_aload_n (k := 0) C (by decide +kernel) ?_
  refine s_iload_n (k := 1) C (by decide +kernel) ?_
  refine s_bipush (n := 7) C (by decide +kernel) (by decide) ?_
  refine s_fnV C (j2 := jX12_asksAll) (cl := 12) (nf := 27) rfl rfl (by decide +kernel) rfl w_7_19 w_7_21 w_p4_4 w_1_13 w_7_22 (by decide +kernel) (fun _ _ _ _ _ h => f_X12_asksAll h) (fun _ _ _ _ _ h => r_X12_asksAll h) ?_
  refine s_aload_n (k := 0) C (by decide +kernel) ?_
  refine s_iconst (n := 1) C (by decide +kernel) (by decide) ?_
  refine s_iload_n (k := 1) C (by decide +kernel) ?_
  refine s_ishl C (by decide +kernel) ?_
  refine s_fnV C (j2 := jX12_isMajority) (cl := 12) (nf := 27) rfl rfl (by decide +kernel) rfl w_7_35 w_7_37 w_p4_8 w_1_13 w_7_38 (by decide +kernel) (fun _ _ _ _ _ h => f_X12_isMajority h) (fun _ _ _ _ _ h => r_X12_isMajority h) ?_
  refine s_if_eq (off := 8) (tgt := 55) C (by decide +kernel) (by decide) (b_X12_asks_55 C) ?_
  refine s_aload_n (k := 0) C (by decide +kernel) ?_
  refine s_iload_n (k := 1) C (by decide +kernel) ?_
  refine s_fnV C (j2 := jX12_standsUp) (cl := 12) (nf := 27) rfl rfl (by decide +kernel) rfl w_7_7 w_7_9 w_p4_1 w_1_13 w_7_10 (by decide +kernel) (fun _ _ _ _ _ h => f_X12_standsUp h) (fun _ _ _ _ _ h => r_X12_standsUp h) ?_
  exact (b_X12_asks_55 C)
set_option maxRecDepth 20000 in
theorem b_X12_asks_0 {Z : Zt} {d : Nat} {p : Program} {e : Env} {R : Room} {s : State} {m : MethodId} {args : Array Value} {below : List Frame} {meth : Method} {c : Code} {Rp : RT} (C : Cx Z (d + 9) jX12_asks RX12 p R s m args meth c) : Sd Z jX12_asks p e R s m args below meth c (MQ below (QcS Z Rp) args s 0 0 (fun a => Z.2.2.1 < a)) 0 (w_X12_asks_0 (MS Z (d + 9)) (Gw Z 2 p e R s m args below meth c (MQ below (QcS Z Rp) args s 0 0 (fun a => Z.2.2.1 < a))) Rp) := by
  unfold w_X12_asks_0
  refine s_aload_n (k := 0) C (by decide +kernel) ?_
  refine s_getR C w_6_88 (by decide +kernel) rfl ?_
  refine s_sipush (n := 4515) C (by decide +kernel) (by decide) ?_
  refine s_iald C (by decide +kernel) ?_
  refine s_if_ne (off := 9) (tgt := 17) C (by decide +kernel) (by decide) (b_X12_asks_17 C) ?_
  refine s_aload_n (k := 0) C (by decide +kernel) ?_
  refine s_iload_n (k := 1) C (by decide +kernel) ?_
  refine s_fnV C (j2 := jX12_standsUp) (cl := 12) (nf := 27) rfl rfl (by decide +kernel) rfl w_7_7 w_7_9 w_p4_1 w_1_13 w_7_10 (by decide +kernel) (fun _ _ _ _ _ h => f_X12_standsUp h) (fun _ _ _ _ _ h => r_X12_standsUp h) ?_
  exact s_vret C rfl (by decide +kernel)
theorem ms_X12_asks {Z : Zt} {d : Nat} {S : Sh} {μ : Mi} {ρ : Mr} {Rp : RT} (a0 : Nat) (x1 : Int32) (h : ∀ G : Nat → PT, w_X12_asks_0 (MS Z (d + 9)) G Rp [.ref a0, .int x1] [] S (0, 0) μ ρ) : MS Z (d + 10) jX12_asks [.ref a0, .int x1] S μ ρ Rp :=
  MS_of [.ref a0, .int x1] (by decide +kernel) rfl rfl (Nat.le_of_ble_eq_true rfl) rfl (fun p e R s m args below meth c C => b_X12_asks_0 C _ _ _ _ _ _ (h _ ))
def F_X12_asks : FT := fun As S μ ρ k => match As with
  | [.ref a, .int s] => a = 2737 ∧ RS S ρ ∧ rg s 0 4 ∧ suOK (μ 2738) s.toNatClampNeg ∧ ∀ t : T4, k none (M3 μ t (qAsks (μ 2738) s.toNatClampNeg))
  | _ => False
theorem r_X12_asks {As S μ ρ k} (h : F_X12_asks As S μ ρ k) : ∃ a As', As = Value.ref a :: As' ∧ S.2 a = (12, 27) := by
  unfold F_X12_asks at h
  split at h
  · exact ⟨_, _, rfl, by rw [h.1]; exact h.2.1.1⟩
  · exact h.elim
set_option maxHeartbeats 1000000 in
theorem f_X12_asks {Z : Zt} {d : Nat} {As : List Value} {S : Sh} {μ : Mi} {ρ : Mr} {Rp : RT} (h : F_X12_asks As S μ ρ (fun r μ' => Rp r S μ' ρ)) : MS Z (d + 10) jX12_asks As S μ ρ Rp := by
  unfold F_X12_asks at h
  split at h
  · rename_i a s
    obtain ⟨rfl, hS, h⟩ := h
    have hS0 := hS
    unfold RS at hS
    obtain ⟨h1, h2, h⟩ := h
    obtain ⟨s, rfl, hs0, -, hs⟩ := rg_ex h1
    have hs5 : s < 5 := by omega
    have hrs := rg_T (lo := 0) (hi := 4) (n := s) (by omega) (by omega) hs0
    simp (disch := omega) only [nI_clamp] at h h2
    obtain ⟨t0, ht0⟩ := M3_self μ
    rw [ht0]
    generalize hA : μ 2738 = A at *
    have hl := ask1_ok hs5 h2
    obtain ⟨ha, h3, h4⟩ := id h2
    have i15 : inb 4515 13548 := inb_nI (k := 4515) (by decide) (by decide)
    refine ms_X12_asks _ _ (fun G => ?_)
    simp only [w_X12_asks_0, w_X12_asks_17, w_X12_asks_55, tAload, tIload, nth, tGetI, tGetR, tConst, tLconst, tBin, tUn, tI2l, tAld, tAldR, tAlen, tIast, tBast, tZast, tAast, tIret, tZret, tVret, tAret, tIf, tIf2, tGoto, tIstore, tAstore, sset, tIinc, tDup, tDup2, tPop, tPutI, tPutZ, tPutR, tCallV, tCallS, popN, tFn, tCopy, tMax, tMin, tSw, swc, tRem, tObjI, Option.toList, List.nil_append, List.cons_append, okR, true_and, and_true, true_or, or_true, Nat.zero_le, ne_eq, not_false_eq_true, Nat.reduceEqDiff, F_X12_lays, F_X12_plays, F_X12_asksAll, F_X12_isMajority, F_X12_standsUp, hS0, hS, hrs, i15, cl_4515, M3_row, M3_upF, M3_M3, M3_8, M3_9, b2_z, Decidable.not_not]
    simp (disch := omega) only [ixs 8 8 rfl, nI_clamp, nI_inb]
    have e : up (qPlays A s 3) (514 * s + 8) ((1 : Int32) <<< (nI s &&& 31)) = qAsk1 A s := rfl
    rw [e]
    unfold qAsks at h
    refine ⟨fun c => ⟨by omega, ?_, ?_, ?_, fun c2 => ?_, fun c2 => ⟨hl, fun t => ?_⟩⟩, fun c => ⟨h2, fun t => ?_⟩⟩
    · rw [qAsk1_out (by omega)]; exact ha.1.1
    · rw [qAsk1_out (by omega)]; exact ha.1.2.1
    · rw [qAsk1_out (by omega)]; exact ha.1.2.2.1
    · have := h (qMem (qAsk1 A s) s)
      rw [if_neg c, if_neg c2] at this
      exact this
    · have := h t
      rw [if_neg c, if_pos c2] at this
      exact this
    · have := h t
      rw [if_pos c] at this
      exact this
  · exact h.elim
