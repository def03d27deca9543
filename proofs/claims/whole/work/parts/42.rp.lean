/-! ===== the reference: took, installed, installs, wouldBe, would ===== -/
def w_X12_took_56 (M : CT) (G : Nat → PT) (Rp : RT) : PT := tAload 0 <| tIload 1 <| tConst 29 <| tIload 2 <| tBin (fun x y => x + y) <| tAload 0 <| tIload 1 <| tConst 29 <| tIload 2 <| tBin (fun x y => x + y) <| tFn 3 F_X12_of <| tIload 4 <| tFn 2 F_X12_greater <| tFn 4 F_X12_lays <| tAload 0 <| tIload 1 <| tConst 24 <| tIload 2 <| tBin (fun x y => x + y) <| tAload 0 <| tIload 1 <| tConst 29 <| tIload 2 <| tBin (fun x y => x + y) <| tFn 3 F_X12_of <| tConst 1 <| tBin (fun x y => x + y) <| tFn 4 F_X12_lays <| tAload 0 <| tIload 1 <| tIload 2 <| tFn 3 F_X12_goesOn <| tVret Rp
def w_X12_took_0 (M : CT) (G : Nat → PT) (Rp : RT) : PT := tAload 0 <| tIload 1 <| tIload 2 <| tFn 3 F_X12_hears <| tIload 3 <| tIf (fun x => x ≠ 0) (w_X12_took_56 M G Rp) <| tAload 0 <| tIload 1 <| tConst 24 <| tIload 2 <| tBin (fun x y => x + y) <| tAload 0 <| tIload 1 <| tConst 24 <| tIload 2 <| tBin (fun x y => x + y) <| tFn 3 F_X12_of <| tIload 4 <| tConst 1 <| tBin (fun x y => x + y) <| tFn 2 F_X12_lesser <| tAload 0 <| tIload 1 <| tConst 29 <| tIload 2 <| tBin (fun x y => x + y) <| tFn 3 F_X12_of <| tConst 1 <| tBin (fun x y => x + y) <| tFn 2 F_X12_greater <| tFn 4 F_X12_lays <| tAload 0 <| tIload 1 <| tIload 2 <| tFn 3 F_X12_feeds <| tVret Rp
set_option maxRecDepth 20000 in
theorem b_X12_took_56 {Z : Zt} {d : Nat} {p : Program} {e : Env} {R : Room} {s : State} {m : MethodId} {args : Array Value} {below : List Frame} {meth : Method} {c : Code} {Rp : RT} (C : Cx Z (d + 8) jX12_took RX12 p R s m args meth c) : Sd Z jX12_took p e R s m args below meth c (MQ below (QcS Z Rp) args s 0 0 (fun a => Z.2.2.1 < a)) 56 (w_X12_took_56 (MS Z (d + 8)) (Gw Z 5 p e R s m args below meth c (MQ below (QcS Z Rp) args s 0 0 (fun a => Z.2.2.1 < a))) Rp) := by
  unfold w_X12_took_56
  refine s_aload_n (k := 0) C (by decide +kernel) ?_
  refine s_iload_n (k := 1) C (by decide +kernel) ?_
  refine s_bipush (n := 29) C (by decide +kernel) (by decide) ?_
  refine s_iload_n (k := 2) C (by decide +kernel) ?_
  refine s_iadd C (by decide +kernel) ?_
  refine s_aload_n (k := 0) C (by decide +kernel) ?_
  refine s_iload_n (k := 1) C (by decide +kernel) ?_
  refine s_bipush (n := 29) C (by decide +kernel) (by decide) ?_
  refine s_iload_n (k := 2) C (by decide +kernel) ?_
  refine s_iadd C (by decide +kernel) ?_
  refine s_fnV C (j2 := jX12_of) (cl := 12) (nf := 27) rfl rfl (by decide +kernel) rfl w_6_220 w_6_222 w_p3_11 w_1_13 w_6_223 (by decide +kernel) (fun _ _ _ _ _ h => f_X12_of h) (fun _ _ _ _ _ h => r_X12_of h) ?_
  refine s_iload (k := 4) C (by decide +kernel) ?_
  refine s_fnS C (j2 := jX12_greater) (by decide +kernel) rfl w_7_58 w_7_59 w_1_13 w_7_60 (by decide +kernel) (fun _ _ _ _ _ h => f_X12_greater h) ?_
  refine s_fnV C (j2 := jX12_lays) (cl := 12) (nf := 27) rfl rfl (by decide +kernel) rfl w_6_82 w_6_84 w_p3_4 w_1_13 w_6_85 (by decide +kernel) (fun _ _ _ _ _ h => f_X12_lays h) (fun _ _ _ _ _ h => r_X12_lays h) ?_
  refine s_aload_n (k := 0) C (by decide +kernel) ?_
  refine s_iload_n (k := 1) C (by decide +kernel) ?_
  refine s_bipush (n := 24) C (by decide +kernel) (by decide) ?_
  refine s_iload_n (k := 2) C (by decide +kernel) ?_
  refine s_iadd C (by decide +kernel) ?_
  refine s_aload_n (k := 0) C (by decide +kernel) ?_
  refine s_iload_n (k := 1) C (by decide +kernel) ?_
  refine s_bipush (n := 29) C (by decide +kernel) (by decide) ?_
  refine s_iload_n (k := 2) C (by decide +kernel) ?_
  refine s_iadd C (by decide +kernel) ?_
  refine s_fnV C (j2 := jX12_of) (cl := 12) (nf := 27) rfl rfl (by decide +kernel) rfl w_6_220 w_6_222 w_p3_11 w_1_13 w_6_223 (by decide +kernel) (fun _ _ _ _ _ h => f_X12_of h) (fun _ _ _ _ _ h => r_X12_of h) ?_
  refine s_iconst (n := 1) C (by decide +kernel) (by decide) ?_
  refine s_iadd C (by decide +kernel) ?_
  refine s_fnV C (j2 := jX12_lays) (cl := 12) (nf := 27) rfl rfl (by decide +kernel) rfl w_6_82 w_6_84 w_p3_4 w_1_13 w_6_85 (by decide +kernel) (fun _ _ _ _ _ h => f_X12_lays h) (fun _ _ _ _ _ h => r_X12_lays h) ?_
  refine s_aload_n (k := 0) C (by decide +kernel) ?_
  refine s_iload_n (k := 1) C (by decide +kernel) ?_
  refine s_iload_n (k := 2) C (by decide +kernel) ?_
  refine s_fnV C (j2 := jX12_goesOn) (cl := 12) (nf := 27) rfl rfl (by decide +kernel) rfl w_7_212 w_7_214 w_p6_7 w_1_13 w_7_215 (by decide +kernel) (fun _ _ _ _ _ h => f_X12_goesOn h) (fun _ _ _ _ _ h => r_X12_goesOn h) ?_
  exact s_vret C rfl (by decide +kernel)
set_option maxRecDepth 20000 in
theorem b_X12_took_0 {Z : Zt} {d : Nat} {p : Program} {e : Env} {R : Room} {s : State} {m : MethodId} {args : Array Value} {below : List Frame} {meth : Method} {c : Code} {Rp : RT} (C : Cx Z (d + 8) jX12_took RX12 p R s m args meth c) : Sd Z jX12_took p e R s m args below meth c (MQ below (QcS Z Rp) args s 0 0 (fun a => Z.2.2.1 < a)) 0 (w_X12_took_0 (MS Z (d + 8)) (Gw Z 5 p e R s m args below meth c (MQ below (QcS Z Rp) args s 0 0 (fun a => Z.2.2.1 < a))) Rp) := by
  unfold w_X12_took_0
  refine s_aload_n (k := 0) C (by decide +kernel) ?_
  refine s_iload_n (k := 1) C (by decide +kernel) ?_
  refine s_iload_n (k := 2) C (by decide +kernel) ?_
  refine s_fnV C (j2 := jX12_hears) (cl := 12) (nf := 27) rfl rfl (by decide +kernel) rfl w_7_208 w_7_210 w_p6_6 w_1_13 w_7_211 (by decide +kernel) (fun _ _ _ _ _ h => f_X12_hears h) (fun _ _ _ _ _ h => r_X12_hears h) ?_
  refine s_iload_n (k := 3) C (by decide +kernel) ?_
  refine s_if_ne (off := 49) (tgt := 56) C (by decide +kernel) (by decide) (b_X12_took_56 C) ?_
  refine s_aload_n (k := 0) C (by decide +kernel) ?_
  refine s_iload_n (k := 1) C (by decide +kernel) ?_
  refine s_bipush (n := 24) C (by decide +kernel) (by decide) ?_
  refine s_iload_n (k := 2) C (by decide +kernel) ?_
  refine s_iadd C (by decide +kernel) ?_
  refine s_aload_n (k := 0) C (by decide +kernel) ?_
  refine s_iload_n (k := 1) C (by decide +kernel) ?_
  refine s_bipush (n := 24) C (by decide +kernel) (by decide) ?_
  refine s_iload_n (k := 2) C (by decide +kernel) ?_
  refine s_iadd C (by decide +kernel) ?_
  refine s_fnV C (j2 := jX12_of) (cl := 12) (nf := 27) rfl rfl (by decide +kernel) rfl w_6_220 w_6_222 w_p3_11 w_1_13 w_6_223 (by decide +kernel) (fun _ _ _ _ _ h => f_X12_of h) (fun _ _ _ _ _ h => r_X12_of h) ?_
  refine s_iload (k := 4) C (by decide +kernel) ?_
  refine s_iconst (n := 1) C (by decide +kernel) (by decide) ?_
  refine s_iadd C (by decide +kernel) ?_
  refine s_fnS C (j2 := jX12_lesser) (by decide +kernel) rfl w_7_55 w_7_56 w_1_13 w_7_57 (by decide +kernel) (fun _ _ _ _ _ h => f_X12_lesser h) ?_
  refine s_aload_n (k := 0) C (by decide +kernel) ?_
  refine s_iload_n (k := 1) C (by decide +kernel) ?_
  refine s_bipush (n := 29) C (by decide +kernel) (by decide) ?_
  refine s_iload_n (k := 2) C (by decide +kernel) ?_
  refine s_iadd C (by decide +kernel) ?_
  refine s_fnV C (j2 := jX12_of) (cl := 12) (nf := 27) rfl rfl (by decide +kernel) rfl w_6_220 w_6_222 w_p3_11 w_1_13 w_6_223 (by decide +kernel) (fun _ _ _ _ _ h => f_X12_of h) (fun _ _ _ _ _ h => r_X12_of h) ?_
  refine s_iconst (n := 1) C (by decide +kernel) (by decide) ?_
  refine s_iadd C (by decide +kernel) ?_
  refine s_fnS C (j2 := jX12_greater) (by decide +kernel) rfl w_7_58 w_7_59 w_1_13 w_7_60 (by decide +kernel) (fun _ _ _ _ _ h => f_X12_greater h) ?_
  refine s_fnV C (j2 := jX12_lays) (cl := 12) (nf := 27) rfl rfl (by decide +kernel) rfl w_6_82 w_6_84 w_p3_4 w_1_13 w_6_85 (by decide +kernel) (fun _ _ _ _ _ h => f_X12_lays h) (fun _ _ _ _ _ h => r_X12_lays h) ?_
  refine s_aload_n (k := 0) C (by decide +kernel) ?_
  refine s_iload_n (k := 1) C (by decide +kernel) ?_
  refine s_iload_n (k := 2) C (by decide +kernel) ?_
  refine s_fnV C (j2 := jX12_feeds) (cl := 12) (nf := 27) rfl rfl (by decide +kernel) rfl w_7_51 w_7_53 w_p4_12 w_1_13 w_7_54 (by decide +kernel) (fun _ _ _ _ _ h => f_X12_feeds h) (fun _ _ _ _ _ h => r_X12_feeds h) ?_
  exact s_vret C rfl (by decide +kernel)
theorem ms_X12_took {Z : Zt} {d : Nat} {S : Sh} {μ : Mi} {ρ : Mr} {Rp : RT} (a0 : Nat) (x1 : Int32) (x2 : Int32) (x3 : Int32) (x4 : Int32) (h : ∀ G : Nat → PT, w_X12_took_0 (MS Z (d + 8)) G Rp [.ref a0, .int x1, .int x2, .int x3, .int x4] [] S (0, 0) μ ρ) : MS Z (d + 9) jX12_took [.ref a0, .int x1, .int x2, .int x3, .int x4] S μ ρ Rp :=
  MS_of [.ref a0, .int x1, .int x2, .int x3, .int x4] (by decide +kernel) rfl rfl (Nat.le_of_ble_eq_true rfl) rfl (fun p e R s m args below meth c C => b_X12_took_0 C _ _ _ _ _ _ (h _ ))
def F_X12_took : FT := fun As S μ ρ k => match As with
  | [.ref a, .int s, .int f, .int o, .int p] => a = 2737 ∧ RS S ρ ∧ rg s 0 4 ∧ rg f 0 4 ∧ rg p (-1) 120 ∧ agOK (μ 2738) s.toNatClampNeg ∧ (μ 2738 (514 * s.toNatClampNeg + 5)).toInt ≤ (μ 2738 (514 * s.toNatClampNeg + 4)).toInt ∧ rg (μ 2738 (514 * s.toNatClampNeg + 12)) 0 3 ∧ rg (μ 2738 (514 * s.toNatClampNeg + 29 + f.toNatClampNeg)) 0 120 ∧ ∀ t : T4, k none (M3 μ t (qTook (μ 2738) (μ 2744 8) s.toNatClampNeg f.toNatClampNeg (¬ o = 0) p))
  | _ => False
theorem r_X12_took {As S μ ρ k} (h : F_X12_took As S μ ρ k) : ∃ a As', As = Value.ref a :: As' ∧ S.2 a = (12, 27) := by
  unfold F_X12_took at h
  split at h
  · exact ⟨_, _, rfl, by rw [h.1]; exact h.2.1.1⟩
  · exact h.elim
set_option maxHeartbeats 1000000 in
theorem f_X12_took {Z : Zt} {d : Nat} {As : List Value} {S : Sh} {μ : Mi} {ρ : Mr} {Rp : RT} (h : F_X12_took As S μ ρ (fun r μ' => Rp r S μ' ρ)) : MS Z (d + 9) jX12_took As S μ ρ Rp := by
  unfold F_X12_took at h
  split at h
  · rename_i a s f o p
    obtain ⟨rfl, hS, h⟩ := h
    have hS0 := hS
    unfold RS at hS
    obtain ⟨h1, hf, hp, h2, h3, h4, h5, h⟩ := h
    obtain ⟨s, rfl, hs0, -, hs⟩ := rg_ex h1
    obtain ⟨f, rfl, hf0, -, hf1⟩ := rg_ex hf
    have hrs := rg_T (lo := 0) (hi := 4) (n := s) (by omega) (by omega) hs0
    have hrf := rg_T (lo := 0) (hi := 4) (n := f) (by omega) (by omega) hf0
    simp (disch := omega) only [nI_clamp] at h h2 h3 h4 h5
    have hs5 : s < 5 := by omega
    have hf5 : f < 5 := by omega
    obtain ⟨t0, ht0⟩ := M3_self μ
    rw [ht0]
    generalize hA : μ 2738 = A at *
    generalize hm : μ 2744 8 = m8 at *
    have i24 : (514 : Int32) * nI s + (24 + nI f) = nI (514 * s + (24 + f)) := by rw [nad' 24 24 rfl, ixs _ _ rfl]
    have i29 : (514 : Int32) * nI s + (29 + nI f) = nI (514 * s + (29 + f)) := by rw [nad' 29 29 rfl, ixs _ _ rfl]
    refine ms_X12_took _ _ _ _ _ (fun G => ?_)
    simp only [w_X12_took_0, tAload, tIload, nth, tGetI, tGetR, tConst, tLconst, tBin, tUn, tI2l, tAld, tAldR, tAlen, tIast, tBast, tZast, tAast, tIret, tZret, tVret, tAret, tIf, tIf2, tGoto, tIstore, tAstore, sset, tIinc, tDup, tDup2, tPop, tPutI, tPutZ, tPutR, tCallV, tCallS, popN, tFn, tCopy, tMax, tMin, tSw, swc, tRem, tObjI, Option.toList, List.nil_append, List.cons_append, okR, true_and, and_true, true_or, or_true, Nat.zero_le, ne_eq, not_false_eq_true, Nat.reduceEqDiff, F_X12_hears, hS0, hrs, hrf, M3_row, M3_M3, M3_m, hm]
    simp (disch := omega) only [nI_clamp]
    refine ⟨⟨h2.1.1, h2.1.2.1, h2.1.2.2.1⟩, h4, fun t => ?_⟩
    have hb := agOK_hears (m8 := m8) (f := f) hs5 h2
    have e4 : qHears A m8 s f (514 * s + 4) = A (514 * s + 4) := qHears_out (by omega)
    have e5 : qHears A m8 s f (514 * s + 5) = A (514 * s + 5) := qHears_out (by omega)
    have e29 : qHears A m8 s f (514 * s + 29 + f) = A (514 * s + 29 + f) := qHears_out (by omega)
    unfold qTook at h
    generalize hB : qHears A m8 s f = B at *
    have hh : rg (B (514 * s + 29 + f)) 0 120 := by rw [e29]; exact h5
    simp only [w_X12_took_56, tAload, tIload, nth, tGetI, tGetR, tConst, tLconst, tBin, tUn, tI2l, tAld, tAldR, tAlen, tIast, tBast, tZast, tAast, tIret, tZret, tVret, tAret, tIf, tIf2, tGoto, tIstore, tAstore, sset, tIinc, tDup, tDup2, tPop, tPutI, tPutZ, tPutR, tCallV, tCallS, popN, tFn, tCopy, tMax, tMin, tSw, swc, tRem, tObjI, Option.toList, List.nil_append, List.cons_append, okR, true_and, and_true, true_or, or_true, Nat.zero_le, ne_eq, not_false_eq_true, Nat.reduceEqDiff, F_X12_of, F_X12_lays, F_X12_lesser, F_X12_greater, F_X12_feeds, F_X12_goesOn, hS0, hrs, hrf, M3_row, M3_upF, M3_M3, i24, i29]
    simp (disch := omega) only [nI_clamp, nI_inb]
    have x29 : 514 * s + (29 + f) = 514 * s + 29 + f := by omega
    have x24 : 514 * s + (24 + f) = 514 * s + 24 + f := by omega
    rw [x29, x24]
    have g1 : ∀ x y : Int32, (if y < x then x else y) = gt x y := fun _ _ => rfl
    have g2 : ∀ x y : Int32, (if x < y then x else y) = ls x y := fun _ _ => rfl
    have hp1 := rg_1 hp (by decide) (by decide)
    have hh1 := rg_1 hh (by decide) (by decide)
    refine ⟨fun c => ⟨by omega, by omega, by omega, by omega, ?_⟩, fun c => ⟨by omega, by omega, by omega, ?_⟩⟩
    · have hv : rg (gt (B (514 * s + 29 + f)) p) 0 120 := gt_rg hh hp.2
      have hv1 := rg_1 hv (by decide) (by decide)
      have ha1 := agOK_has (v := gt (B (514 * s + 29 + f)) p) hs5 hf5 hb
      have ha2 := agOK_next (v := (up B (514 * s + 29 + f) (gt (B (514 * s + 29 + f)) p)) (514 * s + 29 + f) + 1) hs5 hf5 ha1 (by rw [up_at]; exact rg_w hv1 (by decide) (by decide))
      refine ⟨ha2, ?_, fun t => ?_⟩
      · rw [up_ne (by omega), up_ne (by omega), up_ne (by omega), up_ne (by omega), e4, e5]; exact h3
      · have := h t
        rw [if_neg (not_not_intro c)] at this
        exact this
    · have hv : rg (gt (ls (B (514 * s + 24 + f)) (p + 1)) (B (514 * s + 29 + f) + 1)) 1 121 := by
        refine gt_rg' ?_ (rg_w hh1 (by decide) (by decide))
        unfold ls
        split
        · exact (hb.1.2.2.2 f hf5).2
        · exact hp1.2
      have ha2 := agOK_next (v := gt (ls (B (514 * s + 24 + f)) (p + 1)) (B (514 * s + 29 + f) + 1)) hs5 hf5 hb (rg_w hv (by decide) (by decide))
      refine ⟨ha2.1.1, ha2.1.2.1, ha2.1.2.2.1, ha2.1.2.2.2 f hf5, ?_⟩
      have := h t
      rw [if_pos c] at this
      exact this
  · exact h.elim
def w_X12_installed_11 (M : CT) (G : Nat → PT) (Rp : RT) : PT := tAload 0 <| tIload 1 <| tConst 29 <| tIload 2 <| tBin (fun x y => x + y) <| tAload 0 <| tIload 1 <| tConst 29 <| tIload 2 <| tBin (fun x y => x + y) <| tFn 3 F_X12_of <| tIload 3 <| tFn 2 F_X12_greater <| tFn 4 F_X12_lays <| tAload 0 <| tIload 1 <| tConst 24 <| tIload 2 <| tBin (fun x y => x + y) <| tAload 0 <| tIload 1 <| tConst 24 <| tIload 2 <| tBin (fun x y => x + y) <| tFn 3 F_X12_of <| tAload 0 <| tIload 1 <| tConst 29 <| tIload 2 <| tBin (fun x y => x + y) <| tFn 3 F_X12_of <| tConst 1 <| tBin (fun x y => x + y) <| tFn 2 F_X12_greater <| tFn 4 F_X12_lays <| tAload 0 <| tIload 1 <| tIload 2 <| tFn 3 F_X12_goesOn <| tVret Rp
def w_X12_installed_0 (M : CT) (G : Nat → PT) (Rp : RT) : PT := tAload 0 <| tIload 1 <| tIload 2 <| tFn 3 F_X12_hears <| tIload 3 <| tIf (fun x => x ≠ 0) (w_X12_installed_11 M G Rp) <| tVret Rp
set_option maxRecDepth 20000 in
theorem b_X12_installed_11 {Z : Zt} {d : Nat} {p : Program} {e : Env} {R : Room} {s : State} {m : MethodId} {args : Array Value} {below : List Frame} {meth : Method} {c : Code} {Rp : RT} (C : Cx Z (d + 8) jX12_installed RX12 p R s m args meth c) : Sd Z jX12_installed p e R s m args below meth c (MQ below (QcS Z Rp) args s 0 0 (fun a => Z.2.2.1 < a)) 11 (w_X12_installed_11 (MS Z (d + 8)) (Gw Z 4 p e R s m args below meth c (MQ below (QcS Z Rp) args s 0 0 (fun a => Z.2.2.1 < a))) Rp) := by
  unfold w_X12_installed_11
  refine s_aload_n (k := 0) C (by decide +kernel) ?_
  refine s_iload_n (k := 1) C (by decide +kernel) ?_
  refine s_bipush (n := 29) C (by decide +kernel) (by decide) ?_
  refine s_iload_n (k := 2) C (by decide +kernel) ?_
  refine s_iadd C (by decide +kernel) ?_
  refine s_aload_n (k := 0) C (by decide +kernel) ?_
  refine s_iload_n (k := 1) C (by decide +kernel) ?_
  refine s_bipush (n := 29) C (by decide +kernel) (by decide) ?_
  refine s_iload_n (k := 2) C (by decide +kernel) ?_
  refine s_iadd C (by decide +kernel) ?_
  refine s_fnV C (j2 := jX12_of) (cl := 12) (nf := 27) rfl rfl (by decide +kernel) rfl w_6_220 w_6_222 w_p3_11 w_1_13 w_6_223 (by decide +kernel) (fun _ _ _ _ _ h => f_X12_of h) (fun _ _ _ _ _ h => r_X12_of h) ?_
  refine s_iload_n (k := 3) C (by decide +kernel) ?_
  refine s_fnS C (j2 := jX12_greater) (by decide +kernel) rfl w_7_58 w_7_59 w_1_13 w_7_60 (by decide +kernel) (fun _ _ _ _ _ h => f_X12_greater h) ?_
  refine s_fnV C (j2 := jX12_lays) (cl := 12) (nf := 27) rfl rfl (by decide +kernel) rfl w_6_82 w_6_84 w_p3_4 w_1_13 w_6_85 (by decide +kernel) (fun _ _ _ _ _ h => f_X12_lays h) (fun _ _ _ _ _ h => r_X12_lays h) ?_
  refine s_aload_n (k := 0) C (by decide +kernel) ?_
  refine s_iload_n (k := 1) C (by decide +kernel) ?_
  refine s_bipush (n := 24) C (by decide +kernel) (by decide) ?_
  refine s_iload_n (k := 2) C (by decide +kernel) ?_
  refine s_iadd C (by decide +kernel) ?_
  refine s_aload_n (k := 0) C (by decide +kernel) ?_
  refine s_iload_n (k := 1) C (by decide +kernel) ?_
  refine s_bipush (n := 24) C (by decide +kernel) (by decide) ?_
  refine s_iload_n (k := 2) C (by decide +kernel) ?_
  refine s_iadd C (by decide +kernel) ?_
  refine s_fnV C (j2 := jX12_of) (cl := 12) (nf := 27) rfl rfl (by decide +kernel) rfl w_6_220 w_6_222 w_p3_11 w_1_13 w_6_223 (by decide +kernel) (fun _ _ _ _ _ h => f_X12_of h) (fun _ _ _ _ _ h => r_X12_of h) ?_
  refine s_aload_n (k := 0) C (by decide +kernel) ?_
  refine s_iload_n (k := 1) C (by decide +kernel) ?_
  refine s_bipush (n := 29) C (by decide +kernel) (by decide) ?_
  refine s_iload_n (k := 2) C (by decide +kernel) ?_
  refine s_iadd C (by decide +kernel) ?_
  refine s_fnV C (j2 := jX12_of) (cl := 12) (nf := 27) rfl rfl (by decide +kernel) rfl w_6_220 w_6_222 w_p3_11 w_1_13 w_6_223 (by decide +kernel) (fun _ _ _ _ _ h => f_X12_of h) (fun _ _ _ _ _ h => r_X12_of h) ?_
  refine s_iconst (n := 1) C (by decide +kernel) (by decide) ?_
  refine s_iadd C (by decide +kernel) ?_
  refine s_fnS C (j2 := jX12_greater) (by decide +kernel) rfl w_7_58 w_7_59 w_1_13 w_7_60 (by decide +kernel) (fun _ _ _ _ _ h => f_X12_greater h) ?_
  refine s_fnV C (j2 := jX12_lays) (cl := 12) (nf := 27) rfl rfl (by decide +kernel) rfl w_6_82 w_6_84 w_p3_4 w_1_13 w_6_85 (by decide +kernel) (fun _ _ _ _ _ h => f_X12_lays h) (fun _ _ _ _ _ h => r_X12_lays h) ?_
  refine s_aload_n (k := 0) C (by decide +kernel) ?_
  refine s_iload_n (k := 1) C (by decide +kernel) ?_
  refine s_iload_n (k := 2) C (by decide +kernel) ?_
  refine s_fnV C (j2 := jX12_goesOn) (cl := 12) (nf := 27) rfl rfl (by decide +kernel) rfl w_7_212 w_7_214 w_p6_7 w_1_13 w_7_215 (by decide +kernel) (fun _ _ _ _ _ h => f_X12_goesOn h) (fun _ _ _ _ _ h => r_X12_goesOn h) ?_
  exact s_vret C rfl (by decide +kernel)
set_option maxRecDepth 20000 in
theorem b_X12_installed_0 {Z : Zt} {d : Nat} {p : Program} {e : Env} {R : Room} {s : State} {m : MethodId} {args : Array Value} {below : List Frame} {meth : Method} {c : Code} {Rp : RT} (C : Cx Z (d + 8) jX12_installed RX12 p R s m args meth c) : Sd Z jX12_installed p e R s m args below meth c (MQ below (QcS Z Rp) args s 0 0 (fun a => Z.2.2.1 < a)) 0 (w_X12_installed_0 (MS Z (d + 8)) (Gw Z 4 p e R s m args below meth c (MQ below (QcS Z Rp) args s 0 0 (fun a => Z.2.2.1 < a))) Rp) := by
  unfold w_X12_installed_0
  refine s_aload_n (k := 0) C (by decide +kernel) ?_
  refine s_iload_n (k := 1) C (by decide +kernel) ?_
  refine s_iload_n (k := 2) C (by decide +kernel) ?_
  refine s_fnV C (j2 := jX12_hears) (cl := 12) (nf := 27) rfl rfl (by decide +kernel) rfl w_7_208 w_7_210 w_p6_6 w_1_13 w_7_211 (by decide +kernel) (fun _ _ _ _ _ h => f_X12_hears h) (fun _ _ _ _ _ h => r_X12_hears h) ?_
  refine s_iload_n (k := 3) C (by decide +kernel) ?_
  refine s_if_ne (off := 4) (tgt := 11) C (by decide +kernel) (by decide) (b_X12_installed_11 C) ?_
  exact s_vret C rfl (by decide +kernel)
theorem ms_X12_installed {Z : Zt} {d : Nat} {S : Sh} {μ : Mi} {ρ : Mr} {Rp : RT} (a0 : Nat) (x1 : Int32) (x2 : Int32) (x3 : Int32) (h : ∀ G : Nat → PT, w_X12_installed_0 (MS Z (d + 8)) G Rp [.ref a0, .int x1, .int x2, .int x3] [] S (0, 0) μ ρ) : MS Z (d + 9) jX12_installed [.ref a0, .int x1, .int x2, .int x3] S μ ρ Rp :=
  MS_of [.ref a0, .int x1, .int x2, .int x3] (by decide +kernel) rfl rfl (Nat.le_of_ble_eq_true rfl) rfl (fun p e R s m args below meth c C => b_X12_installed_0 C _ _ _ _ _ _ (h _ ))
def F_X12_installed : FT := fun As S μ ρ k => match As with
  | [.ref a, .int s, .int f, .int p] => a = 2737 ∧ RS S ρ ∧ rg s 0 4 ∧ rg f 0 4 ∧ rg p 0 120 ∧ agOK (μ 2738) s.toNatClampNeg ∧ (μ 2738 (514 * s.toNatClampNeg + 5)).toInt ≤ (μ 2738 (514 * s.toNatClampNeg + 4)).toInt ∧ rg (μ 2738 (514 * s.toNatClampNeg + 12)) 0 3 ∧ rg (μ 2738 (514 * s.toNatClampNeg + 29 + f.toNatClampNeg)) 0 120 ∧ ∀ t : T4, k none (M3 μ t (qInstalled (μ 2738) (μ 2744 8) s.toNatClampNeg f.toNatClampNeg p))
  | _ => False
theorem r_X12_installed {As S μ ρ k} (h : F_X12_installed As S μ ρ k) : ∃ a As', As = Value.ref a :: As' ∧ S.2 a = (12, 27) := by
  unfold F_X12_installed at h
  split at h
  · exact ⟨_, _, rfl, by rw [h.1]; exact h.2.1.1⟩
  · exact h.elim
set_option maxHeartbeats 1000000 in
theorem f_X12_installed {Z : Zt} {d : Nat} {As : List Value} {S : Sh} {μ : Mi} {ρ : Mr} {Rp : RT} (h : F_X12_installed As S μ ρ (fun r μ' => Rp r S μ' ρ)) : MS Z (d + 9) jX12_installed As S μ ρ Rp := by
  unfold F_X12_installed at h
  split at h
  · rename_i a s f p
    obtain ⟨rfl, hS, h⟩ := h
    have hS0 := hS
    unfold RS at hS
    obtain ⟨h1, hf, hp, h2, h3, h4, h5, h⟩ := h
    obtain ⟨s, rfl, hs0, -, hs⟩ := rg_ex h1
    obtain ⟨f, rfl, hf0, -, hf1⟩ := rg_ex hf
    have hrs := rg_T (lo := 0) (hi := 4) (n := s) (by omega) (by omega) hs0
    have hrf := rg_T (lo := 0) (hi := 4) (n := f) (by omega) (by omega) hf0
    simp (disch := omega) only [nI_clamp] at h h2 h3 h4 h5
    have hs5 : s < 5 := by omega
    have hf5 : f < 5 := by omega
    obtain ⟨t0, ht0⟩ := M3_self μ
    rw [ht0]
    generalize hA : μ 2738 = A at *
    generalize hm : μ 2744 8 = m8 at *
    have i24 : (514 : Int32) * nI s + (24 + nI f) = nI (514 * s + (24 + f)) := by rw [nad' 24 24 rfl, ixs _ _ rfl]
    have i29 : (514 : Int32) * nI s + (29 + nI f) = nI (514 * s + (29 + f)) := by rw [nad' 29 29 rfl, ixs _ _ rfl]
    refine ms_X12_installed _ _ _ _ (fun G => ?_)
    simp only [w_X12_installed_0, tAload, tIload, nth, tGetI, tGetR, tConst, tLconst, tBin, tUn, tI2l, tAld, tAldR, tAlen, tIast, tBast, tZast, tAast, tIret, tZret, tVret, tAret, tIf, tIf2, tGoto, tIstore, tAstore, sset, tIinc, tDup, tDup2, tPop, tPutI, tPutZ, tPutR, tCallV, tCallS, popN, tFn, tCopy, tMax, tMin, tSw, swc, tRem, tObjI, Option.toList, List.nil_append, List.cons_append, okR, true_and, and_true, true_or, or_true, Nat.zero_le, ne_eq, not_false_eq_true, Nat.reduceEqDiff, F_X12_hears, hS0, hrs, hrf, M3_row, M3_M3, M3_m, hm]
    simp (disch := omega) only [nI_clamp]
    refine ⟨⟨h2.1.1, h2.1.2.1, h2.1.2.2.1⟩, h4, fun t => ?_⟩
    have hb := agOK_hears (m8 := m8) (f := f) hs5 h2
    have e4 : qHears A m8 s f (514 * s + 4) = A (514 * s + 4) := qHears_out (by omega)
    have e5 : qHears A m8 s f (514 * s + 5) = A (514 * s + 5) := qHears_out (by omega)
    have e29 : qHears A m8 s f (514 * s + 29 + f) = A (514 * s + 29 + f) := qHears_out (by omega)
    unfold qInstalled at h
    generalize hB : qHears A m8 s f = B at *
    have hh : rg (B (514 * s + 29 + f)) 0 120 := by rw [e29]; exact h5
    simp only [w_X12_installed_11, tAload, tIload, nth, tGetI, tGetR, tConst, tLconst, tBin, tUn, tI2l, tAld, tAldR, tAlen, tIast, tBast, tZast, tAast, tIret, tZret, tVret, tAret, tIf, tIf2, tGoto, tIstore, tAstore, sset, tIinc, tDup, tDup2, tPop, tPutI, tPutZ, tPutR, tCallV, tCallS, popN, tFn, tCopy, tMax, tMin, tSw, swc, tRem, tObjI, Option.toList, List.nil_append, List.cons_append, okR, true_and, and_true, true_or, or_true, Nat.zero_le, ne_eq, not_false_eq_true, Nat.reduceEqDiff, F_X12_of, F_X12_lays, F_X12_greater, F_X12_goesOn, hS0, hrs, hrf, M3_row, M3_upF, M3_M3, i24, i29, Decidable.not_not]
    simp (disch := omega) only [nI_clamp, nI_inb]
    have x29 : 514 * s + (29 + f) = 514 * s + 29 + f := by omega
    have x24 : 514 * s + (24 + f) = 514 * s + 24 + f := by omega
    rw [x29, x24]
    refine ⟨fun c => ⟨by omega, by omega, by omega, by omega, by omega, ?_⟩, fun c => ?_⟩
    · have hv : rg (gt (B (514 * s + 29 + f)) p) 0 120 := gt_rg hh hp.2
      have hv1 := rg_1 hv (by decide) (by decide)
      have ha1 := agOK_has (v := gt (B (514 * s + 29 + f)) p) hs5 hf5 hb
      generalize hB2 : up B (514 * s + 29 + f) (gt (B (514 * s + 29 + f)) p) = B2 at *
      have e2 : B2 (514 * s + 29 + f) = gt (B (514 * s + 29 + f)) p := by rw [← hB2, up_at]
      have ha2 := agOK_next (v := gt (B2 (514 * s + 24 + f)) (B2 (514 * s + 29 + f) + 1)) hs5 hf5 ha1 (by rw [e2]; exact rg_w (gt_rg' (lo := 1) (ha1.1.2.2.2 f hf5).2 (rg_w hv1 (by decide) (by decide))) (by decide) (by decide))
      have q4 : B2 (514 * s + 4) = A (514 * s + 4) := by rw [← hB2, up_ne (by omega), e4]
      have q5 : B2 (514 * s + 5) = A (514 * s + 5) := by rw [← hB2, up_ne (by omega), e5]
      have ht := h
      simp only [show (if p < B (514 * s + 29 + f) then B (514 * s + 29 + f) else p) = gt (B (514 * s + 29 + f)) p from rfl, hB2]
      refine ⟨ha2, ?_, fun t => ?_⟩
      · rw [up_ne (by omega), up_ne (by omega), q4, q5]; exact h3
      · have := h t
        rw [if_neg c] at this
        simp only [hB2] at this
        exact this
    · have := h t
      rw [if_pos c] at this
      exact this
  · exact h.elim
def snF (A g : Rw) (s k : Nat) : Rw := fun i => if 514 * s + 16 ≤ i ∧ i < 514 * s + 16 + k then g (9 + (i - (514 * s + 16))) else if 514 * s + 20 ≤ i ∧ i < 514 * s + 20 + k then g (9 + (i - (514 * s + 20))) else A i
theorem snF_0 {A g : Rw} {s : Nat} : snF A g s 0 = A := by
  funext i; unfold snF; rw [if_neg (by omega), if_neg (by omega)]
theorem snF_s {A g : Rw} {s k : Nat} (hk : k < 4) : up (up (snF A g s k) (514 * s + 16 + k) (g (9 + k))) (514 * s + 20 + k) (g (9 + k)) = snF A g s (k + 1) := by
  funext i
  unfold up snF
  by_cases h1 : i = 514 * s + 20 + k
  · rw [if_pos h1, if_neg (by omega), if_pos (by omega), show 9 + (i - (514 * s + 20)) = 9 + k by omega]
  · rw [if_neg h1]
    by_cases h2 : i = 514 * s + 16 + k
    · rw [if_pos h2, if_pos (by omega), show 9 + (i - (514 * s + 16)) = 9 + k by omega]
    · rw [if_neg h2]
      by_cases h3 : 514 * s + 16 ≤ i ∧ i < 514 * s + 16 + k
      · rw [if_pos h3, if_pos (by omega)]
      · rw [if_neg h3, if_neg (show ¬ (514 * s + 16 ≤ i ∧ i < 514 * s + 16 + (k + 1)) by omega)]
        by_cases h4 : 514 * s + 20 ≤ i ∧ i < 514 * s + 20 + k
        · rw [if_pos h4, if_pos (by omega)]
        · rw [if_neg h4, if_neg (by omega)]
def w_X12_takesSnapshot_95 (M : CT) (G : Nat → PT) (Rp : RT) : PT := tAload 0 <| tIload 1 <| tConst 9 <| tAload 0 <| tGetR 12 27 12 <| tConst 13 <| tAld 20 <| tFn 4 F_X12_lays <| tAload 0 <| tIload 1 <| tConst 10 <| tAload 0 <| tGetR 12 27 12 <| tConst 14 <| tAld 20 <| tFn 4 F_X12_lays <| tVret Rp
def w_X12_takesSnapshot_43 (M : CT) (G : Nat → PT) (Rp : RT) : PT := tIload 4 <| tConst 4 <| tIf2 (fun x y => y ≤ x) (w_X12_takesSnapshot_95 M G Rp) <| tAload 0 <| tIload 1 <| tConst 16 <| tIload 4 <| tBin (fun x y => x + y) <| tAload 0 <| tGetR 12 27 12 <| tConst 9 <| tIload 4 <| tBin (fun x y => x + y) <| tAld 20 <| tFn 4 F_X12_lays <| tAload 0 <| tIload 1 <| tConst 20 <| tIload 4 <| tBin (fun x y => x + y) <| tAload 0 <| tGetR 12 27 12 <| tConst 9 <| tIload 4 <| tBin (fun x y => x + y) <| tAld 20 <| tFn 4 F_X12_lays <| tIinc 4 1 <| tGoto (G 43)
def w_X12_takesSnapshot_17 (M : CT) (G : Nat → PT) (Rp : RT) : PT := tAload 0 <| tIload 1 <| tConst 5 <| tIload 2 <| tFn 4 F_X12_lays <| tAload 0 <| tIload 1 <| tConst 6 <| tIload 3 <| tFn 4 F_X12_lays <| tAload 0 <| tIload 1 <| tConst 7 <| tIload 2 <| tFn 4 F_X12_lays <| tConst 0 <| tIstore 4 <| G 43
def w_X12_takesSnapshot_0 (M : CT) (G : Nat → PT) (Rp : RT) : PT := tAload 0 <| tIload 1 <| tIload 2 <| tFn 3 F_X12_termAt <| tIload 3 <| tIf2 (fun x y => x = y) (w_X12_takesSnapshot_17 M G Rp) <| tAload 0 <| tIload 1 <| tConst 4 <| tIload 2 <| tFn 4 F_X12_lays <| w_X12_takesSnapshot_17 M G Rp
set_option maxRecDepth 20000 in
theorem b_X12_takesSnapshot_95 {Z : Zt} {d : Nat} {p : Program} {e : Env} {R : Room} {s : State} {m : MethodId} {args : Array Value} {below : List Frame} {meth : Method} {c : Code} {Rp : RT} (C : Cx Z (d + 3) jX12_takesSnapshot RX12 p R s m args meth c) : Sd Z jX12_takesSnapshot p e R s m args below meth c (MQ below (QcS Z Rp) args s 0 0 (fun a => Z.2.2.1 < a)) 95 (w_X12_takesSnapshot_95 (MS Z (d + 3)) (Gw Z 5 p e R s m args below meth c (MQ below (QcS Z Rp) args s 0 0 (fun a => Z.2.2.1 < a))) Rp) := by
  unfold w_X12_takesSnapshot_95
  refine s_aload_n (k := 0) C (by decide +kernel) ?_
  refine s_iload_n (k := 1) C (by decide +kernel) ?_
  refine s_bipush (n := 9) C (by decide +kernel) (by decide) ?_
  refine s_aload_n (k := 0) C (by decide +kernel) ?_
  refine s_getR C w_6_99 (by decide +kernel) rfl ?_
  refine s_bipush (n := 13) C (by decide +kernel) (by decide) ?_
  refine s_iald C (by decide +kernel) ?_
  refine s_fnV C (j2 := jX12_lays) (cl := 12) (nf := 27) rfl rfl (by decide +kernel) rfl w_6_82 w_6_84 w_p3_4 w_1_13 w_6_85 (by decide +kernel) (fun _ _ _ _ _ h => f_X12_lays h) (fun _ _ _ _ _ h => r_X12_lays h) ?_
  refine s_aload_n (k := 0) C (by decide +kernel) ?_
  refine s_iload_n (k := 1) C (by decide +kernel) ?_
  refine s_bipush (n := 10) C (by decide +kernel) (by decide) ?_
  refine s_aload_n (k := 0) C (by decide +kernel) ?_
  refine s_getR C w_6_99 (by decide +kernel) rfl ?_
  refine s_bipush (n := 14) C (by decide +kernel) (by decide) ?_
  refine s_iald C (by decide +kernel) ?_
  refine s_fnV C (j2 := jX12_lays) (cl := 12) (nf := 27) rfl rfl (by decide +kernel) rfl w_6_82 w_6_84 w_p3_4 w_1_13 w_6_85 (by decide +kernel) (fun _ _ _ _ _ h => f_X12_lays h) (fun _ _ _ _ _ h => r_X12_lays h) ?_
  exact s_vret C rfl (by decide +kernel)
set_option maxRecDepth 20000 in
theorem b_X12_takesSnapshot_43 {Z : Zt} {d : Nat} {p : Program} {e : Env} {R : Room} {s : State} {m : MethodId} {args : Array Value} {below : List Frame} {meth : Method} {c : Code} {Rp : RT} (C : Cx Z (d + 3) jX12_takesSnapshot RX12 p R s m args meth c) : Sd Z jX12_takesSnapshot p e R s m args below meth c (MQ below (QcS Z Rp) args s 0 0 (fun a => Z.2.2.1 < a)) 43 (w_X12_takesSnapshot_43 (MS Z (d + 3)) (Gw Z 5 p e R s m args below meth c (MQ below (QcS Z Rp) args s 0 0 (fun a => Z.2.2.1 < a))) Rp) := by
  unfold w_X12_takesSnapshot_43
  refine s_iload (k := 4) C (by decide +kernel) ?_
  refine s_iconst (n := 4) C (by decide +kernel) (by decide) ?_
  refine s_icmp_ge (off := 49) (tgt := 95) C (by decide +kernel) (by decide) (b_X12_takesSnapshot_95 C) ?_
  refine s_aload_n (k := 0) C (by decide +kernel) ?_
  refine s_iload_n (k := 1) C (by decide +kernel) ?_
  refine s_bipush (n := 16) C (by decide +kernel) (by decide) ?_
  refine s_iload (k := 4) C (by decide +kernel) ?_
  refine s_iadd C (by decide +kernel) ?_
  refine s_aload_n (k := 0) C (by decide +kernel) ?_
  refine s_getR C w_6_99 (by decide +kernel) rfl ?_
  refine s_bipush (n := 9) C (by decide +kernel) (by decide) ?_
  refine s_iload (k := 4) C (by decide +kernel) ?_
  refine s_iadd C (by decide +kernel) ?_
  refine s_iald C (by decide +kernel) ?_
  refine s_fnV C (j2 := jX12_lays) (cl := 12) (nf := 27) rfl rfl (by decide +kernel) rfl w_6_82 w_6_84 w_p3_4 w_1_13 w_6_85 (by decide +kernel) (fun _ _ _ _ _ h => f_X12_lays h) (fun _ _ _ _ _ h => r_X12_lays h) ?_
  refine s_aload_n (k := 0) C (by decide +kernel) ?_
  refine s_iload_n (k := 1) C (by decide +kernel) ?_
  refine s_bipush (n := 20) C (by decide +kernel) (by decide) ?_
  refine s_iload (k := 4) C (by decide +kernel) ?_
  refine s_iadd C (by decide +kernel) ?_
  refine s_aload_n (k := 0) C (by decide +kernel) ?_
  refine s_getR C w_6_99 (by decide +kernel) rfl ?_
  refine s_bipush (n := 9) C (by decide +kernel) (by decide) ?_
  refine s_iload (k := 4) C (by decide +kernel) ?_
  refine s_iadd C (by decide +kernel) ?_
  refine s_iald C (by decide +kernel) ?_
  refine s_fnV C (j2 := jX12_lays) (cl := 12) (nf := 27) rfl rfl (by decide +kernel) rfl w_6_82 w_6_84 w_p3_4 w_1_13 w_6_85 (by decide +kernel) (fun _ _ _ _ _ h => f_X12_lays h) (fun _ _ _ _ _ h => r_X12_lays h) ?_
  refine s_iinc (n := 1) C (by decide +kernel) (by decide) ?_
  exact s_goto (off := (-49)) (tgt := 43) C (by decide +kernel) (by decide) (fun _ _ _ _ _ _ h => h)
set_option maxRecDepth 20000 in
theorem b_X12_takesSnapshot_17 {Z : Zt} {d : Nat} {p : Program} {e : Env} {R : Room} {s : State} {m : MethodId} {args : Array Value} {below : List Frame} {meth : Method} {c : Code} {Rp : RT} (C : Cx Z (d + 3) jX12_takesSnapshot RX12 p R s m args meth c) : Sd Z jX12_takesSnapshot p e R s m args below meth c (MQ below (QcS Z Rp) args s 0 0 (fun a => Z.2.2.1 < a)) 17 (w_X12_takesSnapshot_17 (MS Z (d + 3)) (Gw Z 5 p e R s m args below meth c (MQ below (QcS Z Rp) args s 0 0 (fun a => Z.2.2.1 < a))) Rp) := by
  unfold w_X12_takesSnapshot_17
  refine s_aload_n (k := 0) C (by decide +kernel) ?_
  refine s_iload_n (k := 1) C (by decide +kernel) ?_
  refine s_iconst (n := 5) C (by decide +kernel) (by decide) ?_
  refine s_iload_n (k := 2) C (by decide +kernel) ?_
  refine s_fnV C (j2 := jX12_lays) (cl := 12) (nf := 27) rfl rfl (by decide +kernel) rfl w_6_82 w_6_84 w_p3_4 w_1_13 w_6_85 (by decide +kernel) (fun _ _ _ _ _ h => f_X12_lays h) (fun _ _ _ _ _ h => r_X12_lays h) ?_
  refine s_aload_n (k := 0) C (by decide +kernel) ?_
  refine s_iload_n (k := 1) C (by decide +kernel) ?_
  refine s_bipush (n := 6) C (by decide +kernel) (by decide) ?_
  refine s_iload_n (k := 3) C (by decide +kernel) ?_
  refine s_fnV C (j2 := jX12_lays) (cl := 12) (nf := 27) rfl rfl (by decide +kernel) rfl w_6_82 w_6_84 w_p3_4 w_1_13 w_6_85 (by decide +kernel) (fun _ _ _ _ _ h => f_X12_lays h) (fun _ _ _ _ _ h => r_X12_lays h) ?_
  refine s_aload_n (k := 0) C (by decide +kernel) ?_
  refine s_iload_n (k := 1) C (by decide +kernel) ?_
  refine s_bipush (n := 7) C (by decide +kernel) (by decide) ?_
  refine s_iload_n (k := 2) C (by decide +kernel) ?_
  refine s_fnV C (j2 := jX12_lays) (cl := 12) (nf := 27) rfl rfl (by decide +kernel) rfl w_6_82 w_6_84 w_p3_4 w_1_13 w_6_85 (by decide +kernel) (fun _ _ _ _ _ h => f_X12_lays h) (fun _ _ _ _ _ h => r_X12_lays h) ?_
  refine s_iconst (n := 0) C (by decide +kernel) (by decide) ?_
  refine s_istore (k := 4) C (by decide +kernel) ?_
  exact (fun _ _ _ _ _ _ h => h)
set_option maxRecDepth 20000 in
theorem b_X12_takesSnapshot_0 {Z : Zt} {d : Nat} {p : Program} {e : Env} {R : Room} {s : State} {m : MethodId} {args : Array Value} {below : List Frame} {meth : Method} {c : Code} {Rp : RT} (C : Cx Z (d + 3) jX12_takesSnapshot RX12 p R s m args meth c) : Sd Z jX12_takesSnapshot p e R s m args below meth c (MQ below (QcS Z Rp) args s 0 0 (fun a => Z.2.2.1 < a)) 0 (w_X12_takesSnapshot_0 (MS Z (d + 3)) (Gw Z 5 p e R s m args below meth c (MQ below (QcS Z Rp) args s 0 0 (fun a => Z.2.2.1 < a))) Rp) := by
  unfold w_X12_takesSnapshot_0
  refine s_aload_n (k := 0) C (by decide +kernel) ?_
  refine s_iload_n (k := 1) C (by decide +kernel) ?_
  refine s_iload_n (k := 2) C (by decide +kernel) ?_
  refine s_fnV C (j2 := jX12_termAt) (cl := 12) (nf := 27) rfl rfl (by decide +kernel) rfl w_7_23 w_7_25 w_p4_5 w_1_13 w_7_26 (by decide +kernel) (fun _ _ _ _ _ h => f_X12_termAt h) (fun _ _ _ _ _ h => r_X12_termAt h) ?_
  refine s_iload_n (k := 3) C (by decide +kernel) ?_
  refine s_icmp_eq (off := 10) (tgt := 17) C (by decide +kernel) (by decide) (b_X12_takesSnapshot_17 C) ?_
  refine s_aload_n (k := 0) C (by decide +kernel) ?_
  refine s_iload_n (k := 1) C (by decide +kernel) ?_
  refine s_iconst (n := 4) C (by decide +kernel) (by decide) ?_
  refine s_iload_n (k := 2) C (by decide +kernel) ?_
  refine s_fnV C (j2 := jX12_lays) (cl := 12) (nf := 27) rfl rfl (by decide +kernel) rfl w_6_82 w_6_84 w_p3_4 w_1_13 w_6_85 (by decide +kernel) (fun _ _ _ _ _ h => f_X12_lays h) (fun _ _ _ _ _ h => r_X12_lays h) ?_
  exact (b_X12_takesSnapshot_17 C)
theorem ms_X12_takesSnapshot {Z : Zt} {d : Nat} {S : Sh} {μ : Mi} {ρ : Mr} {Rp : RT} (a0 : Nat) (x1 : Int32) (x2 : Int32) (x3 : Int32) (h : ∀ G : Nat → PT, (∀ (L st : List Value) (S : Sh) (q : Nat × Nat) (μ : Mi) (ρ : Mr), w_X12_takesSnapshot_43 (MS Z (d + 3)) G Rp L st S q μ ρ → G 43 L st S q μ ρ) → w_X12_takesSnapshot_0 (MS Z (d + 3)) G Rp [.ref a0, .int x1, .int x2, .int x3, .null] [] S (0, 0) μ ρ) : MS Z (d + 4) jX12_takesSnapshot [.ref a0, .int x1, .int x2, .int x3] S μ ρ Rp :=
  MS_of [.ref a0, .int x1, .int x2, .int x3, .null] (by decide +kernel) rfl rfl (Nat.le_of_ble_eq_true rfl) rfl (fun p e R s m args below meth c C => b_X12_takesSnapshot_0 C _ _ _ _ _ _ (h _ (b_X12_takesSnapshot_43 C)))
def F_X12_takesSnapshot : FT := fun As S μ ρ k => match As with
  | [.ref a, .int s, .int p, .int t] => a = 2737 ∧ RS S ρ ∧ rg s 0 4 ∧ bsOK (μ 2738) s.toNatClampNeg ∧ k none (upF μ 2738 (qSnapIn (μ 2738) (μ 2744) s.toNatClampNeg p t))
  | _ => False
theorem r_X12_takesSnapshot {As S μ ρ k} (h : F_X12_takesSnapshot As S μ ρ k) : ∃ a As', As = Value.ref a :: As' ∧ S.2 a = (12, 27) := by
  unfold F_X12_takesSnapshot at h
  split at h
  · exact ⟨_, _, rfl, by rw [h.1]; exact h.2.1.1⟩
  · exact h.elim
set_option maxHeartbeats 1000000 in
theorem f_X12_takesSnapshot {Z : Zt} {d : Nat} {As : List Value} {S : Sh} {μ : Mi} {ρ : Mr} {Rp : RT} (h : F_X12_takesSnapshot As S μ ρ (fun r μ' => Rp r S μ' ρ)) : MS Z (d + 4) jX12_takesSnapshot As S μ ρ Rp := by
  unfold F_X12_takesSnapshot at h
  split at h
  · rename_i a s p t
    obtain ⟨rfl, hS, h⟩ := h
    have hS0 := hS
    unfold RS at hS
    obtain ⟨h1, h2, h⟩ := h
    obtain ⟨s, rfl, hs0, -, hs⟩ := rg_ex h1
    have hrs := rg_T (lo := 0) (hi := 4) (n := s) (by omega) (by omega) hs0
    simp (disch := omega) only [nI_clamp] at h h2
    obtain ⟨k1, k2, k3⟩ := h2
    have hs5 : s < 5 := by omega
    have n1 : (2744 : Nat) ≠ 2738 := by decide
    have i4 : (514 : Int32) * nI s + 4 = nI (514 * s + 4) := ixs 4 4 rfl
    have i5 : (514 : Int32) * nI s + 5 = nI (514 * s + 5) := ixs 5 5 rfl
    have i6 : (514 : Int32) * nI s + 6 = nI (514 * s + 6) := ixs 6 6 rfl
    have i7 : (514 : Int32) * nI s + 7 = nI (514 * s + 7) := ixs 7 7 rfl
    have i9 : (514 : Int32) * nI s + 9 = nI (514 * s + 9) := ixs 9 9 rfl
    have i10 : (514 : Int32) * nI s + 10 = nI (514 * s + 10) := ixs 10 10 rfl
    have j13 : inb 13 21 := inb_nI (k := 13) (by decide) (by decide)
    have j14 : inb 14 21 := inb_nI (k := 14) (by decide) (by decide)
    have e0 : μ = upF μ 2738 (μ 2738) := upF_id.symm
    refine ms_X12_takesSnapshot _ _ _ _ (fun G g43 => ?_)
    have fin : ∀ (A1 : Rw) (v : Value), (A1 = if qTermAt (μ 2738) s p = t then μ 2738 else up (μ 2738) (514 * s + 4) p) → w_X12_takesSnapshot_17 (MS Z (d + 3)) G Rp [.ref 2737, .int (nI s), .int p, .int t, v] [] S (0, 0) (upF μ 2738 A1) ρ := by
      intro A1 v hA1
      simp only [w_X12_takesSnapshot_17, tAload, tIload, nth, tGetI, tGetR, tConst, tLconst, tBin, tUn, tI2l, tAld, tAldR, tAlen, tIast, tBast, tZast, tAast, tIret, tZret, tVret, tAret, tIf, tIf2, tGoto, tIstore, tAstore, sset, tIinc, tDup, tDup2, tPop, tPutI, tPutZ, tPutR, tCallV, tCallS, popN, tFn, tCopy, tMax, tMin, tSw, swc, tRem, tObjI, Option.toList, List.nil_append, List.cons_append, okR, true_and, and_true, true_or, or_true, Nat.zero_le, ne_eq, not_false_eq_true, Nat.reduceEqDiff, F_X12_lays, hS0, upF_same, upF_upF, i5, i6, i7]
      simp (disch := omega) only [nI_clamp, nI_inb]
      refine ⟨by omega, by omega, by omega, ?_⟩
      generalize hA2 : up (up (up A1 (514 * s + 5) p) (514 * s + 6) t) (514 * s + 7) p = A2
      have loop : ∀ n k : Nat, n + k = 4 → G 43 [.ref 2737, .int (nI s), .int p, .int t, .int (nI k)] [] S (0, 0) (upF μ 2738 (snF A2 (μ 2744) s k)) ρ := by
        intro n
        induction n with
        | zero =>
          intro k hk
          obtain rfl : k = 4 := by omega
          refine g43 _ _ _ _ _ _ ?_
          simp only [w_X12_takesSnapshot_43, w_X12_takesSnapshot_95, tAload, tIload, nth, tGetI, tGetR, tConst, tLconst, tBin, tUn, tI2l, tAld, tAldR, tAlen, tIast, tBast, tZast, tAast, tIret, tZret, tVret, tAret, tIf, tIf2, tGoto, tIstore, tAstore, sset, tIinc, tDup, tDup2, tPop, tPutI, tPutZ, tPutR, tCallV, tCallS, popN, tFn, tCopy, tMax, tMin, tSw, swc, tRem, tObjI, Option.toList, List.nil_append, List.cons_append, okR, true_and, and_true, true_or, or_true, Nat.zero_le, ne_eq, not_false_eq_true, Nat.reduceEqDiff, F_X12_lays, hS0, hS, upF_same, upF_upF, upF_ne n1, i9, i10, j13, j14, cl_13, cl_14]
          simp (disch := omega) only [nI_clamp, nI_inb]
          refine ⟨fun _ => ⟨by omega, by omega, ?_⟩, fun c => absurd (by decide) c⟩
          unfold qSnapIn at h
          rw [← hA1] at h
          simp only [hA2] at h
          exact h
        | succ n ih =>
          intro k hk
          have hk4 : k < 4 := by omega
          refine g43 _ _ _ _ _ _ ?_
          simp only [w_X12_takesSnapshot_43, tAload, tIload, nth, tGetI, tGetR, tConst, tLconst, tBin, tUn, tI2l, tAld, tAldR, tAlen, tIast, tBast, tZast, tAast, tIret, tZret, tVret, tAret, tIf, tIf2, tGoto, tIstore, tAstore, sset, tIinc, tDup, tDup2, tPop, tPutI, tPutZ, tPutR, tCallV, tCallS, popN, tFn, tCopy, tMax, tMin, tSw, swc, tRem, tObjI, Option.toList, List.nil_append, List.cons_append, okR, true_and, and_true, true_or, or_true, Nat.zero_le, ne_eq, not_false_eq_true, Nat.reduceEqDiff, F_X12_lays, hS0, hS, upF_same, upF_upF, upF_ne n1]
          rw [nad' 16 16 rfl, nad' 20 20 rfl, nad' 9 9 rfl]
          simp (disch := omega) only [ixs (16 + k) _ rfl, ixs (20 + k) _ rfl, nI_clamp, nI_inb]
          have lt4 : ¬ (4 : Int32) ≤ nI k := by
            rw [show (4 : Int32) = nI 4 from rfl, nI_leI (by decide) (by omega)]; omega
          refine ⟨fun c => absurd c lt4, fun _ => ⟨by omega, by omega, by omega, ?_⟩⟩
          have := ih (k + 1) (by omega)
          rw [← snF_s hk4] at this
          rw [nI_1, ← Nat.add_assoc, ← Nat.add_assoc]
          exact ⟨by omega, this⟩
      have := loop 4 0 rfl
      rw [snF_0] at this
      exact this
    simp only [w_X12_takesSnapshot_0, tAload, tIload, nth, tGetI, tGetR, tConst, tLconst, tBin, tUn, tI2l, tAld, tAldR, tAlen, tIast, tBast, tZast, tAast, tIret, tZret, tVret, tAret, tIf, tIf2, tGoto, tIstore, tAstore, sset, tIinc, tDup, tDup2, tPop, tPutI, tPutZ, tPutR, tCallV, tCallS, popN, tFn, tCopy, tMax, tMin, tSw, swc, tRem, tObjI, Option.toList, List.nil_append, List.cons_append, okR, true_and, and_true, true_or, or_true, Nat.zero_le, ne_eq, not_false_eq_true, Nat.reduceEqDiff, F_X12_termAt, F_X12_lays, hS0, hrs, i4]
    simp (disch := omega) only [nI_clamp, nI_inb]
    refine ⟨k2, k3, fun c => ?_, fun c => ⟨by omega, fin _ _ (by rw [if_neg c])⟩⟩
    have := fin (μ 2738) .null (by rw [if_pos c])
    rw [← e0] at this
    exact this
  · exact h.elim
def w_X12_installs_57 (M : CT) (G : Nat → PT) (Rp : RT) : PT := tConst 0 <| tFn 6 F_X12_sends <| tIstore 5 <| tVret Rp
def w_X12_installs_56 (M : CT) (G : Nat → PT) (Rp : RT) : PT := tConst 0 <| w_X12_installs_57 M G Rp
def w_X12_installs_43 (M : CT) (G : Nat → PT) (Rp : RT) : PT := tAload 0 <| tIload 1 <| tIload 2 <| tConst 5 <| tIload 3 <| tIf (fun x => x = 0) (w_X12_installs_56 M G Rp) <| tIload 4 <| tGoto (w_X12_installs_57 M G Rp)
def w_X12_installs_0 (M : CT) (G : Nat → PT) (Rp : RT) : PT := tAload 0 <| tGetR 12 27 12 <| tConst 4 <| tAld 20 <| tIstore 4 <| tIload 3 <| tIf (fun x => x = 0) (w_X12_installs_43 M G Rp) <| tAload 0 <| tIload 1 <| tConst 0 <| tFn 3 F_X12_plays <| tIload 4 <| tAload 0 <| tIload 1 <| tConst 7 <| tFn 3 F_X12_of <| tIf2 (fun x y => x ≤ y) (w_X12_installs_43 M G Rp) <| tAload 0 <| tIload 1 <| tIload 4 <| tAload 0 <| tGetR 12 27 12 <| tConst 5 <| tAld 20 <| tFn 4 F_X12_takesSnapshot <| w_X12_installs_43 M G Rp
set_option maxRecDepth 20000 in
theorem b_X12_installs_57 {Z : Zt} {d : Nat} {p : Program} {e : Env} {R : Room} {s : State} {m : MethodId} {args : Array Value} {below : List Frame} {meth : Method} {c : Code} {Rp : RT} (C : Cx Z (d + 4) jX12_installs RX12 p R s m args meth c) : Sd Z jX12_installs p e R s m args below meth c (MQ below (QcS Z Rp) args s 0 0 (fun a => Z.2.2.1 < a)) 57 (w_X12_installs_57 (MS Z (d + 4)) (Gw Z 6 p e R s m args below meth c (MQ below (QcS Z Rp) args s 0 0 (fun a => Z.2.2.1 < a))) Rp) := by
  unfold w_X12_installs_57
  refine s_iconst (n := 0) C (by decide +kernel) (by decide) ?_
  refine s_fnV C (j2 := jX12_sends) (cl := 12) (nf := 27) rfl rfl (by decide +kernel) rfl w_7_27 w_7_29 w_p4_6 w_1_13 w_7_30 (by decide +kernel) (fun _ _ _ _ _ h => f_X12_sends h) (fun _ _ _ _ _ h => r_X12_sends h) ?_
  refine s_istore (k := 5) C (by decide +kernel) ?_
  exact s_vret C rfl (by decide +kernel)
set_option maxRecDepth 20000 in
theorem b_X12_installs_56 {Z : Zt} {d : Nat} {p : Program} {e : Env} {R : Room} {s : State} {m : MethodId} {args : Array Value} {below : List Frame} {meth : Method} {c : Code} {Rp : RT} (C : Cx Z (d + 4) jX12_installs RX12 p R s m args meth c) : Sd Z jX12_installs p e R s m args below meth c (MQ below (QcS Z Rp) args s 0 0 (fun a => Z.2.2.1 < a)) 56 (w_X12_installs_56 (MS Z (d + 4)) (Gw Z 6 p e R s m args below meth c (MQ below (QcS Z Rp) args s 0 0 (fun a => Z.2.2.1 < a))) Rp) := by
  unfold w_X12_installs_56
  refine s_iconst (n := 0) C (by decide +kernel) (by decide) ?_
  exact (b_X12_installs_57 C)
set_option maxRecDepth 20000 in
theorem b_X12_installs_43 {Z : Zt} {d : Nat} {p : Program} {e : Env} {R : Room} {s : State} {m : MethodId} {args : Array Value} {below : List Frame} {meth : Method} {c : Code} {Rp : RT} (C : Cx Z (d + 4) jX12_installs RX12 p R s m args meth c) : Sd Z jX12_installs p e R s m args below meth c (MQ below (QcS Z Rp) args s 0 0 (fun a => Z.2.2.1 < a)) 43 (w_X12_installs_43 (MS Z (d + 4)) (Gw Z 6 p e R s m args below meth c (MQ below (QcS Z Rp) args s 0 0 (fun a => Z.2.2.1 < a))) Rp) := by
  unfold w_X12_installs_43
  refine s_aload_n (k := 0) C (by decide +kernel) ?_
  refine s_iload_n (k := 1) C (by decide +kernel) ?_
  refine s_iload_n (k := 2) C (by decide +kernel) ?_
  refine s_iconst (n := 5) C (by decide +kernel) (by decide) ?_
  refine s_iload_n (k := 3) C (by decide +kernel) ?_
  refine s_if_eq (off := 8) (tgt := 56) C (by decide +kernel) (by decide) (b_X12_installs_56 C) ?_
  refine s_iload (k := 4) C (by decide +kernel) ?_
  exact s_goto (off := 4) (tgt := 57) C (by decide +kernel) (by decide) (b_X12_installs_57 C)
set_option maxRecDepth 20000 in
theorem b_X12_installs_0 {Z : Zt} {d : Nat} {p : Program} {e : Env} {R : Room} {s : State} {m : MethodId} {args : Array Value} {below : List Frame} {meth : Method} {c : Code} {Rp : RT} (C : Cx Z (d + 4) jX12_installs RX12 p R s m args meth c) : Sd Z jX12_installs p e R s m args below meth c (MQ below (QcS Z Rp) args s 0 0 (fun a => Z.2.2.1 < a)) 0 (w_X12_installs_0 (MS Z (d + 4)) (Gw Z 6 p e R s m args below meth c (MQ below (QcS Z Rp) args s 0 0 (fun a => Z.2.2.1 < a))) Rp) := by
  unfold w_X12_installs_0
  refine s_aload_n (k := 0) C (by decide +kernel) ?_
  refine s_getR C w_6_99 (by decide +kernel) rfl ?_
  refine s_iconst (n := 4) C (by decide +kernel) (by decide) ?_
  refine s_iald C (by decide +kernel) ?_
  refine s_istore (k := 4) C (by decide +kernel) ?_
  refine s_iload_n (k := 3) C (by decide +kernel) ?_
  refine s_if_eq (off := 34) (tgt := 43) C (by decide +kernel) (by decide) (b_X12_installs_43 C) ?_
  refine s_aload_n (k := 0) C (by decide +kernel) ?_
  refine s_iload_n (k := 1) C (by decide +kernel) ?_
  refine s_iconst (n := 0) C (by decide +kernel) (by decide) ?_
  refine s_fnV C (j2 := jX12_plays) (cl := 12) (nf := 27) rfl rfl (by decide +kernel) rfl w_7_11 w_7_13 w_p4_2 w_1_13 w_7_14 (by decide +kernel) (fun _ _ _ _ _ h => f_X12_plays h) (fun _ _ _ _ _ h => r_X12_plays h) ?_
  refine s_iload (k := 4) C (by decide +kernel) ?_
  refine s_aload_n (k := 0) C (by decide +kernel) ?_
  refine s_iload_n (k := 1) C (by decide +kernel) ?_
  refine s_bipush (n := 7) C (by decide +kernel) (by decide) ?_
  refine s_fnV C (j2 := jX12_of) (cl := 12) (nf := 27) rfl rfl (by decide +kernel) rfl w_6_220 w_6_222 w_p3_11 w_1_13 w_6_223 (by decide +kernel) (fun _ _ _ _ _ h => f_X12_of h) (fun _ _ _ _ _ h => r_X12_of h) ?_
  refine s_icmp_le (off := 16) (tgt := 43) C (by decide +kernel) (by decide) (b_X12_installs_43 C) ?_
  refine s_aload_n (k := 0) C (by decide +kernel) ?_
  refine s_iload_n (k := 1) C (by decide +kernel) ?_
  refine s_iload (k := 4) C (by decide +kernel) ?_
  refine s_aload_n (k := 0) C (by decide +kernel) ?_
  refine s_getR C w_6_99 (by decide +kernel) rfl ?_
  refine s_iconst (n := 5) C (by decide +kernel) (by decide) ?_
  refine s_iald C (by decide +kernel) ?_
  refine s_fnV C (j2 := jX12_takesSnapshot) (cl := 12) (nf := 27) rfl rfl (by decide +kernel) rfl w_7_228 w_7_230 w_p6_11 w_1_13 w_7_231 (by decide +kernel) (fun _ _ _ _ _ h => f_X12_takesSnapshot h) (fun _ _ _ _ _ h => r_X12_takesSnapshot h) ?_
  exact (b_X12_installs_43 C)
theorem ms_X12_installs {Z : Zt} {d : Nat} {S : Sh} {μ : Mi} {ρ : Mr} {Rp : RT} (a0 : Nat) (x1 : Int32) (x2 : Int32) (x3 : Int32) (h : ∀ G : Nat → PT, w_X12_installs_0 (MS Z (d + 4)) G Rp [.ref a0, .int x1, .int x2, .int x3, .null, .null] [] S (0, 0) μ ρ) : MS Z (d + 5) jX12_installs [.ref a0, .int x1, .int x2, .int x3] S μ ρ Rp :=
  MS_of [.ref a0, .int x1, .int x2, .int x3, .null, .null] (by decide +kernel) rfl rfl (Nat.le_of_ble_eq_true rfl) rfl (fun p e R s m args below meth c C => b_X12_installs_0 C _ _ _ _ _ _ (h _ ))
def F_X12_installs : FT := fun As S μ ρ k => match As with
  | [.ref a, .int s, .int f, .int o] => a = 2737 ∧ RS S ρ ∧ rg s 0 4 ∧ rg f 0 4 ∧ bsOK (μ 2738) s.toNatClampNeg ∧ k none (upF μ 2738 (qInstalls (μ 2738) (μ 2744) s.toNatClampNeg f.toNatClampNeg (¬ o = 0)))
  | _ => False
theorem r_X12_installs {As S μ ρ k} (h : F_X12_installs As S μ ρ k) : ∃ a As', As = Value.ref a :: As' ∧ S.2 a = (12, 27) := by
  unfold F_X12_installs at h
  split at h
  · exact ⟨_, _, rfl, by rw [h.1]; exact h.2.1.1⟩
  · exact h.elim
set_option maxHeartbeats 1000000 in
theorem f_X12_installs {Z : Zt} {d : Nat} {As : List Value} {S : Sh} {μ : Mi} {ρ : Mr} {Rp : RT} (h : F_X12_installs As S μ ρ (fun r μ' => Rp r S μ' ρ)) : MS Z (d + 5) jX12_installs As S μ ρ Rp := by
  unfold F_X12_installs at h
  split at h
  · rename_i a s f o
    obtain ⟨rfl, hS, h⟩ := h
    have hS0 := hS
    unfold RS at hS
    obtain ⟨h1, hf, h2, h⟩ := h
    obtain ⟨s, rfl, hs0, -, hs⟩ := rg_ex h1
    obtain ⟨f, rfl, hf0, -, hf1⟩ := rg_ex hf
    have hrs := rg_T (lo := 0) (hi := 4) (n := s) (by omega) (by omega) hs0
    have hrf := rg_T (lo := 0) (hi := 4) (n := f) (by omega) (by omega) hf0
    simp (disch := omega) only [nI_clamp] at h h2
    obtain ⟨k1, k2, k3⟩ := h2
    have hs5 : s < 5 := by omega
    have n1 : (2744 : Nat) ≠ 2738 := by decide
    have i7 : (514 : Int32) * nI s + 7 = nI (514 * s + 7) := ixs 7 7 rfl
    have b7 : inb (nI (514 * s + 7)) 13548 := inb_nI (by omega) (by decide)
    have j4 : inb 4 21 := inb_nI (k := 4) (by decide) (by decide)
    have j5 : inb 5 21 := inb_nI (k := 5) (by decide) (by decide)
    have e0 : μ = upF μ 2738 (μ 2738) := upF_id.symm
    refine ms_X12_installs _ _ _ _ (fun G => ?_)
    have fin : ∀ (A1 : Rw) (v : Value), rg (A1 4510) 0 60 → (A1 = if ¬ o = 0 then (if (qPlays (μ 2738) s 0) (514 * s + 7) < μ 2744 4 then qSnapIn (qPlays (μ 2738) s 0) (μ 2744) s (μ 2744 4) (μ 2744 5) else qPlays (μ 2738) s 0) else μ 2738) → w_X12_installs_43 (MS Z (d + 4)) G Rp [.ref 2737, .int (nI s), .int (nI f), .int o, .int (μ 2744 4), v] [] S (0, 0) (upF μ 2738 A1) ρ := by
      intro A1 v hw hA1
      simp only [w_X12_installs_43, w_X12_installs_56, w_X12_installs_57, tAload, tIload, nth, tGetI, tGetR, tConst, tLconst, tBin, tUn, tI2l, tAld, tAldR, tAlen, tIast, tBast, tZast, tAast, tIret, tZret, tVret, tAret, tIf, tIf2, tGoto, tIstore, tAstore, sset, tIinc, tDup, tDup2, tPop, tPutI, tPutZ, tPutR, tCallV, tCallS, popN, tFn, tCopy, tMax, tMin, tSw, swc, tRem, tObjI, Option.toList, List.nil_append, List.cons_append, okR, true_and, and_true, true_or, or_true, Nat.zero_le, ne_eq, not_false_eq_true, Nat.reduceEqDiff, F_X12_sends, hS0, hrs, hrf, upF_same, upF_upF, upF_ne n1]
      simp (disch := omega) only [nI_clamp]
      unfold qInstalls at h
      rw [← hA1] at h
      refine ⟨fun c => ⟨hw, ?_⟩, fun c => ⟨hw, ?_⟩⟩
      · rw [qSend_post]
        simp only [if_neg (not_not_intro c)] at h
        exact h
      · rw [qSend_post]
        simp only [if_pos c] at h
        exact h
    have w1 : qPlays (μ 2738) s 0 4510 = μ 2738 4510 := qPlays_out (by omega)
    have w4 : qPlays (μ 2738) s 0 (514 * s + 4) = μ 2738 (514 * s + 4) := qPlays_out (by omega)
    have w5 : qPlays (μ 2738) s 0 (514 * s + 5) = μ 2738 (514 * s + 5) := qPlays_out (by omega)
    simp only [w_X12_installs_0, tAload, tIload, nth, tGetI, tGetR, tConst, tLconst, tBin, tUn, tI2l, tAld, tAldR, tAlen, tIast, tBast, tZast, tAast, tIret, tZret, tVret, tAret, tIf, tIf2, tGoto, tIstore, tAstore, sset, tIinc, tDup, tDup2, tPop, tPutI, tPutZ, tPutR, tCallV, tCallS, popN, tFn, tCopy, tMax, tMin, tSw, swc, tRem, tObjI, Option.toList, List.nil_append, List.cons_append, okR, true_and, and_true, true_or, or_true, Nat.zero_le, ne_eq, not_false_eq_true, Nat.reduceEqDiff, F_X12_plays, F_X12_of, F_X12_takesSnapshot, hS0, hS, hrs, j4, j5, cl_4, cl_5, i7, b7, upF_same, upF_upF, upF_ne n1]
    simp (disch := omega) only [nI_clamp]
    refine ⟨fun c => ?_, fun c => ⟨fun c2 => ?_, fun c2 => ⟨⟨by rw [w1]; exact k1, by rw [w4]; exact k2, by rw [w5]; exact k3⟩, ?_⟩⟩⟩
    · have := fin (μ 2738) .null k1 (by rw [if_neg (not_not_intro c)])
      rw [← e0] at this
      exact this
    · exact fin _ _ (by rw [w1]; exact k1) (by rw [if_pos c, if_neg (Int32.not_lt.mpr c2)])
    · refine fin _ _ ?_ (by rw [if_pos c, if_pos (Int32.not_le.mp c2)])
      unfold qSnapIn
      rw [up_ne (by omega), up_ne (by omega)]
      show rg (if _ then _ else if _ then _ else _) 0 60
      rw [if_neg (by omega), if_neg (by omega), up_ne (by omega), up_ne (by omega), up_ne (by omega)]
      split
      · rw [w1]; exact k1
      · rw [up_ne (by omega), w1]; exact k1
  · exact h.elim
def w_X12_wouldBe_79 (M : CT) (G : Nat → PT) (Rp : RT) : PT := tVret Rp
def w_X12_wouldBe_52 (M : CT) (G : Nat → PT) (Rp : RT) : PT := tConst 0 <| tFn 6 F_X12_sends <| tIstore 7 <| tIload 7 <| tConst (-1) <| tIf2 (fun x y => x = y) (w_X12_wouldBe_79 M G Rp) <| tIload 6 <| tIf (fun x => x = 0) (w_X12_wouldBe_79 M G Rp) <| tAload 0 <| tGetR 12 27 1 <| tIload 7 <| tConst 2 <| tBin (fun x y => x + y) <| tIload 3 <| tIast <| w_X12_wouldBe_79 M G Rp
def w_X12_wouldBe_51 (M : CT) (G : Nat → PT) (Rp : RT) : PT := tConst 0 <| w_X12_wouldBe_52 M G Rp
def w_X12_wouldBe_35 (M : CT) (G : Nat → PT) (Rp : RT) : PT := tIstore 6 <| tAload 0 <| tIload 1 <| tIload 2 <| tConst 8 <| tIload 6 <| tIf (fun x => x = 0) (w_X12_wouldBe_51 M G Rp) <| tConst 1 <| tGoto (w_X12_wouldBe_52 M G Rp)
def w_X12_wouldBe_34 (M : CT) (G : Nat → PT) (Rp : RT) : PT := tConst 0 <| w_X12_wouldBe_35 M G Rp
def w_X12_wouldBe_0 (M : CT) (G : Nat → PT) (Rp : RT) : PT := tIload 3 <| tAload 0 <| tIload 1 <| tConst 1 <| tFn 3 F_X12_of <| tIf2 (fun x y => x ≤ y) (w_X12_wouldBe_34 M G Rp) <| tAload 0 <| tIload 1 <| tFn 2 F_X12_isLeader <| tIf (fun x => x ≠ 0) (w_X12_wouldBe_34 M G Rp) <| tAload 0 <| tIload 1 <| tIload 4 <| tIload 5 <| tFn 4 F_X12_isAsFar <| tIf (fun x => x = 0) (w_X12_wouldBe_34 M G Rp) <| tConst 1 <| tGoto (w_X12_wouldBe_35 M G Rp)
set_option maxRecDepth 20000 in
theorem b_X12_wouldBe_79 {Z : Zt} {d : Nat} {p : Program} {e : Env} {R : Room} {s : State} {m : MethodId} {args : Array Value} {below : List Frame} {meth : Method} {c : Code} {Rp : RT} (C : Cx Z (d + 4) jX12_wouldBe RX12 p R s m args meth c) : Sd Z jX12_wouldBe p e R s m args below meth c (MQ below (QcS Z Rp) args s 0 0 (fun a => Z.2.2.1 < a)) 79 (w_X12_wouldBe_79 (MS Z (d + 4)) (Gw Z 8 p e R s m args below meth c (MQ below (QcS Z Rp) args s 0 0 (fun a => Z.2.2.1 < a))) Rp) := by
  unfold w_X12_wouldBe_79
  exact s_vret C rfl (by decide +kernel)
set_option maxRecDepth 20000 in
theorem b_X12_wouldBe_52 {Z : Zt} {d : Nat} {p : Program} {e : Env} {R : Room} {s : State} {m : MethodId} {args : Array Value} {below : List Frame} {meth : Method} {c : Code} {Rp : RT} (C : Cx Z (d + 4) jX12_wouldBe RX12 p R s m args meth c) : Sd Z jX12_wouldBe p e R s m args below meth c (MQ below (QcS Z Rp) args s 0 0 (fun a => Z.2.2.1 < a)) 52 (w_X12_wouldBe_52 (MS Z (d + 4)) (Gw Z 8 p e R s m args below meth c (MQ below (QcS Z Rp) args s 0 0 (fun a => Z.2.2.1 < a))) Rp) := by
  unfold w_X12_wouldBe_52
  refine s_iconst (n := 0) C (by decide +kernel) (by decide) ?_
  refine s_fnV C (j2 := jX12_sends) (cl := 12) (nf := 27) rfl rfl (by decide +kernel) rfl w_7_27 w_7_29 w_p4_6 w_1_13 w_7_30 (by decide +kernel) (fun _ _ _ _ _ h => f_X12_sends h) (fun _ _ _ _ _ h => r_X12_sends h) ?_
  refine s_istore (k := 7) C (by decide +kernel) ?_
  refine s_iload (k := 7) C (by decide +kernel) ?_
  refine s_iconst (n := (-1)) C (by decide +kernel) (by decide) ?_
  refine s_icmp_eq (off := 18) (tgt := 79) C (by decide +kernel) (by decide) (b_X12_wouldBe_79 C) ?_
  refine s_iload (k := 6) C (by decide +kernel) ?_
  refine s_if_eq (off := 13) (tgt := 79) C (by decide +kernel) (by decide) (b_X12_wouldBe_79 C) ?_
  refine s_aload_n (k := 0) C (by decide +kernel) ?_
  refine s_getR C w_6_88 (by decide +kernel) rfl ?_
  refine s_iload (k := 7) C (by decide +kernel) ?_
  refine s_iconst (n := 2) C (by decide +kernel) (by decide) ?_
  refine s_iadd C (by decide +kernel) ?_
  refine s_iload_n (k := 3) C (by decide +kernel) ?_
  refine s_iast C (by decide +kernel) ?_
  exact (b_X12_wouldBe_79 C)
set_option maxRecDepth 20000 in
theorem b_X12_wouldBe_51 {Z : Zt} {d : Nat} {p : Program} {e : Env} {R : Room} {s : State} {m : MethodId} {args : Array Value} {below : List Frame} {meth : Method} {c : Code} {Rp : RT} (C : Cx Z (d + 4) jX12_wouldBe RX12 p R s m args meth c) : Sd Z jX12_wouldBe p e R s m args below meth c (MQ below (QcS Z Rp) args s 0 0 (fun a => Z.2.2.1 < a)) 51 (w_X12_wouldBe_51 (MS Z (d + 4)) (Gw Z 8 p e R s m args below meth c (MQ below (QcS Z Rp) args s 0 0 (fun a => Z.2.2.1 < a))) Rp) := by
  unfold w_X12_wouldBe_51
  refine s_iconst (n := 0) C (by decide +kernel) (by decide) ?_
  exact (b_X12_wouldBe_52 C)
set_option maxRecDepth 20000 in
theorem b_X12_wouldBe_35 {Z : Zt} {d : Nat} {p : Program} {e : Env} {R : Room} {s : State} {m : MethodId} {args : Array Value} {below : List Frame} {meth : Method} {c : Code} {Rp : RT} (C : Cx Z (d + 4) jX12_wouldBe RX12 p R s m args meth c) : Sd Z jX12_wouldBe p e R s m args below meth c (MQ below (QcS Z Rp) args s 0 0 (fun a => Z.2.2.1 < a)) 35 (w_X12_wouldBe_35 (MS Z (d + 4)) (Gw Z 8 p e R s m args below meth c (MQ below (QcS Z Rp) args s 0 0 (fun a => Z.2.2.1 < a))) Rp) := by
  unfold w_X12_wouldBe_35
  refine s_istore (k := 6) C (by decide +kernel) ?_
  refine s_aload_n (k := 0) C (by decide +kernel) ?_
  refine s_iload_n (k := 1) C (by decide +kernel) ?_
  refine s_iload_n (k := 2) C (by decide +kernel) ?_
  refine s_bipush (n := 8) C (by decide +kernel) (by decide) ?_
  refine s_iload (k := 6) C (by decide +kernel) ?_
  refine s_if_eq (off := 7) (tgt := 51) C (by decide +kernel) (by decide) (b_X12_wouldBe_51 C) ?_
  refine s_iconst (n := 1) C (by decide +kernel) (by decide) ?_
  exact s_goto (off := 4) (tgt := 52) C (by decide +kernel) (by decide) (b_X12_wouldBe_52 C)
set_option maxRecDepth 20000 in
theorem b_X12_wouldBe_34 {Z : Zt} {d : Nat} {p : Program} {e : Env} {R : Room} {s : State} {m : MethodId} {args : Array Value} {below : List Frame} {meth : Method} {c : Code} {Rp : RT} (C : Cx Z (d + 4) jX12_wouldBe RX12 p R s m args meth c) : Sd Z jX12_wouldBe p e R s m args below meth c (MQ below (QcS Z Rp) args s 0 0 (fun a => Z.2.2.1 < a)) 34 (w_X12_wouldBe_34 (MS Z (d + 4)) (Gw Z 8 p e R s m args below meth c (MQ below (QcS Z Rp) args s 0 0 (fun a => Z.2.2.1 < a))) Rp) := by
  unfold w_X12_wouldBe_34
  refine s_iconst (n := 0) C (by decide +kernel) (by decide) ?_
  exact (b_X12_wouldBe_35 C)
set_option maxRecDepth 20000 in
theorem b_X12_wouldBe_0 {Z : Zt} {d : Nat} {p : Program} {e : Env} {R : Room} {s : State} {m : MethodId} {args : Array Value} {below : List Frame} {meth : Method} {c : Code} {Rp : RT} (C : Cx Z (d + 4) jX12_wouldBe RX12 p R s m args meth c) : Sd Z jX12_wouldBe p e R s m args below meth c (MQ below (QcS Z Rp) args s 0 0 (fun a => Z.2.2.1 < a)) 0 (w_X12_wouldBe_0 (MS Z (d + 4)) (Gw Z 8 p e R s m args below meth c (MQ below (QcS Z Rp) args s 0 0 (fun a => Z.2.2.1 < a))) Rp) := by
  unfold w_X12_wouldBe_0
  refine s_iload_n (k := 3) C (by decide +kernel) ?_
  refine s_aload_n (k := 0) C (by decide +kernel) ?_
  refine s_iload_n (k := 1) C (by decide +kernel) ?_
  refine s_iconst (n := 1) C (by decide +kernel) (by decide) ?_
  refine s_fnV C (j2 := jX12_of) (cl := 12) (nf := 27) rfl rfl (by decide +kernel) rfl w_6_220 w_6_222 w_p3_11 w_1_13 w_6_223 (by decide +kernel) (fun _ _ _ _ _ h => f_X12_of h) (fun _ _ _ _ _ h => r_X12_of h) ?_
  refine s_icmp_le (off := 27) (tgt := 34) C (by decide +kernel) (by decide) (b_X12_wouldBe_34 C) ?_
  refine s_aload_n (k := 0) C (by decide +kernel) ?_
  refine s_iload_n (k := 1) C (by decide +kernel) ?_
  refine s_fnV C (j2 := jX12_isLeader) (cl := 12) (nf := 27) rfl rfl (by decide +kernel) rfl w_6_236 w_6_238 w_p3_15 w_1_13 w_6_239 (by decide +kernel) (fun _ _ _ _ _ h => f_X12_isLeader h) (fun _ _ _ _ _ h => r_X12_isLeader h) ?_
  refine s_if_ne (off := 19) (tgt := 34) C (by decide +kernel) (by decide) (b_X12_wouldBe_34 C) ?_
  refine s_aload_n (k := 0) C (by decide +kernel) ?_
  refine s_iload_n (k := 1) C (by decide +kernel) ?_
  refine s_iload (k := 4) C (by decide +kernel) ?_
  refine s_iload (k := 5) C (by decide +kernel) ?_
  refine s_fnV C (j2 := jX12_isAsFar) (cl := 12) (nf := 27) rfl rfl (by decide +kernel) rfl w_7_188 w_7_190 w_p6_1 w_1_13 w_7_191 (by decide +kernel) (fun _ _ _ _ _ h => f_X12_isAsFar h) (fun _ _ _ _ _ h => r_X12_isAsFar h) ?_
  refine s_if_eq (off := 7) (tgt := 34) C (by decide +kernel) (by decide) (b_X12_wouldBe_34 C) ?_
  refine s_iconst (n := 1) C (by decide +kernel) (by decide) ?_
  exact s_goto (off := 4) (tgt := 35) C (by decide +kernel) (by decide) (b_X12_wouldBe_35 C)
theorem ms_X12_wouldBe {Z : Zt} {d : Nat} {S : Sh} {μ : Mi} {ρ : Mr} {Rp : RT} (a0 : Nat) (x1 : Int32) (x2 : Int32) (x3 : Int32) (x4 : Int32) (x5 : Int32) (h : ∀ G : Nat → PT, w_X12_wouldBe_0 (MS Z (d + 4)) G Rp [.ref a0, .int x1, .int x2, .int x3, .int x4, .int x5, .null, .null] [] S (0, 0) μ ρ) : MS Z (d + 5) jX12_wouldBe [.ref a0, .int x1, .int x2, .int x3, .int x4, .int x5] S μ ρ Rp :=
  MS_of [.ref a0, .int x1, .int x2, .int x3, .int x4, .int x5, .null, .null] (by decide +kernel) rfl rfl (Nat.le_of_ble_eq_true rfl) rfl (fun p e R s m args below meth c C => b_X12_wouldBe_0 C _ _ _ _ _ _ (h _ ))
def F_X12_wouldBe : FT := fun As S μ ρ k => match As with
  | [.ref a, .int s, .int f, .int tm, .int l, .int lt] => a = 2737 ∧ RS S ρ ∧ rg s 0 4 ∧ rg f 0 4 ∧ bsOK (μ 2738) s.toNatClampNeg ∧ k none (upF μ 2738 (qWouldBe (μ 2738) s.toNatClampNeg f.toNatClampNeg tm l lt))
  | _ => False
theorem r_X12_wouldBe {As S μ ρ k} (h : F_X12_wouldBe As S μ ρ k) : ∃ a As', As = Value.ref a :: As' ∧ S.2 a = (12, 27) := by
  unfold F_X12_wouldBe at h
  split at h
  · exact ⟨_, _, rfl, by rw [h.1]; exact h.2.1.1⟩
  · exact h.elim
set_option maxHeartbeats 1000000 in
theorem f_X12_wouldBe {Z : Zt} {d : Nat} {As : List Value} {S : Sh} {μ : Mi} {ρ : Mr} {Rp : RT} (h : F_X12_wouldBe As S μ ρ (fun r μ' => Rp r S μ' ρ)) : MS Z (d + 5) jX12_wouldBe As S μ ρ Rp := by
  unfold F_X12_wouldBe at h
  split at h
  · rename_i a s f tm l lt
    obtain ⟨rfl, hS, h⟩ := h
    have hS0 := hS
    unfold RS at hS
    obtain ⟨h1, hf, h2, h⟩ := h
    obtain ⟨s, rfl, hs0, -, hs⟩ := rg_ex h1
    obtain ⟨f, rfl, hf0, -, hf1⟩ := rg_ex hf
    have hrs := rg_T (lo := 0) (hi := 4) (n := s) (by omega) (by omega) hs0
    have hrf := rg_T (lo := 0) (hi := 4) (n := f) (by omega) (by omega) hf0
    simp (disch := omega) only [nI_clamp] at h h2
    obtain ⟨k1, k2, k3⟩ := h2
    have hs5 : s < 5 := by omega
    have i1 : (514 : Int32) * nI s + 1 = nI (514 * s + 1) := ixs 1 1 rfl
    have b1 : inb (nI (514 * s + 1)) 13548 := inb_nI (by omega) (by decide)
    refine ms_X12_wouldBe _ _ _ _ _ _ (fun G => ?_)
    have X0 : ¬ (μ 2738 (514 * s + 1) < tm ∧ ¬ μ 2738 (514 * s + 3) = 2 ∧ (qTermAt (μ 2738) s (μ 2738 (514 * s + 4)) < lt ∨ (lt = qTermAt (μ 2738) s (μ 2738 (514 * s + 4)) ∧ ¬ l < μ 2738 (514 * s + 4)))) → ∀ v6 v7, w_X12_wouldBe_34 (MS Z (d + 4)) G Rp [.ref 2737, .int (nI s), .int (nI f), .int tm, .int l, .int lt, v6, v7] [] S (0, 0) μ ρ := by
      intro c v6 v7
      simp only [w_X12_wouldBe_34, w_X12_wouldBe_35, w_X12_wouldBe_51, w_X12_wouldBe_52, w_X12_wouldBe_79, tAload, tIload, nth, tGetI, tGetR, tConst, tLconst, tBin, tUn, tI2l, tAld, tAldR, tAlen, tIast, tBast, tZast, tAast, tIret, tZret, tVret, tAret, tIf, tIf2, tGoto, tIstore, tAstore, sset, tIinc, tDup, tDup2, tPop, tPutI, tPutZ, tPutR, tCallV, tCallS, popN, tFn, tCopy, tMax, tMin, tSw, swc, tRem, tObjI, Option.toList, List.nil_append, List.cons_append, okR, true_and, and_true, true_or, or_true, Nat.zero_le, ne_eq, not_false_eq_true, Nat.reduceEqDiff, F_X12_sends, hS0, hrs, hrf]
      simp (disch := omega) only [nI_clamp]
      unfold qWouldBe at h
      rw [if_neg c] at h
      have e : upF μ 2738 (qSend (μ 2738) (μ 2744 8) s f 8 0 0) = upF μ 2738 (qPost (μ 2738) s f (rowS (nI s) (nI f) (μ 2738 (514 * s + 1)) 8 0 0 0)) := by rw [qSend_post, rndS_z (by decide)]
      rw [e]
      exact ⟨fun _ => ⟨k1, fun _ => h, fun _ => ⟨fun _ => h, fun z => absurd trivial z⟩⟩, fun z => absurd trivial z⟩
    simp only [w_X12_wouldBe_0, tAload, tIload, nth, tGetI, tGetR, tConst, tLconst, tBin, tUn, tI2l, tAld, tAldR, tAlen, tIast, tBast, tZast, tAast, tIret, tZret, tVret, tAret, tIf, tIf2, tGoto, tIstore, tAstore, sset, tIinc, tDup, tDup2, tPop, tPutI, tPutZ, tPutR, tCallV, tCallS, popN, tFn, tCopy, tMax, tMin, tSw, swc, tRem, tObjI, Option.toList, List.nil_append, List.cons_append, okR, true_and, and_true, true_or, or_true, Nat.zero_le, ne_eq, not_false_eq_true, Nat.reduceEqDiff, F_X12_of, F_X12_isLeader, F_X12_isAsFar, hS0, hrs, i1, b1, b2_z, Decidable.not_not]
    simp (disch := omega) only [nI_clamp]
    refine ⟨fun c => X0 (fun z => absurd z.1 (Int32.not_lt.mpr c)) _ _, fun c1 => ⟨fun c => X0 (fun z => z.2.1 c) _ _, fun c2 => ⟨k2, k3, fun c => X0 (fun z => c z.2.2) _ _, fun c3 => ?_⟩⟩⟩
    unfold qWouldBe at h
    rw [if_pos ⟨Int32.not_le.mp c1, c2, c3⟩] at h
    simp only [w_X12_wouldBe_35, w_X12_wouldBe_51, w_X12_wouldBe_52, w_X12_wouldBe_79, tAload, tIload, nth, tGetI, tGetR, tConst, tLconst, tBin, tUn, tI2l, tAld, tAldR, tAlen, tIast, tBast, tZast, tAast, tIret, tZret, tVret, tAret, tIf, tIf2, tGoto, tIstore, tAstore, sset, tIinc, tDup, tDup2, tPop, tPutI, tPutZ, tPutR, tCallV, tCallS, popN, tFn, tCopy, tMax, tMin, tSw, swc, tRem, tObjI, Option.toList, List.nil_append, List.cons_append, okR, true_and, and_true, true_or, or_true, Nat.zero_le, ne_eq, not_false_eq_true, Nat.reduceEqDiff, F_X12_sends, hS0, hS, hrs, hrf, upF_same, upF_upF, upI_upF]
    simp (disch := omega) only [nI_clamp]
    refine ⟨fun z => absurd z (by decide), fun _ => ⟨k1, ?_⟩⟩
    have e : qSend (μ 2738) (μ 2744 8) s f 8 1 0 = qPost (μ 2738) s f (rowS (nI s) (nI f) (μ 2738 (514 * s + 1)) 8 1 0 0) := by rw [qSend_post, rndS_z (by decide)]
    rw [e]
    unfold qPost at h ⊢
    by_cases hok : okS (μ 2738) s f
    · obtain ⟨w, ew, ew0, -, ew1⟩ := rg_ex k1
      have hw60 : w < 60 := by
        have : ¬ w = 60 := fun z => hok.2.1 (by rw [ew, z]; rfl)
        omega
      have e1 : vSend (μ 2738) s f = nI (2570 + 21 * w) := by unfold vSend; rw [if_pos hok, ew, nI_clamp ew0]
      rw [e1, if_neg hok.1, if_pos hok] at *
      rw [show nI (2570 + 21 * w) + 2 = nI (2570 + 21 * w + 2) from by rw [show (2 : Int32) = nI 2 from rfl, nI_add]]
      simp (disch := omega) only [nI_clamp, nI_inb]
      refine ⟨fun z => absurd z (nI_nm1 (by omega)), fun _ => ⟨fun z => absurd z (by decide), fun _ => ⟨by omega, ?_⟩⟩⟩
      rw [push_up ew hw60 (by decide)]
      have e6 : up (rowS (nI s) (nI f) (μ 2738 (514 * s + 1)) 8 1 0 0) 2 tm = rowS (nI s) (nI f) tm 8 1 0 0 := by
        funext k
        unfold up rowS
        by_cases hk : k = 2
        · subst hk; rfl
        · rw [if_neg hk]
          simp only [hk, if_false]
      rw [e6]
      exact h
    · have e1 : vSend (μ 2738) s f = -1 := by unfold vSend; rw [if_neg hok]
      rw [e1]
      refine ⟨fun _ => ?_, fun z => absurd rfl z⟩
      by_cases hsf : s = f
      · rw [if_pos hsf] at h ⊢
        exact h
      · rw [if_neg hsf, if_neg hok] at h ⊢
        exact h
  · exact h.elim
def w_X12_would_79 (M : CT) (G : Nat → PT) (Rp : RT) : PT := tVret Rp
def w_X12_would_37 (M : CT) (G : Nat → PT) (Rp : RT) : PT := tAload 0 <| tIload 1 <| tConst 8 <| tAload 0 <| tIload 1 <| tConst 8 <| tFn 3 F_X12_of <| tConst 1 <| tIload 2 <| tBin (fun x y => x <<< (y &&& 31)) <| tBin (fun x y => x ||| y) <| tFn 4 F_X12_lays <| tAload 0 <| tIload 1 <| tFn 2 F_X12_laysMembers <| tAload 0 <| tAload 0 <| tIload 1 <| tConst 8 <| tFn 3 F_X12_of <| tFn 2 F_X12_isMajority <| tIf (fun x => x = 0) (w_X12_would_79 M G Rp) <| tAload 0 <| tIload 1 <| tFn 2 F_X12_standsUp <| w_X12_would_79 M G Rp
def w_X12_would_23 (M : CT) (G : Nat → PT) (Rp : RT) : PT := tIload 4 <| tAload 0 <| tIload 1 <| tConst 1 <| tFn 3 F_X12_of <| tConst 1 <| tBin (fun x y => x + y) <| tIf2 (fun x y => x = y) (w_X12_would_37 M G Rp) <| tVret Rp
def w_X12_would_22 (M : CT) (G : Nat → PT) (Rp : RT) : PT := tVret Rp
def w_X12_would_0 (M : CT) (G : Nat → PT) (Rp : RT) : PT := tIload 3 <| tIf (fun x => x ≠ 0) (w_X12_would_23 M G Rp) <| tIload 4 <| tAload 0 <| tIload 1 <| tConst 1 <| tFn 3 F_X12_of <| tIf2 (fun x y => x ≤ y) (w_X12_would_22 M G Rp) <| tAload 0 <| tIload 1 <| tIload 4 <| tFn 3 F_X12_followsTerm <| w_X12_would_22 M G Rp
set_option maxRecDepth 20000 in
theorem b_X12_would_79 {Z : Zt} {d : Nat} {p : Program} {e : Env} {R : Room} {s : State} {m : MethodId} {args : Array Value} {below : List Frame} {meth : Method} {c : Code} {Rp : RT} (C : Cx Z (d + 9) jX12_would RX12 p R s m args meth c) : Sd Z jX12_would p e R s m args below meth c (MQ below (QcS Z Rp) args s 0 0 (fun a => Z.2.2.1 < a)) 79 (w_X12_would_79 (MS Z (d + 9)) (Gw Z 5 p e R s m args below meth c (MQ below (QcS Z Rp) args s 0 0 (fun a => Z.2.2.1 < a))) Rp) := by
  unfold w_X12_would_79
  exact s_vret C rfl (by decide +kernel)
set_option maxRecDepth 20000 in
theorem b_X12_would_37 {Z : Zt} {d : Nat} {p : Program} {e : Env} {R : Room} {s : State} {m : MethodId} {args : Array Value} {below : List Frame} {meth : Method} {c : Code} {Rp : RT} (C : Cx Z (d + 9) jX12_would RX12 p R s m args meth c) : Sd Z jX12_would p e R s m args below meth c (MQ below (QcS Z Rp) args s 0 0 (fun a => Z.2.2.1 < a)) 37 (w_X12_would_37 (MS Z (d + 9)) (Gw Z 5 p e R s m args below meth c (MQ below (QcS Z Rp) args s 0 0 (fun a => Z.2.2.1 < a))) Rp) := by
  unfold w_X12_would_37
  refine s_aload_n (k := 0) C (by decide +kernel) ?_
  refine s_iload_n (k := 1) C (by decide +kernel) ?_
  refine s_bipush (n := 8) C (by decide +kernel) (by decide) ?_
  refine s_aload_n (k := 0) C (by decide +kernel) ?_
  refine s_iload_n (k := 1) C (by decide +kernel) ?_
  refine s_bipush (n := 8) C (by decide +kernel) (by decide) ?_
  refine s_fnV C (j2 := jX12_of) (cl := 12) (nf := 27) rfl rfl (by decide +kernel) rfl w_6_220 w_6_222 w_p3_11 w_1_13 w_6_223 (by decide +kernel) (fun _ _ _ _ _ h => f_X12_of h) (fun _ _ _ _ _ h => r_X12_of h) ?_
  refine s_iconst (n := 1) C (by decide +kernel) (by decide) ?_
  refine s_iload_n (k := 2) C (by decide +kernel) ?_
  refine s_ishl C (by decide +kernel) ?_
  refine s_ior C (by decide +kernel) ?_
  refine s_fnV C (j2 := jX12_lays) (cl := 12) (nf := 27) rfl rfl (by decide +kernel) rfl w_6_82 w_6_84 w_p3_4 w_1_13 w_6_85 (by decide +kernel) (fun _ _ _ _ _ h => f_X12_lays h) (fun _ _ _ _ _ h => r_X12_lays h) ?_
  refine s_aload_n (k := 0) C (by decide +kernel) ?_
  refine s_iload_n (k := 1) C (by decide +kernel) ?_
  refine s_fnV C (j2 := jX12_laysMembers) (cl := 12) (nf := 27) rfl rfl (by decide +kernel) rfl w_6_216 w_6_218 w_p3_10 w_1_13 w_6_219 (by decide +kernel) (fun _ _ _ _ _ h => f_X12_laysMembers h) (fun _ _ _ _ _ h => r_X12_laysMembers h) ?_
  refine s_aload_n (k := 0) C (by decide +kernel) ?_
  refine s_aload_n (k := 0) C (by decide +kernel) ?_
  refine s_iload_n (k := 1) C (by decide +kernel) ?_
  refine s_bipush (n := 8) C (by decide +kernel) (by decide) ?_
  refine s_fnV C (j2 := jX12_of) (cl := 12) (nf := 27) rfl rfl (by decide +kernel) rfl w_6_220 w_6_222 w_p3_11 w_1_13 w_6_223 (by decide +kernel) (fun _ _ _ _ _ h => f_X12_of h) (fun _ _ _ _ _ h => r_X12_of h) ?_
  refine s_fnV C (j2 := jX12_isMajority) (cl := 12) (nf := 27) rfl rfl (by decide +kernel) rfl w_7_35 w_7_37 w_p4_8 w_1_13 w_7_38 (by decide +kernel) (fun _ _ _ _ _ h => f_X12_isMajority h) (fun _ _ _ _ _ h => r_X12_isMajority h) ?_
  refine s_if_eq (off := 8) (tgt := 79) C (by decide +kernel) (by decide) (b_X12_would_79 C) ?_
  refine s_aload_n (k := 0) C (by decide +kernel) ?_
  refine s_iload_n (k := 1) C (by decide +kernel) ?_
  refine s_fnV C (j2 := jX12_standsUp) (cl := 12) (nf := 27) rfl rfl (by decide +kernel) rfl w_7_7 w_7_9 w_p4_1 w_1_13 w_7_10 (by decide +kernel) (fun _ _ _ _ _ h => f_X12_standsUp h) (fun _ _ _ _ _ h => r_X12_standsUp h) ?_
  exact (b_X12_would_79 C)
set_option maxRecDepth 20000 in
theorem b_X12_would_23 {Z : Zt} {d : Nat} {p : Program} {e : Env} {R : Room} {s : State} {m : MethodId} {args : Array Value} {below : List Frame} {meth : Method} {c : Code} {Rp : RT} (C : Cx Z (d + 9) jX12_would RX12 p R s m args meth c) : Sd Z jX12_would p e R s m args below meth c (MQ below (QcS Z Rp) args s 0 0 (fun a => Z.2.2.1 < a)) 23 (w_X12_would_23 (MS Z (d + 9)) (Gw Z 5 p e R s m args below meth c (MQ below (QcS Z Rp) args s 0 0 (fun a => Z.2.2.1 < a))) Rp) := by
  unfold w_X12_would_23
  refine s_iload (k := 4) C (by decide +kernel) ?_
  refine s_aload_n (k := 0) C (by decide +kernel) ?_
  refine s_iload_n (k := 1) C (by decide +kernel) ?_
  refine s_iconst (n := 1) C (by decide +kernel) (by decide) ?_
  refine s_fnV C (j2 := jX12_of) (cl := 12) (nf := 27) rfl rfl (by decide +kernel) rfl w_6_220 w_6_222 w_p3_11 w_1_13 w_6_223 (by decide +kernel) (fun _ _ _ _ _ h => f_X12_of h) (fun _ _ _ _ _ h => r_X12_of h) ?_
  refine s_iconst (n := 1) C (by decide +kernel) (by decide) ?_
  refine s_iadd C (by decide +kernel) ?_
  refine s_icmp_eq (off := 4) (tgt := 37) C (by decide +kernel) (by decide) (b_X12_would_37 C) ?_
  exact s_vret C rfl (by decide +kernel)
set_option maxRecDepth 20000 in
theorem b_X12_would_22 {Z : Zt} {d : Nat} {p : Program} {e : Env} {R : Room} {s : State} {m : MethodId} {args : Array Value} {below : List Frame} {meth : Method} {c : Code} {Rp : RT} (C : Cx Z (d + 9) jX12_would RX12 p R s m args meth c) : Sd Z jX12_would p e R s m args below meth c (MQ below (QcS Z Rp) args s 0 0 (fun a => Z.2.2.1 < a)) 22 (w_X12_would_22 (MS Z (d + 9)) (Gw Z 5 p e R s m args below meth c (MQ below (QcS Z Rp) args s 0 0 (fun a => Z.2.2.1 < a))) Rp) := by
  unfold w_X12_would_22
  exact s_vret C rfl (by decide +kernel)
set_option maxRecDepth 20000 in
theorem b_X12_would_0 {Z : Zt} {d : Nat} {p : Program} {e : Env} {R : Room} {s : State} {m : MethodId} {args : Array Value} {below : List Frame} {meth : Method} {c : Code} {Rp : RT} (C : Cx Z (d + 9) jX12_would RX12 p R s m args meth c) : Sd Z jX12_would p e R s m args below meth c (MQ below (QcS Z Rp) args s 0 0 (fun a => Z.2.2.1 < a)) 0 (w_X12_would_0 (MS Z (d + 9)) (Gw Z 5 p e R s m args below meth c (MQ below (QcS Z Rp) args s 0 0 (fun a => Z.2.2.1 < a))) Rp) := by
  unfold w_X12_would_0
  refine s_iload_n (k := 3) C (by decide +kernel) ?_
  refine s_if_ne (off := 22) (tgt := 23) C (by decide +kernel) (by decide) (b_X12_would_23 C) ?_
  refine s_iload (k := 4) C (by decide +kernel) ?_
  refine s_aload_n (k := 0) C (by decide +kernel) ?_
  refine s_iload_n (k := 1) C (by decide +kernel) ?_
  refine s_iconst (n := 1) C (by decide +kernel) (by decide) ?_
  refine s_fnV C (j2 := jX12_of) (cl := 12) (nf := 27) rfl rfl (by decide +kernel) rfl w_6_220 w_6_222 w_p3_11 w_1_13 w_6_223 (by decide +kernel) (fun _ _ _ _ _ h => f_X12_of h) (fun _ _ _ _ _ h => r_X12_of h) ?_
  refine s_icmp_le (off := 10) (tgt := 22) C (by decide +kernel) (by decide) (b_X12_would_22 C) ?_
  refine s_aload_n (k := 0) C (by decide +kernel) ?_
  refine s_iload_n (k := 1) C (by decide +kernel) ?_
  refine s_iload (k := 4) C (by decide +kernel) ?_
  refine s_fnV C (j2 := jX12_followsTerm) (cl := 12) (nf := 27) rfl rfl (by decide +kernel) rfl w_7_180 w_7_182 w_p5_15 w_1_13 w_7_183 (by decide +kernel) (fun _ _ _ _ _ h => f_X12_followsTerm h) (fun _ _ _ _ _ h => r_X12_followsTerm h) ?_
  exact (b_X12_would_22 C)
theorem ms_X12_would {Z : Zt} {d : Nat} {S : Sh} {μ : Mi} {ρ : Mr} {Rp : RT} (a0 : Nat) (x1 : Int32) (x2 : Int32) (x3 : Int32) (x4 : Int32) (h : ∀ G : Nat → PT, w_X12_would_0 (MS Z (d + 9)) G Rp [.ref a0, .int x1, .int x2, .int x3, .int x4] [] S (0, 0) μ ρ) : MS Z (d + 10) jX12_would [.ref a0, .int x1, .int x2, .int x3, .int x4] S μ ρ Rp :=
  MS_of [.ref a0, .int x1, .int x2, .int x3, .int x4] (by decide +kernel) rfl rfl (Nat.le_of_ble_eq_true rfl) rfl (fun p e R s m args below meth c C => b_X12_would_0 C _ _ _ _ _ _ (h _ ))
def F_X12_would : FT := fun As S μ ρ k => match As with
  | [.ref a, .int s, .int f, .int o, .int tm] => a = 2737 ∧ RS S ρ ∧ rg s 0 4 ∧ rg f 0 4 ∧ rg tm 0 200 ∧ agOK (μ 2738) s.toNatClampNeg ∧ (μ 2738 (514 * s.toNatClampNeg + 5)).toInt ≤ (μ 2738 (514 * s.toNatClampNeg + 4)).toInt ∧ rg (μ 2738 (514 * s.toNatClampNeg + 1)) 0 200 ∧ ∀ t : T4, k none (M3 μ t (qWould (μ 2738) s.toNatClampNeg f.toNatClampNeg (¬ o = 0) tm))
  | _ => False
theorem r_X12_would {As S μ ρ k} (h : F_X12_would As S μ ρ k) : ∃ a As', As = Value.ref a :: As' ∧ S.2 a = (12, 27) := by
  unfold F_X12_would at h
  split at h
  · exact ⟨_, _, rfl, by rw [h.1]; exact h.2.1.1⟩
  · exact h.elim
set_option maxHeartbeats 1000000 in
theorem f_X12_would {Z : Zt} {d : Nat} {As : List Value} {S : Sh} {μ : Mi} {ρ : Mr} {Rp : RT} (h : F_X12_would As S μ ρ (fun r μ' => Rp r S μ' ρ)) : MS Z (d + 10) jX12_would As S μ ρ Rp := by
  unfold F_X12_would at h
  split at h
  · rename_i a s f o tm
    obtain ⟨rfl, hS, h⟩ := h
    have hS0 := hS
    unfold RS at hS
    obtain ⟨h1, hf, htm, h2, h3, h4, h⟩ := h
    obtain ⟨s, rfl, hs0, -, hs⟩ := rg_ex h1
    obtain ⟨f, rfl, hf0, -, hf1⟩ := rg_ex hf
    have hrs := rg_T (lo := 0) (hi := 4) (n := s) (by omega) (by omega) hs0
    have hrf := rg_T (lo := 0) (hi := 4) (n := f) (by omega) (by omega) hf0
    simp (disch := omega) only [nI_clamp] at h h2 h3 h4
    have hs5 : s < 5 := by omega
    obtain ⟨t0, ht0⟩ := M3_self μ
    rw [ht0]
    generalize hA : μ 2738 = A at *
    have i1 : (514 : Int32) * nI s + 1 = nI (514 * s + 1) := ixs 1 1 rfl
    have i8 : (514 : Int32) * nI s + 8 = nI (514 * s + 8) := ixs 8 8 rfl
    have b1 : inb (nI (514 * s + 1)) 13548 := inb_nI (by omega) (by decide)
    have b8 : inb (nI (514 * s + 8)) 13548 := inb_nI (by omega) (by decide)
    refine ms_X12_would _ _ _ _ _ (fun G => ?_)
    simp only [w_X12_would_0, w_X12_would_22, w_X12_would_23, w_X12_would_37, w_X12_would_79, tAload, tIload, nth, tGetI, tGetR, tConst, tLconst, tBin, tUn, tI2l, tAld, tAldR, tAlen, tIast, tBast, tZast, tAast, tIret, tZret, tVret, tAret, tIf, tIf2, tGoto, tIstore, tAstore, sset, tIinc, tDup, tDup2, tPop, tPutI, tPutZ, tPutR, tCallV, tCallS, popN, tFn, tCopy, tMax, tMin, tSw, swc, tRem, tObjI, Option.toList, List.nil_append, List.cons_append, okR, true_and, and_true, true_or, or_true, Nat.zero_le, ne_eq, not_false_eq_true, Nat.reduceEqDiff, F_X12_of, F_X12_lays, F_X12_followsTerm, F_X12_laysMembers, F_X12_isMajority, F_X12_standsUp, hS0, hrs, i1, i8, b1, b8, M3_row, M3_upF, M3_setM, M3_M3, M3_8, M3_9, b2_z, Decidable.not_not]
    simp (disch := omega) only [nI_clamp]
    have hl : agOK (up A (514 * s + 8) (A (514 * s + 8) ||| (1 : Int32) <<< (nI f &&& 31))) s :=
      agOK_of hs5 h2 (by rw [up_ne (by omega)]; exact h2.1.1) (up_ne (by omega)) (up_ne (by omega)) (up_ne (by omega)) (fun t ht => by rw [up_ne (by omega)]; exact h2.1.2.2.2 t ht) (fun i q1 q2 => up_ne (by omega))
    refine ⟨fun c => ⟨fun c2 => ⟨hl.1.2.1, hl.1.2.2.1, fun c3 => ?_, fun c3 => ⟨⟨hl, ?_, ?_⟩, fun t => ?_⟩⟩, fun c2 => ?_⟩, fun c => ⟨fun c2 => ?_, fun c2 => ?_⟩⟩
    · have := h (qMem (up A (514 * s + 8) (A (514 * s + 8) ||| (1 : Int32) <<< (nI f &&& 31))) s)
      unfold qWould at this
      rw [if_neg (not_not_intro c), if_neg (not_not_intro c2), if_neg c3] at this
      exact this
    · rw [up_ne (by omega), up_ne (by omega)]; exact h3
    · rw [up_ne (by omega)]
      have h5 := rg_1 h4 (by decide) (by decide)
      have h6 : (A (514 * s + 1) + 1).toInt = (A (514 * s + 1)).toInt + 1 := by
        have := h4.1; have := h4.2
        rw [Jvm.Kit.i32_add] <;> rw [show (1 : Int32).toInt = 1 by decide] <;> omega
      rw [c2] at htm
      have h7 : (A (514 * s + 1) + 1).toInt ≤ 200 := htm.2
      exact ⟨h4.1, by omega⟩
    · have := h t
      unfold qWould at this
      rw [if_neg (not_not_intro c), if_neg (not_not_intro c2), if_pos c3] at this
      exact this
    · have := h t0
      unfold qWould at this
      rw [if_neg (not_not_intro c), if_pos c2] at this
      exact this
    · have := h t0
      unfold qWould at this
      rw [if_pos (not_not_intro c), if_neg (Int32.not_lt.mpr c2)] at this
      exact this
    · have := h t0
      unfold qWould at this
      rw [if_pos (not_not_intro c), if_pos (Int32.not_le.mp c2)] at this
      exact this
  · exact h.elim
