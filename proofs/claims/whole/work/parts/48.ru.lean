/-! ===== the reference: more acts ===== -/
def w_X12_actRead_60 (M : CT) (G : Nat → PT) (Rp : RT) : PT := tAload 0 <| tIload 1 <| tConst 11 <| tConst 1 <| tFn 4 F_X12_lays <| tAload 0 <| tIload 1 <| tConst 12 <| tIload 2 <| tFn 4 F_X12_lays <| tAload 0 <| tIload 1 <| tConst 13 <| tConst 0 <| tFn 4 F_X12_lays <| tAload 0 <| tIload 1 <| tConst 15 <| tConst 1 <| tIload 1 <| tBin (fun x y => x <<< (y &&& 31)) <| tFn 4 F_X12_lays <| tAload 0 <| tIload 1 <| tConst 14 <| tAload 0 <| tIload 1 <| tConst 14 <| tFn 3 F_X12_of <| tConst 1 <| tBin (fun x y => x + y) <| tFn 4 F_X12_lays <| tAload 0 <| tIload 1 <| tFn 2 F_X12_feedsAll <| tAload 0 <| tIload 1 <| tFn 2 F_X12_answersRead <| tAload 0 <| tIload 1 <| tConst 11 <| tFn 3 F_X12_of <| tIret Rp
def w_X12_actRead_57 (M : CT) (G : Nat → PT) (Rp : RT) : PT := tConst (-5) <| tIret Rp
def w_X12_actRead_17 (M : CT) (G : Nat → PT) (Rp : RT) : PT := tAload 0 <| tIload 1 <| tFn 2 F_X12_isLeader <| tIf (fun x => x = 0) (w_X12_actRead_57 M G Rp) <| tAload 0 <| tIload 1 <| tConst 11 <| tFn 3 F_X12_of <| tConst 1 <| tIf2 (fun x y => x = y) (w_X12_actRead_57 M G Rp) <| tAload 0 <| tIload 1 <| tAload 0 <| tIload 1 <| tConst 7 <| tFn 3 F_X12_of <| tFn 3 F_X12_termAt <| tAload 0 <| tIload 1 <| tConst 1 <| tFn 3 F_X12_of <| tIf2 (fun x y => x = y) (w_X12_actRead_60 M G Rp) <| w_X12_actRead_57 M G Rp
def w_X12_actRead_14 (M : CT) (G : Nat → PT) (Rp : RT) : PT := tConst (-2) <| tIret Rp
def w_X12_actRead_0 (M : CT) (G : Nat → PT) (Rp : RT) : PT := tIload 1 <| tFn 1 F_X12_isStore <| tIf (fun x => x = 0) (w_X12_actRead_14 M G Rp) <| tIload 2 <| tFn 1 F_X12_isCell <| tIf (fun x => x ≠ 0) (w_X12_actRead_17 M G Rp) <| w_X12_actRead_14 M G Rp
set_option maxRecDepth 20000 in
theorem b_X12_actRead_60 {Z : Zt} {d : Nat} {p : Program} {e : Env} {R : Room} {s : State} {m : MethodId} {args : Array Value} {below : List Frame} {meth : Method} {c : Code} {Rp : RT} (C : Cx Z (d + 5) jX12_actRead RX12 p R s m args meth c) : Sd Z jX12_actRead p e R s m args below meth c (MQ below (QcS Z Rp) args s 0 0 (fun a => Z.2.2.1 < a)) 60 (w_X12_actRead_60 (MS Z (d + 5)) (Gw Z 3 p e R s m args below meth c (MQ below (QcS Z Rp) args s 0 0 (fun a => Z.2.2.1 < a))) Rp) := by
  unfold w_X12_actRead_60
  refine s_aload_n (k := 0) C (by decide +kernel) ?_
  refine s_iload_n (k := 1) C (by decide +kernel) ?_
  refine s_bipush (n := 11) C (by decide +kernel) (by decide) ?_
  refine s_iconst (n := 1) C (by decide +kernel) (by decide) ?_
  refine s_fnV C (j2 := jX12_lays) (cl := 12) (nf := 27) rfl rfl (by decide +kernel) rfl w_6_82 w_6_84 w_p3_4 w_1_13 w_6_85 (by decide +kernel) (fun _ _ _ _ _ h => f_X12_lays h) (fun _ _ _ _ _ h => r_X12_lays h) ?_
  refine s_aload_n (k := 0) C (by decide +kernel) ?_
  refine s_iload_n (k := 1) C (by decide +kernel) ?_
  refine s_bipush (n := 12) C (by decide +kernel) (by decide) ?_
  refine s_iload_n (k := 2) C (by decide +kernel) ?_
  refine s_fnV C (j2 := jX12_lays) (cl := 12) (nf := 27) rfl rfl (by decide +kernel) rfl w_6_82 w_6_84 w_p3_4 w_1_13 w_6_85 (by decide +kernel) (fun _ _ _ _ _ h => f_X12_lays h) (fun _ _ _ _ _ h => r_X12_lays h) ?_
  refine s_aload_n (k := 0) C (by decide +kernel) ?_
  refine s_iload_n (k := 1) C (by decide +kernel) ?_
  refine s_bipush (n := 13) C (by decide +kernel) (by decide) ?_
  refine s_iconst (n := 0) C (by decide +kernel) (by decide) ?_
  refine s_fnV C (j2 := jX12_lays) (cl := 12) (nf := 27) rfl rfl (by decide +kernel) rfl w_6_82 w_6_84 w_p3_4 w_1_13 w_6_85 (by decide +kernel) (fun _ _ _ _ _ h => f_X12_lays h) (fun _ _ _ _ _ h => r_X12_lays h) ?_
  refine s_aload_n (k := 0) C (by decide +kernel) ?_
  refine s_iload_n (k := 1) C (by decide +kernel) ?_
  refine s_bipush (n := 15) C (by decide +kernel) (by decide) ?_
  refine s_iconst (n := 1) C (by decide +kernel) (by decide) ?_
  refine s_iload_n (k := 1) C (by decide +kernel) ?_
  refine s_ishl C (by decide +kernel) ?_
  refine s_fnV C (j2 := jX12_lays) (cl := 12) (nf := 27) rfl rfl (by decide +kernel) rfl w_6_82 w_6_84 w_p3_4 w_1_13 w_6_85 (by decide +kernel) (fun _ _ _ _ _ h => f_X12_lays h) (fun _ _ _ _ _ h => r_X12_lays h) ?_
  refine s_aload_n (k := 0) C (by decide +kernel) ?_
  refine s_iload_n (k := 1) C (by decide +kernel) ?_
  refine s_bipush (n := 14) C (by decide +kernel) (by decide) ?_
  refine s_aload_n (k := 0) C (by decide +kernel) ?_
  refine s_iload_n (k := 1) C (by decide +kernel) ?_
  refine s_bipush (n := 14) C (by decide +kernel) (by decide) ?_
  refine s_fnV C (j2 := jX12_of) (cl := 12) (nf := 27) rfl rfl (by decide +kernel) rfl w_6_220 w_6_222 w_p3_11 w_1_13 w_6_223 (by decide +kernel) (fun _ _ _ _ _ h => f_X12_of h) (fun _ _ _ _ _ h => r_X12_of h) ?_
  refine s_iconst (n := 1) C (by decide +kernel) (by decide) ?_
  refine s_iadd C (by decide +kernel) ?_
  refine s_fnV C (j2 := jX12_lays) (cl := 12) (nf := 27) rfl rfl (by decide +kernel) rfl w_6_82 w_6_84 w_p3_4 w_1_13 w_6_85 (by decide +kernel) (fun _ _ _ _ _ h => f_X12_lays h) (fun _ _ _ _ _ h => r_X12_lays h) ?_
  refine s_aload_n (k := 0) C (by decide +kernel) ?_
  refine s_iload_n (k := 1) C (by decide +kernel) ?_
  refine s_fnV C (j2 := jX12_feedsAll) (cl := 12) (nf := 27) rfl rfl (by decide +kernel) rfl w_7_47 w_7_49 w_p4_11 w_1_13 w_7_50 (by decide +kernel) (fun _ _ _ _ _ h => f_X12_feedsAll h) (fun _ _ _ _ _ h => r_X12_feedsAll h) ?_
  refine s_aload_n (k := 0) C (by decide +kernel) ?_
  refine s_iload_n (k := 1) C (by decide +kernel) ?_
  refine s_fnV C (j2 := jX12_answersRead) (cl := 12) (nf := 27) rfl rfl (by decide +kernel) rfl w_7_108 w_7_110 w_p5_4 w_1_13 w_7_111 (by decide +kernel) (fun _ _ _ _ _ h => f_X12_answersRead h) (fun _ _ _ _ _ h => r_X12_answersRead h) ?_
  refine s_aload_n (k := 0) C (by decide +kernel) ?_
  refine s_iload_n (k := 1) C (by decide +kernel) ?_
  refine s_bipush (n := 11) C (by decide +kernel) (by decide) ?_
  refine s_fnV C (j2 := jX12_of) (cl := 12) (nf := 27) rfl rfl (by decide +kernel) rfl w_6_220 w_6_222 w_p3_11 w_1_13 w_6_223 (by decide +kernel) (fun _ _ _ _ _ h => f_X12_of h) (fun _ _ _ _ _ h => r_X12_of h) ?_
  exact s_iret C rfl (by decide +kernel)
set_option maxRecDepth 20000 in
theorem b_X12_actRead_57 {Z : Zt} {d : Nat} {p : Program} {e : Env} {R : Room} {s : State} {m : MethodId} {args : Array Value} {below : List Frame} {meth : Method} {c : Code} {Rp : RT} (C : Cx Z (d + 5) jX12_actRead RX12 p R s m args meth c) : Sd Z jX12_actRead p e R s m args below meth c (MQ below (QcS Z Rp) args s 0 0 (fun a => Z.2.2.1 < a)) 57 (w_X12_actRead_57 (MS Z (d + 5)) (Gw Z 3 p e R s m args below meth c (MQ below (QcS Z Rp) args s 0 0 (fun a => Z.2.2.1 < a))) Rp) := by
  unfold w_X12_actRead_57
  refine s_bipush (n := (-5)) C (by decide +kernel) (by decide) ?_
  exact s_iret C rfl (by decide +kernel)
set_option maxRecDepth 20000 in
theorem b_X12_actRead_17 {Z : Zt} {d : Nat} {p : Program} {e : Env} {R : Room} {s : State} {m : MethodId} {args : Array Value} {below : List Frame} {meth : Method} {c : Code} {Rp : RT} (C : Cx Z (d + 5) jX12_actRead RX12 p R s m args meth c) : Sd Z jX12_actRead p e R s m args below meth c (MQ below (QcS Z Rp) args s 0 0 (fun a => Z.2.2.1 < a)) 17 (w_X12_actRead_17 (MS Z (d + 5)) (Gw Z 3 p e R s m args below meth c (MQ below (QcS Z Rp) args s 0 0 (fun a => Z.2.2.1 < a))) Rp) := by
  unfold w_X12_actRead_17
  refine s_aload_n (k := 0) C (by decide +kernel) ?_
  refine s_iload_n (k := 1) C (by decide +kernel) ?_
  refine s_fnV C (j2 := jX12_isLeader) (cl := 12) (nf := 27) rfl rfl (by decide +kernel) rfl w_6_236 w_6_238 w_p3_15 w_1_13 w_6_239 (by decide +kernel) (fun _ _ _ _ _ h => f_X12_isLeader h) (fun _ _ _ _ _ h => r_X12_isLeader h) ?_
  refine s_if_eq (off := 35) (tgt := 57) C (by decide +kernel) (by decide) (b_X12_actRead_57 C) ?_
  refine s_aload_n (k := 0) C (by decide +kernel) ?_
  refine s_iload_n (k := 1) C (by decide +kernel) ?_
  refine s_bipush (n := 11) C (by decide +kernel) (by decide) ?_
  refine s_fnV C (j2 := jX12_of) (cl := 12) (nf := 27) rfl rfl (by decide +kernel) rfl w_6_220 w_6_222 w_p3_11 w_1_13 w_6_223 (by decide +kernel) (fun _ _ _ _ _ h => f_X12_of h) (fun _ _ _ _ _ h => r_X12_of h) ?_
  refine s_iconst (n := 1) C (by decide +kernel) (by decide) ?_
  refine s_icmp_eq (off := 24) (tgt := 57) C (by decide +kernel) (by decide) (b_X12_actRead_57 C) ?_
  refine s_aload_n (k := 0) C (by decide +kernel) ?_
  refine s_iload_n (k := 1) C (by decide +kernel) ?_
  refine s_aload_n (k := 0) C (by decide +kernel) ?_
  refine s_iload_n (k := 1) C (by decide +kernel) ?_
  refine s_bipush (n := 7) C (by decide +kernel) (by decide) ?_
  refine s_fnV C (j2 := jX12_of) (cl := 12) (nf := 27) rfl rfl (by decide +kernel) rfl w_6_220 w_6_222 w_p3_11 w_1_13 w_6_223 (by decide +kernel) (fun _ _ _ _ _ h => f_X12_of h) (fun _ _ _ _ _ h => r_X12_of h) ?_
  refine s_fnV C (j2 := jX12_termAt) (cl := 12) (nf := 27) rfl rfl (by decide +kernel) rfl w_7_23 w_7_25 w_p4_5 w_1_13 w_7_26 (by decide +kernel) (fun _ _ _ _ _ h => f_X12_termAt h) (fun _ _ _ _ _ h => r_X12_termAt h) ?_
  refine s_aload_n (k := 0) C (by decide +kernel) ?_
  refine s_iload_n (k := 1) C (by decide +kernel) ?_
  refine s_iconst (n := 1) C (by decide +kernel) (by decide) ?_
  refine s_fnV C (j2 := jX12_of) (cl := 12) (nf := 27) rfl rfl (by decide +kernel) rfl w_6_220 w_6_222 w_p3_11 w_1_13 w_6_223 (by decide +kernel) (fun _ _ _ _ _ h => f_X12_of h) (fun _ _ _ _ _ h => r_X12_of h) ?_
  refine s_icmp_eq (off := 6) (tgt := 60) C (by decide +kernel) (by decide) (b_X12_actRead_60 C) ?_
  exact (b_X12_actRead_57 C)
set_option maxRecDepth 20000 in
theorem b_X12_actRead_14 {Z : Zt} {d : Nat} {p : Program} {e : Env} {R : Room} {s : State} {m : MethodId} {args : Array Value} {below : List Frame} {meth : Method} {c : Code} {Rp : RT} (C : Cx Z (d + 5) jX12_actRead RX12 p R s m args meth c) : Sd Z jX12_actRead p e R s m args below meth c (MQ below (QcS Z Rp) args s 0 0 (fun a => Z.2.2.1 < a)) 14 (w_X12_actRead_14 (MS Z (d + 5)) (Gw Z 3 p e R s m args below meth c (MQ below (QcS Z Rp) args s 0 0 (fun a => Z.2.2.1 < a))) Rp) := by
  unfold w_X12_actRead_14
  refine s_bipush (n := (-2)) C (by decide +kernel) (by decide) ?_
  exact s_iret C rfl (by decide +kernel)
set_option maxRecDepth 20000 in
theorem b_X12_actRead_0 {Z : Zt} {d : Nat} {p : Program} {e : Env} {R : Room} {s : State} {m : MethodId} {args : Array Value} {below : List Frame} {meth : Method} {c : Code} {Rp : RT} (C : Cx Z (d + 5) jX12_actRead RX12 p R s m args meth c) : Sd Z jX12_actRead p e R s m args below meth c (MQ below (QcS Z Rp) args s 0 0 (fun a => Z.2.2.1 < a)) 0 (w_X12_actRead_0 (MS Z (d + 5)) (Gw Z 3 p e R s m args below meth c (MQ below (QcS Z Rp) args s 0 0 (fun a => Z.2.2.1 < a))) Rp) := by
  unfold w_X12_actRead_0
  refine s_iload_n (k := 1) C (by decide +kernel) ?_
  refine s_fnS C (j2 := jX12_isStore) (by decide +kernel) rfl w_6_208 w_6_209 w_1_13 w_6_210 (by decide +kernel) (fun _ _ _ _ _ h => f_X12_isStore h) ?_
  refine s_if_eq (off := 10) (tgt := 14) C (by decide +kernel) (by decide) (b_X12_actRead_14 C) ?_
  refine s_iload_n (k := 2) C (by decide +kernel) ?_
  refine s_fnS C (j2 := jX12_isCell) (by decide +kernel) rfl w_7_90 w_7_91 w_1_13 w_7_92 (by decide +kernel) (fun _ _ _ _ _ h => f_X12_isCell h) ?_
  refine s_if_ne (off := 6) (tgt := 17) C (by decide +kernel) (by decide) (b_X12_actRead_17 C) ?_
  exact (b_X12_actRead_14 C)
theorem ms_X12_actRead {Z : Zt} {d : Nat} {S : Sh} {μ : Mi} {ρ : Mr} {Rp : RT} (a0 : Nat) (x1 : Int32) (x2 : Int32) (h : ∀ G : Nat → PT, w_X12_actRead_0 (MS Z (d + 5)) G Rp [.ref a0, .int x1, .int x2] [] S (0, 0) μ ρ) : MS Z (d + 6) jX12_actRead [.ref a0, .int x1, .int x2] S μ ρ Rp :=
  MS_of [.ref a0, .int x1, .int x2] (by decide +kernel) rfl rfl (Nat.le_of_ble_eq_true rfl) rfl (fun p e R s m args below meth c C => b_X12_actRead_0 C _ _ _ _ _ _ (h _ ))
def F_X12_actRead : FT := fun As S μ ρ k => match As with
  | [.ref a, .int s, .int x] => a = 2737 ∧ RS S ρ ∧ good (μ 2738) ∧ ∀ (t : T4) (g : Rw), k (some (.int (aRead (μ 2738) s x).1)) (M4 μ g t (aRead (μ 2738) s x).2)
  | _ => False
theorem r_X12_actRead {As S μ ρ k} (h : F_X12_actRead As S μ ρ k) : ∃ a As', As = Value.ref a :: As' ∧ S.2 a = (12, 27) := by
  unfold F_X12_actRead at h
  split at h
  · exact ⟨_, _, rfl, by rw [h.1]; exact h.2.1.1⟩
  · exact h.elim
set_option maxHeartbeats 1000000 in
theorem f_X12_actRead {Z : Zt} {d : Nat} {As : List Value} {S : Sh} {μ : Mi} {ρ : Mr} {Rp : RT} (h : F_X12_actRead As S μ ρ (fun r μ' => Rp r S μ' ρ)) : MS Z (d + 6) jX12_actRead As S μ ρ Rp := by
  unfold F_X12_actRead at h
  split at h
  · rename_i a s x
    obtain ⟨rfl, hS, h⟩ := h
    have hS0 := hS
    unfold RS at hS
    obtain ⟨hg, h⟩ := h
    obtain ⟨g0, t0, h0⟩ := M4_self μ
    rw [h0]
    generalize hA : μ 2738 = A at *
    refine ms_X12_actRead _ _ _ (fun G => ?_)
    unfold aRead at h
    simp only [w_X12_actRead_0, w_X12_actRead_14, tAload, tIload, nth, tGetI, tGetR, tConst, tLconst, tBin, tUn, tI2l, tAld, tAldR, tAlen, tIast, tBast, tZast, tAast, tIret, tZret, tVret, tAret, tIf, tIf2, tGoto, tIstore, tAstore, sset, tIinc, tDup, tDup2, tPop, tPutI, tPutZ, tPutR, tCallV, tCallS, popN, tFn, tCopy, tMax, tMin, tSw, swc, tRem, tObjI, Option.toList, List.nil_append, List.cons_append, okR, true_and, and_true, true_or, or_true, Nat.zero_le, ne_eq, not_false_eq_true, Nat.reduceEqDiff, F_X12_isStore, F_X12_isCell, b2_z, Decidable.not_not]
    have bad : ¬ (rgd s 0 4 ∧ rgd x 0 3) → Rp (some (.int (-2))) S (M4 μ g0 t0 A) ρ := by
      intro c
      have := h t0 g0
      rw [if_pos c] at this
      exact this
    refine ⟨fun c => bad (fun z => c z.1), fun c => ⟨fun c2 => ?_, fun c2 => bad (fun z => c2 z.2)⟩⟩
    rw [if_neg (not_not_intro ⟨c, c2⟩)] at h
    obtain ⟨s, rfl, hs0, -, hs⟩ := rg_ex (lo := 0) (hi := 4) c
    have hrs := rg_T (lo := 0) (hi := 4) (n := s) (by omega) (by omega) hs0
    have hs5 : s < 5 := by omega
    have hst := good_st hg hs5
    rw [nI_clamp hs0] at h
    have i1 : (514 : Int32) * nI s + 1 = nI (514 * s + 1) := ixs 1 1 rfl
    have b1 : inb (nI (514 * s + 1)) 13548 := inb_nI (by omega) (by decide)
    have i7 : (514 : Int32) * nI s + 7 = nI (514 * s + 7) := ixs 7 7 rfl
    have b7 : inb (nI (514 * s + 7)) 13548 := inb_nI (by omega) (by decide)
    have i11 : (514 : Int32) * nI s + 11 = nI (514 * s + 11) := ixs 11 11 rfl
    have b11 : inb (nI (514 * s + 11)) 13548 := inb_nI (by omega) (by decide)
    have i12 : (514 : Int32) * nI s + 12 = nI (514 * s + 12) := ixs 12 12 rfl
    have b12 : inb (nI (514 * s + 12)) 13548 := inb_nI (by omega) (by decide)
    have i13 : (514 : Int32) * nI s + 13 = nI (514 * s + 13) := ixs 13 13 rfl
    have b13 : inb (nI (514 * s + 13)) 13548 := inb_nI (by omega) (by decide)
    have i14 : (514 : Int32) * nI s + 14 = nI (514 * s + 14) := ixs 14 14 rfl
    have b14 : inb (nI (514 * s + 14)) 13548 := inb_nI (by omega) (by decide)
    have i15 : (514 : Int32) * nI s + 15 = nI (514 * s + 15) := ixs 15 15 rfl
    have b15 : inb (nI (514 * s + 15)) 13548 := inb_nI (by omega) (by decide)
    have bad2 : ¬ canRead A s → ∀ L, w_X12_actRead_57 (MS Z (d + 5)) G Rp L [] S (0, 0) (M4 μ g0 t0 A) ρ := by
      intro c L
      simp only [w_X12_actRead_57, tAload, tIload, nth, tGetI, tGetR, tConst, tLconst, tBin, tUn, tI2l, tAld, tAldR, tAlen, tIast, tBast, tZast, tAast, tIret, tZret, tVret, tAret, tIf, tIf2, tGoto, tIstore, tAstore, sset, tIinc, tDup, tDup2, tPop, tPutI, tPutZ, tPutR, tCallV, tCallS, popN, tFn, tCopy, tMax, tMin, tSw, swc, tRem, tObjI, Option.toList, List.nil_append, List.cons_append, okR, true_and, and_true, true_or, or_true, Nat.zero_le, ne_eq, not_false_eq_true, Nat.reduceEqDiff]
      have := h t0 g0
      rw [if_pos c] at this
      exact this
    simp only [w_X12_actRead_17, tAload, tIload, nth, tGetI, tGetR, tConst, tLconst, tBin, tUn, tI2l, tAld, tAldR, tAlen, tIast, tBast, tZast, tAast, tIret, tZret, tVret, tAret, tIf, tIf2, tGoto, tIstore, tAstore, sset, tIinc, tDup, tDup2, tPop, tPutI, tPutZ, tPutR, tCallV, tCallS, popN, tFn, tCopy, tMax, tMin, tSw, swc, tRem, tObjI, Option.toList, List.nil_append, List.cons_append, okR, true_and, and_true, true_or, or_true, Nat.zero_le, ne_eq, not_false_eq_true, Nat.reduceEqDiff, F_X12_isLeader, F_X12_of, F_X12_termAt, hS0, hrs, b2_z, Decidable.not_not, M4_row, i1, b1, i7, b7, i11, b11]
    simp (disch := omega) only [nI_clamp]
    refine ⟨fun c3 => bad2 (fun z => c3 z.1) _, fun c3 => ⟨fun c4 => bad2 (fun z => z.2.1 c4) _, fun c4 => ⟨hst.1.1.2.1, hst.1.1.2.2.1, fun c5 => ?_, fun c5 => bad2 (fun z => c5 z.2.2) _⟩⟩⟩
    simp only [w_X12_actRead_60, tAload, tIload, nth, tGetI, tGetR, tConst, tLconst, tBin, tUn, tI2l, tAld, tAldR, tAlen, tIast, tBast, tZast, tAast, tIret, tZret, tVret, tAret, tIf, tIf2, tGoto, tIstore, tAstore, sset, tIinc, tDup, tDup2, tPop, tPutI, tPutZ, tPutR, tCallV, tCallS, popN, tFn, tCopy, tMax, tMin, tSw, swc, tRem, tObjI, Option.toList, List.nil_append, List.cons_append, okR, true_and, and_true, true_or, or_true, Nat.zero_le, ne_eq, not_false_eq_true, Nat.reduceEqDiff, F_X12_of, F_X12_lays, F_X12_feedsAll, F_X12_answersRead, hS0, hrs, M4_row, M4_upF, M4_setM, M4_M3, i11, b11, i12, b12, i13, b13, i14, b14, i15, b15]
    simp (disch := omega) only [nI_clamp]
    have e0 : up (up (up (up (up A (514 * s + 11) 1) (514 * s + 12) x) (514 * s + 13) 0) (514 * s + 15) ((1 : Int32) <<< (nI s &&& 31))) (514 * s + 14) (up (up (up (up A (514 * s + 11) 1) (514 * s + 12) x) (514 * s + 13) 0) (514 * s + 15) ((1 : Int32) <<< (nI s &&& 31)) (514 * s + 14) + 1) = qRead0 A s x := rfl
    rw [e0]
    have ho : ∀ i, (i ≠ 514 * s + 11 ∧ i ≠ 514 * s + 12 ∧ i ≠ 514 * s + 13 ∧ i ≠ 514 * s + 14 ∧ i ≠ 514 * s + 15) → qRead0 A s x i = A i := by
      intro i hi
      unfold qRead0
      rw [up_ne (by omega), up_ne (by omega), up_ne (by omega), up_ne (by omega), up_ne (by omega)]
    have e12 : qRead0 A s x (514 * s + 12) = x := by
      unfold qRead0
      rw [up_ne (by omega), up_ne (by omega), up_ne (by omega), up_at]
    have ha : agOK (qRead0 A s x) s := agOK_of hs5 hst.1 (by rw [ho _ (by omega)]; exact hst.1.1.1) (ho _ (by omega)) (ho _ (by omega)) (ho _ (by omega)) (fun t ht => by rw [ho _ (by omega)]; exact hst.1.1.2.2.2 t ht) (fun i q1 q2 => ho _ (by omega))
    have hf := agOK_feeds hs5 ha
    refine ⟨ha.1, ⟨hf.1.1, hf.1.2.1, hf.1.2.2.1⟩, ?_, ?_⟩
    · rw [qFeedsAll_lo (by omega), e12]; exact c2
    · have := h (qMem (qFeedsAll (qRead0 A s x) s) s) g0
      rw [if_neg (not_not_intro ⟨c3, c4, c5⟩)] at this
      exact this
  · exact h.elim
def w_X12_actHand_75 (M : CT) (G : Nat → PT) (Rp : RT) : PT := tAload 0 <| tIload 1 <| tIload 2 <| tConst 6 <| tConst 0 <| tConst 0 <| tFn 6 F_X12_sends <| tIstore 3 <| tAload 0 <| tGetR 12 27 1 <| tConst 4510 <| tAld 20 <| tIret Rp
def w_X12_actHand_72 (M : CT) (G : Nat → PT) (Rp : RT) : PT := tConst (-5) <| tIret Rp
def w_X12_actHand_25 (M : CT) (G : Nat → PT) (Rp : RT) : PT := tAload 0 <| tIload 1 <| tFn 2 F_X12_laysMembers <| tAload 0 <| tIload 1 <| tFn 2 F_X12_isLeader <| tIf (fun x => x = 0) (w_X12_actHand_72 M G Rp) <| tAload 0 <| tGetI 12 27 8 <| tAload 0 <| tGetI 12 27 9 <| tBin (fun x y => x ||| y) <| tIload 2 <| tFn 2 F_X12_has <| tIf (fun x => x = 0) (w_X12_actHand_72 M G Rp) <| tAload 0 <| tIload 1 <| tConst 29 <| tIload 2 <| tBin (fun x y => x + y) <| tFn 3 F_X12_of <| tAload 0 <| tIload 1 <| tConst 4 <| tFn 3 F_X12_of <| tIf2 (fun x y => x = y) (w_X12_actHand_75 M G Rp) <| w_X12_actHand_72 M G Rp
def w_X12_actHand_17 (M : CT) (G : Nat → PT) (Rp : RT) : PT := tIload 1 <| tIload 2 <| tIf2 (fun x y => x ≠ y) (w_X12_actHand_25 M G Rp) <| tConst (-3) <| tIret Rp
def w_X12_actHand_14 (M : CT) (G : Nat → PT) (Rp : RT) : PT := tConst (-2) <| tIret Rp
def w_X12_actHand_0 (M : CT) (G : Nat → PT) (Rp : RT) : PT := tIload 1 <| tFn 1 F_X12_isStore <| tIf (fun x => x = 0) (w_X12_actHand_14 M G Rp) <| tIload 2 <| tFn 1 F_X12_isStore <| tIf (fun x => x ≠ 0) (w_X12_actHand_17 M G Rp) <| w_X12_actHand_14 M G Rp
set_option maxRecDepth 20000 in
theorem b_X12_actHand_75 {Z : Zt} {d : Nat} {p : Program} {e : Env} {R : Room} {s : State} {m : MethodId} {args : Array Value} {below : List Frame} {meth : Method} {c : Code} {Rp : RT} (C : Cx Z (d + 4) jX12_actHand RX12 p R s m args meth c) : Sd Z jX12_actHand p e R s m args below meth c (MQ below (QcS Z Rp) args s 0 0 (fun a => Z.2.2.1 < a)) 75 (w_X12_actHand_75 (MS Z (d + 4)) (Gw Z 4 p e R s m args below meth c (MQ below (QcS Z Rp) args s 0 0 (fun a => Z.2.2.1 < a))) Rp) := by
  unfold w_X12_actHand_75
  refine s_aload_n (k := 0) C (by decide +kernel) ?_
  refine s_iload_n (k := 1) C (by decide +kernel) ?_
  refine s_iload_n (k := 2) C (by decide +kernel) ?_
  refine s_bipush (n := 6) C (by decide +kernel) (by decide) ?_
  refine s_iconst (n := 0) C (by decide +kernel) (by decide) ?_
  refine s_iconst (n := 0) C (by decide +kernel) (by decide) ?_
  refine s_fnV C (j2 := jX12_sends) (cl := 12) (nf := 27) rfl rfl (by decide +kernel) rfl w_7_27 w_7_29 w_p4_6 w_1_13 w_7_30 (by decide +kernel) (fun _ _ _ _ _ h => f_X12_sends h) (fun _ _ _ _ _ h => r_X12_sends h) ?_
  refine s_istore_n (k := 3) C (by decide +kernel) ?_
  refine s_aload_n (k := 0) C (by decide +kernel) ?_
  refine s_getR C w_6_88 (by decide +kernel) rfl ?_
  refine s_sipush (n := 4510) C (by decide +kernel) (by decide) ?_
  refine s_iald C (by decide +kernel) ?_
  exact s_iret C rfl (by decide +kernel)
set_option maxRecDepth 20000 in
theorem b_X12_actHand_72 {Z : Zt} {d : Nat} {p : Program} {e : Env} {R : Room} {s : State} {m : MethodId} {args : Array Value} {below : List Frame} {meth : Method} {c : Code} {Rp : RT} (C : Cx Z (d + 4) jX12_actHand RX12 p R s m args meth c) : Sd Z jX12_actHand p e R s m args below meth c (MQ below (QcS Z Rp) args s 0 0 (fun a => Z.2.2.1 < a)) 72 (w_X12_actHand_72 (MS Z (d + 4)) (Gw Z 4 p e R s m args below meth c (MQ below (QcS Z Rp) args s 0 0 (fun a => Z.2.2.1 < a))) Rp) := by
  unfold w_X12_actHand_72
  refine s_bipush (n := (-5)) C (by decide +kernel) (by decide) ?_
  exact s_iret C rfl (by decide +kernel)
set_option maxRecDepth 20000 in
theorem b_X12_actHand_25 {Z : Zt} {d : Nat} {p : Program} {e : Env} {R : Room} {s : State} {m : MethodId} {args : Array Value} {below : List Frame} {meth : Method} {c : Code} {Rp : RT} (C : Cx Z (d + 4) jX12_actHand RX12 p R s m args meth c) : Sd Z jX12_actHand p e R s m args below meth c (MQ below (QcS Z Rp) args s 0 0 (fun a => Z.2.2.1 < a)) 25 (w_X12_actHand_25 (MS Z (d + 4)) (Gw Z 4 p e R s m args below meth c (MQ below (QcS Z Rp) args s 0 0 (fun a => Z.2.2.1 < a))) Rp) := by
  unfold w_X12_actHand_25
  refine s_aload_n (k := 0) C (by decide +kernel) ?_
  refine s_iload_n (k := 1) C (by decide +kernel) ?_
  refine s_fnV C (j2 := jX12_laysMembers) (cl := 12) (nf := 27) rfl rfl (by decide +kernel) rfl w_6_216 w_6_218 w_p3_10 w_1_13 w_6_219 (by decide +kernel) (fun _ _ _ _ _ h => f_X12_laysMembers h) (fun _ _ _ _ _ h => r_X12_laysMembers h) ?_
  refine s_aload_n (k := 0) C (by decide +kernel) ?_
  refine s_iload_n (k := 1) C (by decide +kernel) ?_
  refine s_fnV C (j2 := jX12_isLeader) (cl := 12) (nf := 27) rfl rfl (by decide +kernel) rfl w_6_236 w_6_238 w_p3_15 w_1_13 w_6_239 (by decide +kernel) (fun _ _ _ _ _ h => f_X12_isLeader h) (fun _ _ _ _ _ h => r_X12_isLeader h) ?_
  refine s_if_eq (off := 37) (tgt := 72) C (by decide +kernel) (by decide) (b_X12_actHand_72 C) ?_
  refine s_aload_n (k := 0) C (by decide +kernel) ?_
  refine s_getI C w_6_95 (by decide +kernel) rfl ?_
  refine s_aload_n (k := 0) C (by decide +kernel) ?_
  refine s_getI C w_6_96 (by decide +kernel) rfl ?_
  refine s_ior C (by decide +kernel) ?_
  refine s_iload_n (k := 2) C (by decide +kernel) ?_
  refine s_fnS C (j2 := jX12_has) (by decide +kernel) rfl w_7_0 w_7_1 w_1_13 w_7_2 (by decide +kernel) (fun _ _ _ _ _ h => f_X12_has h) ?_
  refine s_if_eq (off := 21) (tgt := 72) C (by decide +kernel) (by decide) (b_X12_actHand_72 C) ?_
  refine s_aload_n (k := 0) C (by decide +kernel) ?_
  refine s_iload_n (k := 1) C (by decide +kernel) ?_
  refine s_bipush (n := 29) C (by decide +kernel) (by decide) ?_
  refine s_iload_n (k := 2) C (by decide +kernel) ?_
  refine s_iadd C (by decide +kernel) ?_
  refine s_fnV C (j2 := jX12_of) (cl := 12) (nf := 27) rfl rfl (by decide +kernel) rfl w_6_220 w_6_222 w_p3_11 w_1_13 w_6_223 (by decide +kernel) (fun _ _ _ _ _ h => f_X12_of h) (fun _ _ _ _ _ h => r_X12_of h) ?_
  refine s_aload_n (k := 0) C (by decide +kernel) ?_
  refine s_iload_n (k := 1) C (by decide +kernel) ?_
  refine s_iconst (n := 4) C (by decide +kernel) (by decide) ?_
  refine s_fnV C (j2 := jX12_of) (cl := 12) (nf := 27) rfl rfl (by decide +kernel) rfl w_6_220 w_6_222 w_p3_11 w_1_13 w_6_223 (by decide +kernel) (fun _ _ _ _ _ h => f_X12_of h) (fun _ _ _ _ _ h => r_X12_of h) ?_
  refine s_icmp_eq (off := 6) (tgt := 75) C (by decide +kernel) (by decide) (b_X12_actHand_75 C) ?_
  exact (b_X12_actHand_72 C)
set_option maxRecDepth 20000 in
theorem b_X12_actHand_17 {Z : Zt} {d : Nat} {p : Program} {e : Env} {R : Room} {s : State} {m : MethodId} {args : Array Value} {below : List Frame} {meth : Method} {c : Code} {Rp : RT} (C : Cx Z (d + 4) jX12_actHand RX12 p R s m args meth c) : Sd Z jX12_actHand p e R s m args below meth c (MQ below (QcS Z Rp) args s 0 0 (fun a => Z.2.2.1 < a)) 17 (w_X12_actHand_17 (MS Z (d + 4)) (Gw Z 4 p e R s m args below meth c (MQ below (QcS Z Rp) args s 0 0 (fun a => Z.2.2.1 < a))) Rp) := by
  unfold w_X12_actHand_17
  refine s_iload_n (k := 1) C (by decide +kernel) ?_
  refine s_iload_n (k := 2) C (by decide +kernel) ?_
  refine s_icmp_ne (off := 6) (tgt := 25) C (by decide +kernel) (by decide) (b_X12_actHand_25 C) ?_
  refine s_bipush (n := (-3)) C (by decide +kernel) (by decide) ?_
  exact s_iret C rfl (by decide +kernel)
set_option maxRecDepth 20000 in
theorem b_X12_actHand_14 {Z : Zt} {d : Nat} {p : Program} {e : Env} {R : Room} {s : State} {m : MethodId} {args : Array Value} {below : List Frame} {meth : Method} {c : Code} {Rp : RT} (C : Cx Z (d + 4) jX12_actHand RX12 p R s m args meth c) : Sd Z jX12_actHand p e R s m args below meth c (MQ below (QcS Z Rp) args s 0 0 (fun a => Z.2.2.1 < a)) 14 (w_X12_actHand_14 (MS Z (d + 4)) (Gw Z 4 p e R s m args below meth c (MQ below (QcS Z Rp) args s 0 0 (fun a => Z.2.2.1 < a))) Rp) := by
  unfold w_X12_actHand_14
  refine s_bipush (n := (-2)) C (by decide +kernel) (by decide) ?_
  exact s_iret C rfl (by decide +kernel)
set_option maxRecDepth 20000 in
theorem b_X12_actHand_0 {Z : Zt} {d : Nat} {p : Program} {e : Env} {R : Room} {s : State} {m : MethodId} {args : Array Value} {below : List Frame} {meth : Method} {c : Code} {Rp : RT} (C : Cx Z (d + 4) jX12_actHand RX12 p R s m args meth c) : Sd Z jX12_actHand p e R s m args below meth c (MQ below (QcS Z Rp) args s 0 0 (fun a => Z.2.2.1 < a)) 0 (w_X12_actHand_0 (MS Z (d + 4)) (Gw Z 4 p e R s m args below meth c (MQ below (QcS Z Rp) args s 0 0 (fun a => Z.2.2.1 < a))) Rp) := by
  unfold w_X12_actHand_0
  refine s_iload_n (k := 1) C (by decide +kernel) ?_
  refine s_fnS C (j2 := jX12_isStore) (by decide +kernel) rfl w_6_208 w_6_209 w_1_13 w_6_210 (by decide +kernel) (fun _ _ _ _ _ h => f_X12_isStore h) ?_
  refine s_if_eq (off := 10) (tgt := 14) C (by decide +kernel) (by decide) (b_X12_actHand_14 C) ?_
  refine s_iload_n (k := 2) C (by decide +kernel) ?_
  refine s_fnS C (j2 := jX12_isStore) (by decide +kernel) rfl w_6_208 w_6_209 w_1_13 w_6_210 (by decide +kernel) (fun _ _ _ _ _ h => f_X12_isStore h) ?_
  refine s_if_ne (off := 6) (tgt := 17) C (by decide +kernel) (by decide) (b_X12_actHand_17 C) ?_
  exact (b_X12_actHand_14 C)
theorem ms_X12_actHand {Z : Zt} {d : Nat} {S : Sh} {μ : Mi} {ρ : Mr} {Rp : RT} (a0 : Nat) (x1 : Int32) (x2 : Int32) (h : ∀ G : Nat → PT, w_X12_actHand_0 (MS Z (d + 4)) G Rp [.ref a0, .int x1, .int x2, .null] [] S (0, 0) μ ρ) : MS Z (d + 5) jX12_actHand [.ref a0, .int x1, .int x2] S μ ρ Rp :=
  MS_of [.ref a0, .int x1, .int x2, .null] (by decide +kernel) rfl rfl (Nat.le_of_ble_eq_true rfl) rfl (fun p e R s m args below meth c C => b_X12_actHand_0 C _ _ _ _ _ _ (h _ ))
def F_X12_actHand : FT := fun As S μ ρ k => match As with
  | [.ref a, .int s, .int x] => a = 2737 ∧ RS S ρ ∧ good (μ 2738) ∧ ∀ (t : T4) (g : Rw), k (some (.int (aHand (μ 2738) s x).1)) (M4 μ g t (aHand (μ 2738) s x).2)
  | _ => False
theorem r_X12_actHand {As S μ ρ k} (h : F_X12_actHand As S μ ρ k) : ∃ a As', As = Value.ref a :: As' ∧ S.2 a = (12, 27) := by
  unfold F_X12_actHand at h
  split at h
  · exact ⟨_, _, rfl, by rw [h.1]; exact h.2.1.1⟩
  · exact h.elim
set_option maxHeartbeats 1000000 in
theorem f_X12_actHand {Z : Zt} {d : Nat} {As : List Value} {S : Sh} {μ : Mi} {ρ : Mr} {Rp : RT} (h : F_X12_actHand As S μ ρ (fun r μ' => Rp r S μ' ρ)) : MS Z (d + 5) jX12_actHand As S μ ρ Rp := by
  unfold F_X12_actHand at h
  split at h
  · rename_i a s x
    obtain ⟨rfl, hS, h⟩ := h
    have hS0 := hS
    unfold RS at hS
    obtain ⟨hg, h⟩ := h
    obtain ⟨g0, t0, h0⟩ := M4_self μ
    rw [h0]
    generalize hA : μ 2738 = A at *
    refine ms_X12_actHand _ _ _ (fun G => ?_)
    unfold aHand at h
    simp only [w_X12_actHand_0, w_X12_actHand_14, w_X12_actHand_17, tAload, tIload, nth, tGetI, tGetR, tConst, tLconst, tBin, tUn, tI2l, tAld, tAldR, tAlen, tIast, tBast, tZast, tAast, tIret, tZret, tVret, tAret, tIf, tIf2, tGoto, tIstore, tAstore, sset, tIinc, tDup, tDup2, tPop, tPutI, tPutZ, tPutR, tCallV, tCallS, popN, tFn, tCopy, tMax, tMin, tSw, swc, tRem, tObjI, Option.toList, List.nil_append, List.cons_append, okR, true_and, and_true, true_or, or_true, Nat.zero_le, ne_eq, not_false_eq_true, Nat.reduceEqDiff, F_X12_isStore, b2_z, Decidable.not_not]
    have bad : ¬ (rgd s 0 4 ∧ rgd x 0 4) → Rp (some (.int (-2))) S (M4 μ g0 t0 A) ρ := by
      intro c
      have := h t0 g0
      rw [if_pos c] at this
      exact this
    refine ⟨fun c => bad (fun z => c z.1), fun c => ⟨fun c2 => ?_, fun c2 => bad (fun z => c2 z.2)⟩⟩
    rw [if_neg (not_not_intro ⟨c, c2⟩)] at h
    refine ⟨fun c3 => ?_, fun c3 => ?_⟩
    · rw [if_neg c3] at h
      obtain ⟨s, rfl, hs0, -, hs⟩ := rg_ex (lo := 0) (hi := 4) c
      have hrs := rg_T (lo := 0) (hi := 4) (n := s) (by omega) (by omega) hs0
      have hs5 : s < 5 := by omega
      have hst := good_st hg hs5
      rw [nI_clamp hs0] at h
      have i4 : (514 : Int32) * nI s + 4 = nI (514 * s + 4) := ixs 4 4 rfl
      have b4 : inb (nI (514 * s + 4)) 13548 := inb_nI (by omega) (by decide)
      obtain ⟨x, rfl, hx0, -, hx⟩ := rg_ex (lo := 0) (hi := 4) c2
      have hrx := rg_T (lo := 0) (hi := 4) (n := x) (by omega) (by omega) hx0
      rw [nI_clamp hx0] at h
      have i10 : inb 4510 13548 := inb_nI (k := 4510) (by decide) (by decide)
      have i29 : (514 : Int32) * nI s + (29 + nI x) = nI (514 * s + 29 + x) := by rw [nad' 29 29 rfl, ixs _ _ rfl, Nat.add_assoc]
      have b29 : inb (nI (514 * s + 29 + x)) 13548 := inb_nI (by omega) (by decide)
      have bad2 : ¬ canHand A s x → ∀ L, w_X12_actHand_72 (MS Z (d + 4)) G Rp L [] S (0, 0) (M4 μ g0 (qMem A s) A) ρ := by
        intro c L
        simp only [w_X12_actHand_72, tAload, tIload, nth, tGetI, tGetR, tConst, tLconst, tBin, tUn, tI2l, tAld, tAldR, tAlen, tIast, tBast, tZast, tAast, tIret, tZret, tVret, tAret, tIf, tIf2, tGoto, tIstore, tAstore, sset, tIinc, tDup, tDup2, tPop, tPutI, tPutZ, tPutR, tCallV, tCallS, popN, tFn, tCopy, tMax, tMin, tSw, swc, tRem, tObjI, Option.toList, List.nil_append, List.cons_append, okR, true_and, and_true, true_or, or_true, Nat.zero_le, ne_eq, not_false_eq_true, Nat.reduceEqDiff]
        have := h (qMem A s) g0
        rw [if_pos c] at this
        exact this
      simp only [w_X12_actHand_25, w_X12_actHand_75, tAload, tIload, nth, tGetI, tGetR, tConst, tLconst, tBin, tUn, tI2l, tAld, tAldR, tAlen, tIast, tBast, tZast, tAast, tIret, tZret, tVret, tAret, tIf, tIf2, tGoto, tIstore, tAstore, sset, tIinc, tDup, tDup2, tPop, tPutI, tPutZ, tPutR, tCallV, tCallS, popN, tFn, tCopy, tMax, tMin, tSw, swc, tRem, tObjI, Option.toList, List.nil_append, List.cons_append, okR, true_and, and_true, true_or, or_true, Nat.zero_le, ne_eq, not_false_eq_true, Nat.reduceEqDiff, F_X12_laysMembers, F_X12_isLeader, F_X12_has, F_X12_of, F_X12_sends, hS0, hS, hrs, hrx, b2_z, Decidable.not_not, M4_row, M4_setM, M4_upF, M4_8, M4_9, i4, b4, i29, b29, i10, cl_4510]
      simp (disch := omega) only [nI_clamp]
      refine ⟨hst.1.1.2.1, hst.1.1.2.2.1, fun c3 => bad2 (fun z => c3 z.1) _, fun c3 => ⟨fun c4 => bad2 (fun z => c4 z.2.1) _, fun c4 => ⟨fun c5 => ⟨hst.1.1.1, ?_⟩, fun c5 => bad2 (fun z => c5 z.2.2) _⟩⟩⟩
      have := h (qMem A s) g0
      rw [if_neg (not_not_intro ⟨c3, c4, c5⟩)] at this
      rw [qSend_post, rndS_z (by decide)]
      exact this
    · have := h t0 g0
      rw [if_pos c3] at this
      exact this
  · exact h.elim
def w_X12_actChange_97 (M : CT) (G : Nat → PT) (Rp : RT) : PT := tIret Rp
def w_X12_actChange_86 (M : CT) (G : Nat → PT) (Rp : RT) : PT := tAload 0 <| tIload 1 <| tConst 3 <| tAload 0 <| tGetI 12 27 8 <| tIload 2 <| tFn 5 F_X12_proposes <| w_X12_actChange_97 M G Rp
def w_X12_actChange_70 (M : CT) (G : Nat → PT) (Rp : RT) : PT := tAload 0 <| tIload 1 <| tConst 4 <| tFn 3 F_X12_of <| tConst 100 <| tIf2 (fun x y => x < y) (w_X12_actChange_86 M G Rp) <| tConst (-4) <| tGoto (w_X12_actChange_97 M G Rp)
def w_X12_actChange_67 (M : CT) (G : Nat → PT) (Rp : RT) : PT := tConst (-5) <| tIret Rp
def w_X12_actChange_25 (M : CT) (G : Nat → PT) (Rp : RT) : PT := tAload 0 <| tIload 1 <| tFn 2 F_X12_laysMembers <| tAload 0 <| tIload 1 <| tFn 2 F_X12_isLeader <| tIf (fun x => x = 0) (w_X12_actChange_67 M G Rp) <| tAload 0 <| tGetI 12 27 9 <| tIf (fun x => x ≠ 0) (w_X12_actChange_67 M G Rp) <| tAload 0 <| tGetI 12 27 11 <| tAload 0 <| tIload 1 <| tConst 7 <| tFn 3 F_X12_of <| tIf2 (fun x y => y < x) (w_X12_actChange_67 M G Rp) <| tAload 0 <| tGetI 12 27 8 <| tIload 2 <| tIf2 (fun x y => x ≠ y) (w_X12_actChange_70 M G Rp) <| w_X12_actChange_67 M G Rp
def w_X12_actChange_10 (M : CT) (G : Nat → PT) (Rp : RT) : PT := tIload 2 <| tI2l <| tLconst 1 <| tLconst 31 <| tFn 3 F_X12_within <| tIf (fun x => x ≠ 0) (w_X12_actChange_25 M G Rp) <| tConst (-3) <| tIret Rp
def w_X12_actChange_0 (M : CT) (G : Nat → PT) (Rp : RT) : PT := tIload 1 <| tFn 1 F_X12_isStore <| tIf (fun x => x ≠ 0) (w_X12_actChange_10 M G Rp) <| tConst (-2) <| tIret Rp
set_option maxRecDepth 20000 in
theorem b_X12_actChange_97 {Z : Zt} {d : Nat} {p : Program} {e : Env} {R : Room} {s : State} {m : MethodId} {args : Array Value} {below : List Frame} {meth : Method} {c : Code} {Rp : RT} (C : Cx Z (d + 8) jX12_actChange RX12 p R s m args meth c) : Sd Z jX12_actChange p e R s m args below meth c (MQ below (QcS Z Rp) args s 0 0 (fun a => Z.2.2.1 < a)) 97 (w_X12_actChange_97 (MS Z (d + 8)) (Gw Z 3 p e R s m args below meth c (MQ below (QcS Z Rp) args s 0 0 (fun a => Z.2.2.1 < a))) Rp) := by
  unfold w_X12_actChange_97
  exact s_iret C rfl (by decide +kernel)
set_option maxRecDepth 20000 in
theorem b_X12_actChange_86 {Z : Zt} {d : Nat} {p : Program} {e : Env} {R : Room} {s : State} {m : MethodId} {args : Array Value} {below : List Frame} {meth : Method} {c : Code} {Rp : RT} (C : Cx Z (d + 8) jX12_actChange RX12 p R s m args meth c) : Sd Z jX12_actChange p e R s m args below meth c (MQ below (QcS Z Rp) args s 0 0 (fun a => Z.2.2.1 < a)) 86 (w_X12_actChange_86 (MS Z (d + 8)) (Gw Z 3 p e R s m args below meth c (MQ below (QcS Z Rp) args s 0 0 (fun a => Z.2.2.1 < a))) Rp) := by
  unfold w_X12_actChange_86
  refine s_aload_n (k := 0) C (by decide +kernel) ?_
  refine s_iload_n (k := 1) C (by decide +kernel) ?_
  refine s_iconst (n := 3) C (by decide +kernel) (by decide) ?_
  refine s_aload_n (k := 0) C (by decide +kernel) ?_
  refine s_getI C w_6_95 (by decide +kernel) rfl ?_
  refine s_iload_n (k := 2) C (by decide +kernel) ?_
  refine s_fnV C (j2 := jX12_proposes) (cl := 12) (nf := 27) rfl rfl (by decide +kernel) rfl w_7_96 w_7_98 w_p5_2 w_1_13 w_7_99 (by decide +kernel) (fun _ _ _ _ _ h => f_X12_proposes h) (fun _ _ _ _ _ h => r_X12_proposes h) ?_
  exact (b_X12_actChange_97 C)
set_option maxRecDepth 20000 in
theorem b_X12_actChange_70 {Z : Zt} {d : Nat} {p : Program} {e : Env} {R : Room} {s : State} {m : MethodId} {args : Array Value} {below : List Frame} {meth : Method} {c : Code} {Rp : RT} (C : Cx Z (d + 8) jX12_actChange RX12 p R s m args meth c) : Sd Z jX12_actChange p e R s m args below meth c (MQ below (QcS Z Rp) args s 0 0 (fun a => Z.2.2.1 < a)) 70 (w_X12_actChange_70 (MS Z (d + 8)) (Gw Z 3 p e R s m args below meth c (MQ below (QcS Z Rp) args s 0 0 (fun a => Z.2.2.1 < a))) Rp) := by
  unfold w_X12_actChange_70
  refine s_aload_n (k := 0) C (by decide +kernel) ?_
  refine s_iload_n (k := 1) C (by decide +kernel) ?_
  refine s_iconst (n := 4) C (by decide +kernel) (by decide) ?_
  refine s_fnV C (j2 := jX12_of) (cl := 12) (nf := 27) rfl rfl (by decide +kernel) rfl w_6_220 w_6_222 w_p3_11 w_1_13 w_6_223 (by decide +kernel) (fun _ _ _ _ _ h => f_X12_of h) (fun _ _ _ _ _ h => r_X12_of h) ?_
  refine s_bipush (n := 100) C (by decide +kernel) (by decide) ?_
  refine s_icmp_lt (off := 8) (tgt := 86) C (by decide +kernel) (by decide) (b_X12_actChange_86 C) ?_
  refine s_bipush (n := (-4)) C (by decide +kernel) (by decide) ?_
  exact s_goto (off := 14) (tgt := 97) C (by decide +kernel) (by decide) (b_X12_actChange_97 C)
set_option maxRecDepth 20000 in
theorem b_X12_actChange_67 {Z : Zt} {d : Nat} {p : Program} {e : Env} {R : Room} {s : State} {m : MethodId} {args : Array Value} {below : List Frame} {meth : Method} {c : Code} {Rp : RT} (C : Cx Z (d + 8) jX12_actChange RX12 p R s m args meth c) : Sd Z jX12_actChange p e R s m args below meth c (MQ below (QcS Z Rp) args s 0 0 (fun a => Z.2.2.1 < a)) 67 (w_X12_actChange_67 (MS Z (d + 8)) (Gw Z 3 p e R s m args below meth c (MQ below (QcS Z Rp) args s 0 0 (fun a => Z.2.2.1 < a))) Rp) := by
  unfold w_X12_actChange_67
  refine s_bipush (n := (-5)) C (by decide +kernel) (by decide) ?_
  exact s_iret C rfl (by decide +kernel)
set_option maxRecDepth 20000 in
theorem b_X12_actChange_25 {Z : Zt} {d : Nat} {p : Program} {e : Env} {R : Room} {s : State} {m : MethodId} {args : Array Value} {below : List Frame} {meth : Method} {c : Code} {Rp : RT} (C : Cx Z (d + 8) jX12_actChange RX12 p R s m args meth c) : Sd Z jX12_actChange p e R s m args below meth c (MQ below (QcS Z Rp) args s 0 0 (fun a => Z.2.2.1 < a)) 25 (w_X12_actChange_25 (MS Z (d + 8)) (Gw Z 3 p e R s m args below meth c (MQ below (QcS Z Rp) args s 0 0 (fun a => Z.2.2.1 < a))) Rp) := by
  unfold w_X12_actChange_25
  refine s_aload_n (k := 0) C (by decide +kernel) ?_
  refine s_iload_n (k := 1) C (by decide +kernel) ?_
  refine s_fnV C (j2 := jX12_laysMembers) (cl := 12) (nf := 27) rfl rfl (by decide +kernel) rfl w_6_216 w_6_218 w_p3_10 w_1_13 w_6_219 (by decide +kernel) (fun _ _ _ _ _ h => f_X12_laysMembers h) (fun _ _ _ _ _ h => r_X12_laysMembers h) ?_
  refine s_aload_n (k := 0) C (by decide +kernel) ?_
  refine s_iload_n (k := 1) C (by decide +kernel) ?_
  refine s_fnV C (j2 := jX12_isLeader) (cl := 12) (nf := 27) rfl rfl (by decide +kernel) rfl w_6_236 w_6_238 w_p3_15 w_1_13 w_6_239 (by decide +kernel) (fun _ _ _ _ _ h => f_X12_isLeader h) (fun _ _ _ _ _ h => r_X12_isLeader h) ?_
  refine s_if_eq (off := 32) (tgt := 67) C (by decide +kernel) (by decide) (b_X12_actChange_67 C) ?_
  refine s_aload_n (k := 0) C (by decide +kernel) ?_
  refine s_getI C w_6_96 (by decide +kernel) rfl ?_
  refine s_if_ne (off := 25) (tgt := 67) C (by decide +kernel) (by decide) (b_X12_actChange_67 C) ?_
  refine s_aload_n (k := 0) C (by decide +kernel) ?_
  refine s_getI C w_6_98 (by decide +kernel) rfl ?_
  refine s_aload_n (k := 0) C (by decide +kernel) ?_
  refine s_iload_n (k := 1) C (by decide +kernel) ?_
  refine s_bipush (n := 7) C (by decide +kernel) (by decide) ?_
  refine s_fnV C (j2 := jX12_of) (cl := 12) (nf := 27) rfl rfl (by decide +kernel) rfl w_6_220 w_6_222 w_p3_11 w_1_13 w_6_223 (by decide +kernel) (fun _ _ _ _ _ h => f_X12_of h) (fun _ _ _ _ _ h => r_X12_of h) ?_
  refine s_icmp_gt (off := 11) (tgt := 67) C (by decide +kernel) (by decide) (b_X12_actChange_67 C) ?_
  refine s_aload_n (k := 0) C (by decide +kernel) ?_
  refine s_getI C w_6_95 (by decide +kernel) rfl ?_
  refine s_iload_n (k := 2) C (by decide +kernel) ?_
  refine s_icmp_ne (off := 6) (tgt := 70) C (by decide +kernel) (by decide) (b_X12_actChange_70 C) ?_
  exact (b_X12_actChange_67 C)
set_option maxRecDepth 20000 in
theorem b_X12_actChange_10 {Z : Zt} {d : Nat} {p : Program} {e : Env} {R : Room} {s : State} {m : MethodId} {args : Array Value} {below : List Frame} {meth : Method} {c : Code} {Rp : RT} (C : Cx Z (d + 8) jX12_actChange RX12 p R s m args meth c) : Sd Z jX12_actChange p e R s m args below meth c (MQ below (QcS Z Rp) args s 0 0 (fun a => Z.2.2.1 < a)) 10 (w_X12_actChange_10 (MS Z (d + 8)) (Gw Z 3 p e R s m args below meth c (MQ below (QcS Z Rp) args s 0 0 (fun a => Z.2.2.1 < a))) Rp) := by
  unfold w_X12_actChange_10
  refine s_iload_n (k := 2) C (by decide +kernel) ?_
  refine s_i2l C (by decide +kernel) ?_
  refine s_lconst (n := 1) C (by decide +kernel) (by decide) ?_
  refine s_ldc2 C w_6_174 (by decide +kernel) ?_
  refine s_fnS C (j2 := jX12_within) (by decide +kernel) rfl w_6_175 w_6_176 w_1_13 w_6_177 (by decide +kernel) (fun _ _ _ _ _ h => f_X12_within h) ?_
  refine s_if_ne (off := 6) (tgt := 25) C (by decide +kernel) (by decide) (b_X12_actChange_25 C) ?_
  refine s_bipush (n := (-3)) C (by decide +kernel) (by decide) ?_
  exact s_iret C rfl (by decide +kernel)
set_option maxRecDepth 20000 in
theorem b_X12_actChange_0 {Z : Zt} {d : Nat} {p : Program} {e : Env} {R : Room} {s : State} {m : MethodId} {args : Array Value} {below : List Frame} {meth : Method} {c : Code} {Rp : RT} (C : Cx Z (d + 8) jX12_actChange RX12 p R s m args meth c) : Sd Z jX12_actChange p e R s m args below meth c (MQ below (QcS Z Rp) args s 0 0 (fun a => Z.2.2.1 < a)) 0 (w_X12_actChange_0 (MS Z (d + 8)) (Gw Z 3 p e R s m args below meth c (MQ below (QcS Z Rp) args s 0 0 (fun a => Z.2.2.1 < a))) Rp) := by
  unfold w_X12_actChange_0
  refine s_iload_n (k := 1) C (by decide +kernel) ?_
  refine s_fnS C (j2 := jX12_isStore) (by decide +kernel) rfl w_6_208 w_6_209 w_1_13 w_6_210 (by decide +kernel) (fun _ _ _ _ _ h => f_X12_isStore h) ?_
  refine s_if_ne (off := 6) (tgt := 10) C (by decide +kernel) (by decide) (b_X12_actChange_10 C) ?_
  refine s_bipush (n := (-2)) C (by decide +kernel) (by decide) ?_
  exact s_iret C rfl (by decide +kernel)
theorem ms_X12_actChange {Z : Zt} {d : Nat} {S : Sh} {μ : Mi} {ρ : Mr} {Rp : RT} (a0 : Nat) (x1 : Int32) (x2 : Int32) (h : ∀ G : Nat → PT, w_X12_actChange_0 (MS Z (d + 8)) G Rp [.ref a0, .int x1, .int x2] [] S (0, 0) μ ρ) : MS Z (d + 9) jX12_actChange [.ref a0, .int x1, .int x2] S μ ρ Rp :=
  MS_of [.ref a0, .int x1, .int x2] (by decide +kernel) rfl rfl (Nat.le_of_ble_eq_true rfl) rfl (fun p e R s m args below meth c C => b_X12_actChange_0 C _ _ _ _ _ _ (h _ ))
def F_X12_actChange : FT := fun As S μ ρ k => match As with
  | [.ref a, .int s, .int x] => a = 2737 ∧ RS S ρ ∧ good (μ 2738) ∧ ∀ (t : T4) (g : Rw), k (some (.int (aChange (μ 2738) s x).1)) (M4 μ g t (aChange (μ 2738) s x).2)
  | _ => False
theorem r_X12_actChange {As S μ ρ k} (h : F_X12_actChange As S μ ρ k) : ∃ a As', As = Value.ref a :: As' ∧ S.2 a = (12, 27) := by
  unfold F_X12_actChange at h
  split at h
  · exact ⟨_, _, rfl, by rw [h.1]; exact h.2.1.1⟩
  · exact h.elim
set_option maxHeartbeats 1000000 in
theorem f_X12_actChange {Z : Zt} {d : Nat} {As : List Value} {S : Sh} {μ : Mi} {ρ : Mr} {Rp : RT} (h : F_X12_actChange As S μ ρ (fun r μ' => Rp r S μ' ρ)) : MS Z (d + 9) jX12_actChange As S μ ρ Rp := by
  unfold F_X12_actChange at h
  split at h
  · rename_i a s x
    obtain ⟨rfl, hS, h⟩ := h
    have hS0 := hS
    unfold RS at hS
    obtain ⟨hg, h⟩ := h
    obtain ⟨g0, t0, h0⟩ := M4_self μ
    rw [h0]
    generalize hA : μ 2738 = A at *
    refine ms_X12_actChange _ _ _ (fun G => ?_)
    unfold aChange at h
    simp only [w_X12_actChange_0, w_X12_actChange_10, tAload, tIload, nth, tGetI, tGetR, tConst, tLconst, tBin, tUn, tI2l, tAld, tAldR, tAlen, tIast, tBast, tZast, tAast, tIret, tZret, tVret, tAret, tIf, tIf2, tGoto, tIstore, tAstore, sset, tIinc, tDup, tDup2, tPop, tPutI, tPutZ, tPutR, tCallV, tCallS, popN, tFn, tCopy, tMax, tMin, tSw, swc, tRem, tObjI, Option.toList, List.nil_append, List.cons_append, okR, true_and, and_true, true_or, or_true, Nat.zero_le, ne_eq, not_false_eq_true, Nat.reduceEqDiff, F_X12_isStore, F_X12_within, b2_z, Decidable.not_not, l_leC, l_geC, il_1, il_31]
    refine ⟨fun c => ⟨fun c2 => ?_, fun c2 => ?_⟩, fun c => ?_⟩
    · rw [if_neg (not_not_intro c), if_neg (not_not_intro c2)] at h
      obtain ⟨s, rfl, hs0, -, hs⟩ := rg_ex (lo := 0) (hi := 4) c
      have hrs := rg_T (lo := 0) (hi := 4) (n := s) (by omega) (by omega) hs0
      have hs5 : s < 5 := by omega
      have hst := good_st hg hs5
      rw [nI_clamp hs0] at h
      have i4 : (514 : Int32) * nI s + 4 = nI (514 * s + 4) := ixs 4 4 rfl
      have b4 : inb (nI (514 * s + 4)) 13548 := inb_nI (by omega) (by decide)
      have i7 : (514 : Int32) * nI s + 7 = nI (514 * s + 7) := ixs 7 7 rfl
      have b7 : inb (nI (514 * s + 7)) 13548 := inb_nI (by omega) (by decide)
      have bad2 : ¬ canChange A s x → ∀ L, w_X12_actChange_67 (MS Z (d + 8)) G Rp L [] S (0, 0) (M4 μ g0 (qMem A s) A) ρ := by
        intro c L
        simp only [w_X12_actChange_67, tAload, tIload, nth, tGetI, tGetR, tConst, tLconst, tBin, tUn, tI2l, tAld, tAldR, tAlen, tIast, tBast, tZast, tAast, tIret, tZret, tVret, tAret, tIf, tIf2, tGoto, tIstore, tAstore, sset, tIinc, tDup, tDup2, tPop, tPutI, tPutZ, tPutR, tCallV, tCallS, popN, tFn, tCopy, tMax, tMin, tSw, swc, tRem, tObjI, Option.toList, List.nil_append, List.cons_append, okR, true_and, and_true, true_or, or_true, Nat.zero_le, ne_eq, not_false_eq_true, Nat.reduceEqDiff]
        have := h (qMem A s) g0
        rw [if_pos c] at this
        exact this
      simp only [w_X12_actChange_25, w_X12_actChange_70, w_X12_actChange_86, w_X12_actChange_97, tAload, tIload, nth, tGetI, tGetR, tConst, tLconst, tBin, tUn, tI2l, tAld, tAldR, tAlen, tIast, tBast, tZast, tAast, tIret, tZret, tVret, tAret, tIf, tIf2, tGoto, tIstore, tAstore, sset, tIinc, tDup, tDup2, tPop, tPutI, tPutZ, tPutR, tCallV, tCallS, popN, tFn, tCopy, tMax, tMin, tSw, swc, tRem, tObjI, Option.toList, List.nil_append, List.cons_append, okR, true_and, and_true, true_or, or_true, Nat.zero_le, ne_eq, not_false_eq_true, Nat.reduceEqDiff, F_X12_laysMembers, F_X12_isLeader, F_X12_of, F_X12_proposes, hS0, hS, hrs, b2_z, Decidable.not_not, M4_row, M4_setM, M4_upF, M4_M3, M4_8, M4_9, M4_11, i4, b4, i7, b7]
      simp (disch := omega) only [nI_clamp]
      refine ⟨hst.1.1.2.1, hst.1.1.2.2.1, fun c3 => bad2 (fun z => c3 z.1) _, fun c3 => ⟨fun c4 => bad2 (fun z => c4 z.2.1) _, fun c4 => ⟨fun c5 => bad2 (fun z => z.2.2.1 c5) _, fun c5 => ⟨fun c6 => ⟨fun c7 => ⟨hst, c7, ?_, fun t => ?_⟩, fun c7 => ?_⟩, fun c6 => bad2 (fun z => z.2.2.2 c6) _⟩⟩⟩⟩
      · intro z; rcases z with z | z <;> exact absurd z (by decide)
      · have := h t g0
        rw [if_neg (not_not_intro ⟨c3, c4, c5, c6⟩), if_neg (not_not_intro c7)] at this
        exact this
      · have := h (qMem A s) g0
        rw [if_neg (not_not_intro ⟨c3, c4, c5, c6⟩), if_pos c7] at this
        exact this
    · have := h t0 g0
      rw [if_neg (not_not_intro c), if_pos c2] at this
      exact this
    · have := h t0 g0
      rw [if_pos c] at this
      exact this
  · exact h.elim
def w_X12_actStart_21 (M : CT) (G : Nat → PT) (Rp : RT) : PT := tAload 0 <| tIload 1 <| tConst 0 <| tConst 1 <| tFn 4 F_X12_lays <| tAload 0 <| tIload 1 <| tConst 4 <| tFn 3 F_X12_of <| tIret Rp
def w_X12_actStart_10 (M : CT) (G : Nat → PT) (Rp : RT) : PT := tAload 0 <| tIload 1 <| tFn 2 F_X12_isUp <| tIf (fun x => x = 0) (w_X12_actStart_21 M G Rp) <| tConst (-5) <| tIret Rp
def w_X12_actStart_0 (M : CT) (G : Nat → PT) (Rp : RT) : PT := tIload 1 <| tFn 1 F_X12_isStore <| tIf (fun x => x ≠ 0) (w_X12_actStart_10 M G Rp) <| tConst (-2) <| tIret Rp
set_option maxRecDepth 20000 in
theorem b_X12_actStart_21 {Z : Zt} {d : Nat} {p : Program} {e : Env} {R : Room} {s : State} {m : MethodId} {args : Array Value} {below : List Frame} {meth : Method} {c : Code} {Rp : RT} (C : Cx Z (d + 2) jX12_actStart RX12 p R s m args meth c) : Sd Z jX12_actStart p e R s m args below meth c (MQ below (QcS Z Rp) args s 0 0 (fun a => Z.2.2.1 < a)) 21 (w_X12_actStart_21 (MS Z (d + 2)) (Gw Z 2 p e R s m args below meth c (MQ below (QcS Z Rp) args s 0 0 (fun a => Z.2.2.1 < a))) Rp) := by
  unfold w_X12_actStart_21
  refine s_aload_n (k := 0) C (by decide +kernel) ?_
  refine s_iload_n (k := 1) C (by decide +kernel) ?_
  refine s_iconst (n := 0) C (by decide +kernel) (by decide) ?_
  refine s_iconst (n := 1) C (by decide +kernel) (by decide) ?_
  refine s_fnV C (j2 := jX12_lays) (cl := 12) (nf := 27) rfl rfl (by decide +kernel) rfl w_6_82 w_6_84 w_p3_4 w_1_13 w_6_85 (by decide +kernel) (fun _ _ _ _ _ h => f_X12_lays h) (fun _ _ _ _ _ h => r_X12_lays h) ?_
  refine s_aload_n (k := 0) C (by decide +kernel) ?_
  refine s_iload_n (k := 1) C (by decide +kernel) ?_
  refine s_iconst (n := 4) C (by decide +kernel) (by decide) ?_
  refine s_fnV C (j2 := jX12_of) (cl := 12) (nf := 27) rfl rfl (by decide +kernel) rfl w_6_220 w_6_222 w_p3_11 w_1_13 w_6_223 (by decide +kernel) (fun _ _ _ _ _ h => f_X12_of h) (fun _ _ _ _ _ h => r_X12_of h) ?_
  exact s_iret C rfl (by decide +kernel)
set_option maxRecDepth 20000 in
theorem b_X12_actStart_10 {Z : Zt} {d : Nat} {p : Program} {e : Env} {R : Room} {s : State} {m : MethodId} {args : Array Value} {below : List Frame} {meth : Method} {c : Code} {Rp : RT} (C : Cx Z (d + 2) jX12_actStart RX12 p R s m args meth c) : Sd Z jX12_actStart p e R s m args below meth c (MQ below (QcS Z Rp) args s 0 0 (fun a => Z.2.2.1 < a)) 10 (w_X12_actStart_10 (MS Z (d + 2)) (Gw Z 2 p e R s m args below meth c (MQ below (QcS Z Rp) args s 0 0 (fun a => Z.2.2.1 < a))) Rp) := by
  unfold w_X12_actStart_10
  refine s_aload_n (k := 0) C (by decide +kernel) ?_
  refine s_iload_n (k := 1) C (by decide +kernel) ?_
  refine s_fnV C (j2 := jX12_isUp) (cl := 12) (nf := 27) rfl rfl (by decide +kernel) rfl w_6_232 w_6_234 w_p3_14 w_1_13 w_6_235 (by decide +kernel) (fun _ _ _ _ _ h => f_X12_isUp h) (fun _ _ _ _ _ h => r_X12_isUp h) ?_
  refine s_if_eq (off := 6) (tgt := 21) C (by decide +kernel) (by decide) (b_X12_actStart_21 C) ?_
  refine s_bipush (n := (-5)) C (by decide +kernel) (by decide) ?_
  exact s_iret C rfl (by decide +kernel)
set_option maxRecDepth 20000 in
theorem b_X12_actStart_0 {Z : Zt} {d : Nat} {p : Program} {e : Env} {R : Room} {s : State} {m : MethodId} {args : Array Value} {below : List Frame} {meth : Method} {c : Code} {Rp : RT} (C : Cx Z (d + 2) jX12_actStart RX12 p R s m args meth c) : Sd Z jX12_actStart p e R s m args below meth c (MQ below (QcS Z Rp) args s 0 0 (fun a => Z.2.2.1 < a)) 0 (w_X12_actStart_0 (MS Z (d + 2)) (Gw Z 2 p e R s m args below meth c (MQ below (QcS Z Rp) args s 0 0 (fun a => Z.2.2.1 < a))) Rp) := by
  unfold w_X12_actStart_0
  refine s_iload_n (k := 1) C (by decide +kernel) ?_
  refine s_fnS C (j2 := jX12_isStore) (by decide +kernel) rfl w_6_208 w_6_209 w_1_13 w_6_210 (by decide +kernel) (fun _ _ _ _ _ h => f_X12_isStore h) ?_
  refine s_if_ne (off := 6) (tgt := 10) C (by decide +kernel) (by decide) (b_X12_actStart_10 C) ?_
  refine s_bipush (n := (-2)) C (by decide +kernel) (by decide) ?_
  exact s_iret C rfl (by decide +kernel)
theorem ms_X12_actStart {Z : Zt} {d : Nat} {S : Sh} {μ : Mi} {ρ : Mr} {Rp : RT} (a0 : Nat) (x1 : Int32) (h : ∀ G : Nat → PT, w_X12_actStart_0 (MS Z (d + 2)) G Rp [.ref a0, .int x1] [] S (0, 0) μ ρ) : MS Z (d + 3) jX12_actStart [.ref a0, .int x1] S μ ρ Rp :=
  MS_of [.ref a0, .int x1] (by decide +kernel) rfl rfl (Nat.le_of_ble_eq_true rfl) rfl (fun p e R s m args below meth c C => b_X12_actStart_0 C _ _ _ _ _ _ (h _ ))
def F_X12_actStart : FT := fun As S μ ρ k => match As with
  | [.ref a, .int s] => a = 2737 ∧ RS S ρ ∧ good (μ 2738) ∧ ∀ (t : T4) (g : Rw), k (some (.int (aStart (μ 2738) s).1)) (M4 μ g t (aStart (μ 2738) s).2)
  | _ => False
theorem r_X12_actStart {As S μ ρ k} (h : F_X12_actStart As S μ ρ k) : ∃ a As', As = Value.ref a :: As' ∧ S.2 a = (12, 27) := by
  unfold F_X12_actStart at h
  split at h
  · exact ⟨_, _, rfl, by rw [h.1]; exact h.2.1.1⟩
  · exact h.elim
set_option maxHeartbeats 1000000 in
theorem f_X12_actStart {Z : Zt} {d : Nat} {As : List Value} {S : Sh} {μ : Mi} {ρ : Mr} {Rp : RT} (h : F_X12_actStart As S μ ρ (fun r μ' => Rp r S μ' ρ)) : MS Z (d + 3) jX12_actStart As S μ ρ Rp := by
  unfold F_X12_actStart at h
  split at h
  · rename_i a s
    obtain ⟨rfl, hS, h⟩ := h
    have hS0 := hS
    unfold RS at hS
    obtain ⟨hg, h⟩ := h
    obtain ⟨g0, t0, h0⟩ := M4_self μ
    rw [h0]
    generalize hA : μ 2738 = A at *
    refine ms_X12_actStart _ _ (fun G => ?_)
    unfold aStart at h
    simp only [w_X12_actStart_0, tAload, tIload, nth, tGetI, tGetR, tConst, tLconst, tBin, tUn, tI2l, tAld, tAldR, tAlen, tIast, tBast, tZast, tAast, tIret, tZret, tVret, tAret, tIf, tIf2, tGoto, tIstore, tAstore, sset, tIinc, tDup, tDup2, tPop, tPutI, tPutZ, tPutR, tCallV, tCallS, popN, tFn, tCopy, tMax, tMin, tSw, swc, tRem, tObjI, Option.toList, List.nil_append, List.cons_append, okR, true_and, and_true, true_or, or_true, Nat.zero_le, ne_eq, not_false_eq_true, Nat.reduceEqDiff, F_X12_isStore, b2_z, Decidable.not_not]
    refine ⟨fun c => ?_, fun c => ?_⟩
    · rw [if_neg (not_not_intro c)] at h
      obtain ⟨s, rfl, hs0, -, hs⟩ := rg_ex (lo := 0) (hi := 4) c
      have hrs := rg_T (lo := 0) (hi := 4) (n := s) (by omega) (by omega) hs0
      have hs5 : s < 5 := by omega
      have hst := good_st hg hs5
      rw [nI_clamp hs0] at h
      have i4 : (514 : Int32) * nI s + 4 = nI (514 * s + 4) := ixs 4 4 rfl
      have b4 : inb (nI (514 * s + 4)) 13548 := inb_nI (by omega) (by decide)
      have i0 : (514 : Int32) * nI s + 0 = nI (514 * s) := ixs 0 0 rfl
      have b0 : inb (nI (514 * s)) 13548 := inb_nI (by omega) (by decide)
      simp only [w_X12_actStart_10, w_X12_actStart_21, tAload, tIload, nth, tGetI, tGetR, tConst, tLconst, tBin, tUn, tI2l, tAld, tAldR, tAlen, tIast, tBast, tZast, tAast, tIret, tZret, tVret, tAret, tIf, tIf2, tGoto, tIstore, tAstore, sset, tIinc, tDup, tDup2, tPop, tPutI, tPutZ, tPutR, tCallV, tCallS, popN, tFn, tCopy, tMax, tMin, tSw, swc, tRem, tObjI, Option.toList, List.nil_append, List.cons_append, okR, true_and, and_true, true_or, or_true, Nat.zero_le, ne_eq, not_false_eq_true, Nat.reduceEqDiff, F_X12_isUp, F_X12_of, F_X12_lays, hS0, hrs, b2_z, Decidable.not_not, M4_row, M4_upF, i0, b0, i4, b4]
      simp (disch := omega) only [nI_clamp]
      refine ⟨fun c2 => ?_, fun c2 => ?_⟩
      · have := h t0 g0
        rw [if_neg c2] at this
        rw [up_ne (by omega)]
        exact this
      · have := h t0 g0
        rw [if_pos c2] at this
        exact this
    · have := h t0 g0
      rw [if_pos c] at this
      exact this
  · exact h.elim
def w_X12_actLink_107 (M : CT) (G : Nat → PT) (Rp : RT) : PT := tIret Rp
def w_X12_actLink_106 (M : CT) (G : Nat → PT) (Rp : RT) : PT := tConst 1 <| w_X12_actLink_107 M G Rp
def w_X12_actLink_88 (M : CT) (G : Nat → PT) (Rp : RT) : PT := tIast <| tIload 4 <| tAload 0 <| tGetR 12 27 1 <| tConst 4513 <| tAld 20 <| tIf2 (fun x y => x ≠ y) (w_X12_actLink_106 M G Rp) <| tConst 0 <| tGoto (w_X12_actLink_107 M G Rp)
def w_X12_actLink_83 (M : CT) (G : Nat → PT) (Rp : RT) : PT := tIload 4 <| tIload 5 <| tBin (fun x y => x ||| y) <| w_X12_actLink_88 M G Rp
def w_X12_actLink_35 (M : CT) (G : Nat → PT) (Rp : RT) : PT := tAload 0 <| tGetR 12 27 1 <| tConst 4513 <| tAld 20 <| tIstore 4 <| tConst 1 <| tConst 5 <| tIload 1 <| tBin (fun x y => x * y) <| tIload 2 <| tBin (fun x y => x + y) <| tBin (fun x y => x <<< (y &&& 31)) <| tConst 1 <| tConst 5 <| tIload 2 <| tBin (fun x y => x * y) <| tIload 1 <| tBin (fun x y => x + y) <| tBin (fun x y => x <<< (y &&& 31)) <| tBin (fun x y => x ||| y) <| tIstore 5 <| tAload 0 <| tGetR 12 27 1 <| tConst 4513 <| tIload 3 <| tIf (fun x => x ≠ 0) (w_X12_actLink_83 M G Rp) <| tIload 4 <| tIload 5 <| tConst (-1) <| tBin (fun x y => x ^^^ y) <| tBin (fun x y => x &&& y) <| tGoto (w_X12_actLink_88 M G Rp)
def w_X12_actLink_32 (M : CT) (G : Nat → PT) (Rp : RT) : PT := tConst (-3) <| tIret Rp
def w_X12_actLink_17 (M : CT) (G : Nat → PT) (Rp : RT) : PT := tIload 3 <| tI2l <| tLconst 0 <| tLconst 1 <| tFn 3 F_X12_within <| tIf (fun x => x = 0) (w_X12_actLink_32 M G Rp) <| tIload 1 <| tIload 2 <| tIf2 (fun x y => x ≠ y) (w_X12_actLink_35 M G Rp) <| w_X12_actLink_32 M G Rp
def w_X12_actLink_14 (M : CT) (G : Nat → PT) (Rp : RT) : PT := tConst (-2) <| tIret Rp
def w_X12_actLink_0 (M : CT) (G : Nat → PT) (Rp : RT) : PT := tIload 1 <| tFn 1 F_X12_isStore <| tIf (fun x => x = 0) (w_X12_actLink_14 M G Rp) <| tIload 2 <| tFn 1 F_X12_isStore <| tIf (fun x => x ≠ 0) (w_X12_actLink_17 M G Rp) <| w_X12_actLink_14 M G Rp
set_option maxRecDepth 20000 in
theorem b_X12_actLink_107 {Z : Zt} {d : Nat} {p : Program} {e : Env} {R : Room} {s : State} {m : MethodId} {args : Array Value} {below : List Frame} {meth : Method} {c : Code} {Rp : RT} (C : Cx Z (d + 2) jX12_actLink RX12 p R s m args meth c) : Sd Z jX12_actLink p e R s m args below meth c (MQ below (QcS Z Rp) args s 0 0 (fun a => Z.2.2.1 < a)) 107 (w_X12_actLink_107 (MS Z (d + 2)) (Gw Z 6 p e R s m args below meth c (MQ below (QcS Z Rp) args s 0 0 (fun a => Z.2.2.1 < a))) Rp) := by
  unfold w_X12_actLink_107
  exact s_iret C rfl (by decide +kernel)
set_option maxRecDepth 20000 in
theorem b_X12_actLink_106 {Z : Zt} {d : Nat} {p : Program} {e : Env} {R : Room} {s : State} {m : MethodId} {args : Array Value} {below : List Frame} {meth : Method} {c : Code} {Rp : RT} (C : Cx Z (d + 2) jX12_actLink RX12 p R s m args meth c) : Sd Z jX12_actLink p e R s m args below meth c (MQ below (QcS Z Rp) args s 0 0 (fun a => Z.2.2.1 < a)) 106 (w_X12_actLink_106 (MS Z (d + 2)) (Gw Z 6 p e R s m args below meth c (MQ below (QcS Z Rp) args s 0 0 (fun a => Z.2.2.1 < a))) Rp) := by
  unfold w_X12_actLink_106
  refine s_iconst (n := 1) C (by decide +kernel) (by decide) ?_
  exact (b_X12_actLink_107 C)
set_option maxRecDepth 20000 in
theorem b_X12_actLink_88 {Z : Zt} {d : Nat} {p : Program} {e : Env} {R : Room} {s : State} {m : MethodId} {args : Array Value} {below : List Frame} {meth : Method} {c : Code} {Rp : RT} (C : Cx Z (d + 2) jX12_actLink RX12 p R s m args meth c) : Sd Z jX12_actLink p e R s m args below meth c (MQ below (QcS Z Rp) args s 0 0 (fun a => Z.2.2.1 < a)) 88 (w_X12_actLink_88 (MS Z (d + 2)) (Gw Z 6 p e R s m args below meth c (MQ below (QcS Z Rp) args s 0 0 (fun a => Z.2.2.1 < a))) Rp) := by
  unfold w_X12_actLink_88
  refine s_iast C (by decide +kernel) ?_
  refine s_iload (k := 4) C (by decide +kernel) ?_
  refine s_aload_n (k := 0) C (by decide +kernel) ?_
  refine s_getR C w_6_88 (by decide +kernel) rfl ?_
  refine s_sipush (n := 4513) C (by decide +kernel) (by decide) ?_
  refine s_iald C (by decide +kernel) ?_
  refine s_icmp_ne (off := 7) (tgt := 106) C (by decide +kernel) (by decide) (b_X12_actLink_106 C) ?_
  refine s_iconst (n := 0) C (by decide +kernel) (by decide) ?_
  exact s_goto (off := 4) (tgt := 107) C (by decide +kernel) (by decide) (b_X12_actLink_107 C)
set_option maxRecDepth 20000 in
theorem b_X12_actLink_83 {Z : Zt} {d : Nat} {p : Program} {e : Env} {R : Room} {s : State} {m : MethodId} {args : Array Value} {below : List Frame} {meth : Method} {c : Code} {Rp : RT} (C : Cx Z (d + 2) jX12_actLink RX12 p R s m args meth c) : Sd Z jX12_actLink p e R s m args below meth c (MQ below (QcS Z Rp) args s 0 0 (fun a => Z.2.2.1 < a)) 83 (w_X12_actLink_83 (MS Z (d + 2)) (Gw Z 6 p e R s m args below meth c (MQ below (QcS Z Rp) args s 0 0 (fun a => Z.2.2.1 < a))) Rp) := by
  unfold w_X12_actLink_83
  refine s_iload (k := 4) C (by decide +kernel) ?_
  refine s_iload (k := 5) C (by decide +kernel) ?_
  refine s_ior C (by decide +kernel) ?_
  exact (b_X12_actLink_88 C)
set_option maxRecDepth 20000 in
theorem b_X12_actLink_35 {Z : Zt} {d : Nat} {p : Program} {e : Env} {R : Room} {s : State} {m : MethodId} {args : Array Value} {below : List Frame} {meth : Method} {c : Code} {Rp : RT} (C : Cx Z (d + 2) jX12_actLink RX12 p R s m args meth c) : Sd Z jX12_actLink p e R s m args below meth c (MQ below (QcS Z Rp) args s 0 0 (fun a => Z.2.2.1 < a)) 35 (w_X12_actLink_35 (MS Z (d + 2)) (Gw Z 6 p e R s m args below meth c (MQ below (QcS Z Rp) args s 0 0 (fun a => Z.2.2.1 < a))) Rp) := by
  unfold w_X12_actLink_35
  refine s_aload_n (k := 0) C (by decide +kernel) ?_
  refine s_getR C w_6_88 (by decide +kernel) rfl ?_
  refine s_sipush (n := 4513) C (by decide +kernel) (by decide) ?_
  refine s_iald C (by decide +kernel) ?_
  refine s_istore (k := 4) C (by decide +kernel) ?_
  refine s_iconst (n := 1) C (by decide +kernel) (by decide) ?_
  refine s_iconst (n := 5) C (by decide +kernel) (by decide) ?_
  refine s_iload_n (k := 1) C (by decide +kernel) ?_
  refine s_imul C (by decide +kernel) ?_
  refine s_iload_n (k := 2) C (by decide +kernel) ?_
  refine s_iadd C (by decide +kernel) ?_
  refine s_ishl C (by decide +kernel) ?_
  refine s_iconst (n := 1) C (by decide +kernel) (by decide) ?_
  refine s_iconst (n := 5) C (by decide +kernel) (by decide) ?_
  refine s_iload_n (k := 2) C (by decide +kernel) ?_
  refine s_imul C (by decide +kernel) ?_
  refine s_iload_n (k := 1) C (by decide +kernel) ?_
  refine s_iadd C (by decide +kernel) ?_
  refine s_ishl C (by decide +kernel) ?_
  refine s_ior C (by decide +kernel) ?_
  refine s_istore (k := 5) C (by decide +kernel) ?_
  refine s_aload_n (k := 0) C (by decide +kernel) ?_
  refine s_getR C w_6_88 (by decide +kernel) rfl ?_
  refine s_sipush (n := 4513) C (by decide +kernel) (by decide) ?_
  refine s_iload_n (k := 3) C (by decide +kernel) ?_
  refine s_if_ne (off := 13) (tgt := 83) C (by decide +kernel) (by decide) (b_X12_actLink_83 C) ?_
  refine s_iload (k := 4) C (by decide +kernel) ?_
  refine s_iload (k := 5) C (by decide +kernel) ?_
  refine s_iconst (n := (-1)) C (by decide +kernel) (by decide) ?_
  refine s_ixor C (by decide +kernel) ?_
  refine s_iand C (by decide +kernel) ?_
  exact s_goto (off := 8) (tgt := 88) C (by decide +kernel) (by decide) (b_X12_actLink_88 C)
set_option maxRecDepth 20000 in
theorem b_X12_actLink_32 {Z : Zt} {d : Nat} {p : Program} {e : Env} {R : Room} {s : State} {m : MethodId} {args : Array Value} {below : List Frame} {meth : Method} {c : Code} {Rp : RT} (C : Cx Z (d + 2) jX12_actLink RX12 p R s m args meth c) : Sd Z jX12_actLink p e R s m args below meth c (MQ below (QcS Z Rp) args s 0 0 (fun a => Z.2.2.1 < a)) 32 (w_X12_actLink_32 (MS Z (d + 2)) (Gw Z 6 p e R s m args below meth c (MQ below (QcS Z Rp) args s 0 0 (fun a => Z.2.2.1 < a))) Rp) := by
  unfold w_X12_actLink_32
  refine s_bipush (n := (-3)) C (by decide +kernel) (by decide) ?_
  exact s_iret C rfl (by decide +kernel)
set_option maxRecDepth 20000 in
theorem b_X12_actLink_17 {Z : Zt} {d : Nat} {p : Program} {e : Env} {R : Room} {s : State} {m : MethodId} {args : Array Value} {below : List Frame} {meth : Method} {c : Code} {Rp : RT} (C : Cx Z (d + 2) jX12_actLink RX12 p R s m args meth c) : Sd Z jX12_actLink p e R s m args below meth c (MQ below (QcS Z Rp) args s 0 0 (fun a => Z.2.2.1 < a)) 17 (w_X12_actLink_17 (MS Z (d + 2)) (Gw Z 6 p e R s m args below meth c (MQ below (QcS Z Rp) args s 0 0 (fun a => Z.2.2.1 < a))) Rp) := by
  unfold w_X12_actLink_17
  refine s_iload_n (k := 3) C (by decide +kernel) ?_
  refine s_i2l C (by decide +kernel) ?_
  refine s_lconst (n := 0) C (by decide +kernel) (by decide) ?_
  refine s_lconst (n := 1) C (by decide +kernel) (by decide) ?_
  refine s_fnS C (j2 := jX12_within) (by decide +kernel) rfl w_6_175 w_6_176 w_1_13 w_6_177 (by decide +kernel) (fun _ _ _ _ _ h => f_X12_within h) ?_
  refine s_if_eq (off := 8) (tgt := 32) C (by decide +kernel) (by decide) (b_X12_actLink_32 C) ?_
  refine s_iload_n (k := 1) C (by decide +kernel) ?_
  refine s_iload_n (k := 2) C (by decide +kernel) ?_
  refine s_icmp_ne (off := 6) (tgt := 35) C (by decide +kernel) (by decide) (b_X12_actLink_35 C) ?_
  exact (b_X12_actLink_32 C)
set_option maxRecDepth 20000 in
theorem b_X12_actLink_14 {Z : Zt} {d : Nat} {p : Program} {e : Env} {R : Room} {s : State} {m : MethodId} {args : Array Value} {below : List Frame} {meth : Method} {c : Code} {Rp : RT} (C : Cx Z (d + 2) jX12_actLink RX12 p R s m args meth c) : Sd Z jX12_actLink p e R s m args below meth c (MQ below (QcS Z Rp) args s 0 0 (fun a => Z.2.2.1 < a)) 14 (w_X12_actLink_14 (MS Z (d + 2)) (Gw Z 6 p e R s m args below meth c (MQ below (QcS Z Rp) args s 0 0 (fun a => Z.2.2.1 < a))) Rp) := by
  unfold w_X12_actLink_14
  refine s_bipush (n := (-2)) C (by decide +kernel) (by decide) ?_
  exact s_iret C rfl (by decide +kernel)
set_option maxRecDepth 20000 in
theorem b_X12_actLink_0 {Z : Zt} {d : Nat} {p : Program} {e : Env} {R : Room} {s : State} {m : MethodId} {args : Array Value} {below : List Frame} {meth : Method} {c : Code} {Rp : RT} (C : Cx Z (d + 2) jX12_actLink RX12 p R s m args meth c) : Sd Z jX12_actLink p e R s m args below meth c (MQ below (QcS Z Rp) args s 0 0 (fun a => Z.2.2.1 < a)) 0 (w_X12_actLink_0 (MS Z (d + 2)) (Gw Z 6 p e R s m args below meth c (MQ below (QcS Z Rp) args s 0 0 (fun a => Z.2.2.1 < a))) Rp) := by
  unfold w_X12_actLink_0
  refine s_iload_n (k := 1) C (by decide +kernel) ?_
  refine s_fnS C (j2 := jX12_isStore) (by decide +kernel) rfl w_6_208 w_6_209 w_1_13 w_6_210 (by decide +kernel) (fun _ _ _ _ _ h => f_X12_isStore h) ?_
  refine s_if_eq (off := 10) (tgt := 14) C (by decide +kernel) (by decide) (b_X12_actLink_14 C) ?_
  refine s_iload_n (k := 2) C (by decide +kernel) ?_
  refine s_fnS C (j2 := jX12_isStore) (by decide +kernel) rfl w_6_208 w_6_209 w_1_13 w_6_210 (by decide +kernel) (fun _ _ _ _ _ h => f_X12_isStore h) ?_
  refine s_if_ne (off := 6) (tgt := 17) C (by decide +kernel) (by decide) (b_X12_actLink_17 C) ?_
  exact (b_X12_actLink_14 C)
theorem ms_X12_actLink {Z : Zt} {d : Nat} {S : Sh} {μ : Mi} {ρ : Mr} {Rp : RT} (a0 : Nat) (x1 : Int32) (x2 : Int32) (x3 : Int32) (h : ∀ G : Nat → PT, w_X12_actLink_0 (MS Z (d + 2)) G Rp [.ref a0, .int x1, .int x2, .int x3, .null, .null] [] S (0, 0) μ ρ) : MS Z (d + 3) jX12_actLink [.ref a0, .int x1, .int x2, .int x3] S μ ρ Rp :=
  MS_of [.ref a0, .int x1, .int x2, .int x3, .null, .null] (by decide +kernel) rfl rfl (Nat.le_of_ble_eq_true rfl) rfl (fun p e R s m args below meth c C => b_X12_actLink_0 C _ _ _ _ _ _ (h _ ))
def F_X12_actLink : FT := fun As S μ ρ k => match As with
  | [.ref a, .int s, .int x, .int y] => a = 2737 ∧ RS S ρ ∧ good (μ 2738) ∧ ∀ (t : T4) (g : Rw), k (some (.int (aLink (μ 2738) s x y).1)) (M4 μ g t (aLink (μ 2738) s x y).2)
  | _ => False
theorem r_X12_actLink {As S μ ρ k} (h : F_X12_actLink As S μ ρ k) : ∃ a As', As = Value.ref a :: As' ∧ S.2 a = (12, 27) := by
  unfold F_X12_actLink at h
  split at h
  · exact ⟨_, _, rfl, by rw [h.1]; exact h.2.1.1⟩
  · exact h.elim
set_option maxHeartbeats 1000000 in
theorem f_X12_actLink {Z : Zt} {d : Nat} {As : List Value} {S : Sh} {μ : Mi} {ρ : Mr} {Rp : RT} (h : F_X12_actLink As S μ ρ (fun r μ' => Rp r S μ' ρ)) : MS Z (d + 3) jX12_actLink As S μ ρ Rp := by
  unfold F_X12_actLink at h
  split at h
  · rename_i a s x y
    obtain ⟨rfl, hS, h⟩ := h
    have hS0 := hS
    unfold RS at hS
    obtain ⟨hg, h⟩ := h
    obtain ⟨g0, t0, h0⟩ := M4_self μ
    rw [h0]
    generalize hA : μ 2738 = A at *
    refine ms_X12_actLink _ _ _ _ (fun G => ?_)
    unfold aLink at h
    have i13 : inb 4513 13548 := inb_nI (k := 4513) (by decide) (by decide)
    simp only [w_X12_actLink_0, w_X12_actLink_14, tAload, tIload, nth, tGetI, tGetR, tConst, tLconst, tBin, tUn, tI2l, tAld, tAldR, tAlen, tIast, tBast, tZast, tAast, tIret, tZret, tVret, tAret, tIf, tIf2, tGoto, tIstore, tAstore, sset, tIinc, tDup, tDup2, tPop, tPutI, tPutZ, tPutR, tCallV, tCallS, popN, tFn, tCopy, tMax, tMin, tSw, swc, tRem, tObjI, Option.toList, List.nil_append, List.cons_append, okR, true_and, and_true, true_or, or_true, Nat.zero_le, ne_eq, not_false_eq_true, Nat.reduceEqDiff, F_X12_isStore, b2_z, Decidable.not_not]
    have bad : ¬ (rgd s 0 4 ∧ rgd x 0 4) → Rp (some (.int (-2))) S (M4 μ g0 t0 A) ρ := by
      intro c
      have := h t0 g0
      rw [if_pos c] at this
      exact this
    refine ⟨fun c => bad (fun z => c z.1), fun c => ⟨fun c2 => ?_, fun c2 => bad (fun z => c2 z.2)⟩⟩
    rw [if_neg (not_not_intro ⟨c, c2⟩)] at h
    have bad2 : ¬ (rgd y 0 1 ∧ s ≠ x) → Rp (some (.int (-3))) S (M4 μ g0 t0 A) ρ := by
      intro c
      have := h t0 g0
      rw [if_pos c] at this
      exact this
    simp only [w_X12_actLink_17, w_X12_actLink_32, tAload, tIload, nth, tGetI, tGetR, tConst, tLconst, tBin, tUn, tI2l, tAld, tAldR, tAlen, tIast, tBast, tZast, tAast, tIret, tZret, tVret, tAret, tIf, tIf2, tGoto, tIstore, tAstore, sset, tIinc, tDup, tDup2, tPop, tPutI, tPutZ, tPutR, tCallV, tCallS, popN, tFn, tCopy, tMax, tMin, tSw, swc, tRem, tObjI, Option.toList, List.nil_append, List.cons_append, okR, true_and, and_true, true_or, or_true, Nat.zero_le, ne_eq, not_false_eq_true, Nat.reduceEqDiff, F_X12_within, b2_z, Decidable.not_not, l_leC, l_geC, il_0, il_1]
    refine ⟨fun c3 => bad2 (fun z => c3 z.1), fun c3 => ⟨fun c4 => ?_, fun c4 => bad2 (fun z => z.2 c4)⟩⟩
    rw [if_neg (not_not_intro ⟨c3, c4⟩)] at h
    have h5 := h t0 g0
    have e1 : (1 : Int32) <<< ((5 * s + x) &&& 31) ||| (1 : Int32) <<< ((5 * x + s) &&& 31) = lnk s x := rfl
    simp only [w_X12_actLink_35, w_X12_actLink_83, w_X12_actLink_88, w_X12_actLink_106, w_X12_actLink_107, tAload, tIload, nth, tGetI, tGetR, tConst, tLconst, tBin, tUn, tI2l, tAld, tAldR, tAlen, tIast, tBast, tZast, tAast, tIret, tZret, tVret, tAret, tIf, tIf2, tGoto, tIstore, tAstore, sset, tIinc, tDup, tDup2, tPop, tPutI, tPutZ, tPutR, tCallV, tCallS, popN, tFn, tCopy, tMax, tMin, tSw, swc, tRem, tObjI, Option.toList, List.nil_append, List.cons_append, okR, true_and, and_true, true_or, or_true, Nat.zero_le, ne_eq, not_false_eq_true, Nat.reduceEqDiff, hS, M4_row, M4_upF, upI_upF, i13, cl_4513, e1, up_at, Decidable.not_not]
    unfold qLink at h5
    refine ⟨fun c5 => ⟨fun c6 => ?_, fun c6 => ?_⟩, fun c5 => ⟨fun c6 => ?_, fun c6 => ?_⟩⟩
    · simp only [if_neg c5, up_at, if_neg c6] at h5
      exact h5
    · simp only [if_neg c5, up_at, if_pos c6] at h5
      exact h5
    · simp only [if_pos c5, up_at, if_neg c6] at h5
      exact h5
    · simp only [if_pos c5, up_at, if_pos c6] at h5
      exact h5
  · exact h.elim
theorem msg_ex {A : Rw} {i : Int32} (hw : rg (A 4510) 0 60) (h : isMsg A i) : ∃ n : Nat, i = nI n ∧ n < 2 ^ 31 ∧ n < 60 ∧ n < (A 4510).toNatClampNeg ∧ (nI n).toInt < (A 4510).toInt := by
  obtain ⟨w, ew, ew0, -, ew1⟩ := rg_ex hw
  have h2 := h.2
  rw [ew, nI_toInt ew0] at h2
  obtain ⟨n, rfl, hn0, -, hn1⟩ := rg_ex (x := i) (lo := 0) (hi := 59) ⟨h.1, by omega⟩
  rw [nI_toInt hn0] at h2
  refine ⟨n, rfl, hn0, by omega, by rw [ew, nI_clamp ew0]; omega, by rw [ew, nI_toInt hn0, nI_toInt ew0]; exact h2⟩
def w_X12_actCome_18 (M : CT) (G : Nat → PT) (Rp : RT) : PT := tIret Rp
def w_X12_actCome_16 (M : CT) (G : Nat → PT) (Rp : RT) : PT := tConst (-2) <| w_X12_actCome_18 M G Rp
def w_X12_actCome_0 (M : CT) (G : Nat → PT) (Rp : RT) : PT := tAload 0 <| tIload 1 <| tFn 2 F_X12_isMessage <| tIf (fun x => x = 0) (w_X12_actCome_16 M G Rp) <| tAload 0 <| tIload 1 <| tFn 2 F_X12_comes <| tGoto (w_X12_actCome_18 M G Rp)
set_option maxRecDepth 20000 in
theorem b_X12_actCome_18 {Z : Zt} {d : Nat} {p : Program} {e : Env} {R : Room} {s : State} {m : MethodId} {args : Array Value} {below : List Frame} {meth : Method} {c : Code} {Rp : RT} (C : Cx Z (d + 11) jX12_actCome RX12 p R s m args meth c) : Sd Z jX12_actCome p e R s m args below meth c (MQ below (QcS Z Rp) args s 0 0 (fun a => Z.2.2.1 < a)) 18 (w_X12_actCome_18 (MS Z (d + 11)) (Gw Z 2 p e R s m args below meth c (MQ below (QcS Z Rp) args s 0 0 (fun a => Z.2.2.1 < a))) Rp) := by
  unfold w_X12_actCome_18
  exact s_iret C rfl (by decide +kernel)
set_option maxRecDepth 20000 in
theorem b_X12_actCome_16 {Z : Zt} {d : Nat} {p : Program} {e : Env} {R : Room} {s : State} {m : MethodId} {args : Array Value} {below : List Frame} {meth : Method} {c : Code} {Rp : RT} (C : Cx Z (d + 11) jX12_actCome RX12 p R s m args meth c) : Sd Z jX12_actCome p e R s m args below meth c (MQ below (QcS Z Rp) args s 0 0 (fun a => Z.2.2.1 < a)) 16 (w_X12_actCome_16 (MS Z (d + 11)) (Gw Z 2 p e R s m args below meth c (MQ below (QcS Z Rp) args s 0 0 (fun a => Z.2.2.1 < a))) Rp) := by
  unfold w_X12_actCome_16
  refine s_bipush (n := (-2)) C (by decide +kernel) (by decide) ?_
  exact (b_X12_actCome_18 C)
set_option maxRecDepth 20000 in
theorem b_X12_actCome_0 {Z : Zt} {d : Nat} {p : Program} {e : Env} {R : Room} {s : State} {m : MethodId} {args : Array Value} {below : List Frame} {meth : Method} {c : Code} {Rp : RT} (C : Cx Z (d + 11) jX12_actCome RX12 p R s m args meth c) : Sd Z jX12_actCome p e R s m args below meth c (MQ below (QcS Z Rp) args s 0 0 (fun a => Z.2.2.1 < a)) 0 (w_X12_actCome_0 (MS Z (d + 11)) (Gw Z 2 p e R s m args below meth c (MQ below (QcS Z Rp) args s 0 0 (fun a => Z.2.2.1 < a))) Rp) := by
  unfold w_X12_actCome_0
  refine s_aload_n (k := 0) C (by decide +kernel) ?_
  refine s_iload_n (k := 1) C (by decide +kernel) ?_
  refine s_fnV C (j2 := jX12_isMessage) (cl := 12) (nf := 27) rfl rfl (by decide +kernel) rfl w_7_168 w_7_170 w_p5_12 w_1_13 w_7_171 (by decide +kernel) (fun _ _ _ _ _ h => f_X12_isMessage h) (fun _ _ _ _ _ h => r_X12_isMessage h) ?_
  refine s_if_eq (off := 11) (tgt := 16) C (by decide +kernel) (by decide) (b_X12_actCome_16 C) ?_
  refine s_aload_n (k := 0) C (by decide +kernel) ?_
  refine s_iload_n (k := 1) C (by decide +kernel) ?_
  refine s_fnV C (j2 := jX12_comes) (cl := 12) (nf := 27) rfl rfl (by decide +kernel) rfl w_7_172 w_7_174 w_p5_13 w_1_13 w_7_175 (by decide +kernel) (fun _ _ _ _ _ h => f_X12_comes h) (fun _ _ _ _ _ h => r_X12_comes h) ?_
  exact s_goto (off := 5) (tgt := 18) C (by decide +kernel) (by decide) (b_X12_actCome_18 C)
theorem ms_X12_actCome {Z : Zt} {d : Nat} {S : Sh} {μ : Mi} {ρ : Mr} {Rp : RT} (a0 : Nat) (x1 : Int32) (h : ∀ G : Nat → PT, w_X12_actCome_0 (MS Z (d + 11)) G Rp [.ref a0, .int x1] [] S (0, 0) μ ρ) : MS Z (d + 12) jX12_actCome [.ref a0, .int x1] S μ ρ Rp :=
  MS_of [.ref a0, .int x1] (by decide +kernel) rfl rfl (Nat.le_of_ble_eq_true rfl) rfl (fun p e R s m args below meth c C => b_X12_actCome_0 C _ _ _ _ _ _ (h _ ))
def F_X12_actCome : FT := fun As S μ ρ k => match As with
  | [.ref a, .int i] => a = 2737 ∧ RS S ρ ∧ good (μ 2738) ∧ ∀ (t : T4) (g : Rw), k (some (.int (aCome (μ 2738) i).1)) (M4 μ g t (aCome (μ 2738) i).2)
  | _ => False
theorem r_X12_actCome {As S μ ρ k} (h : F_X12_actCome As S μ ρ k) : ∃ a As', As = Value.ref a :: As' ∧ S.2 a = (12, 27) := by
  unfold F_X12_actCome at h
  split at h
  · exact ⟨_, _, rfl, by rw [h.1]; exact h.2.1.1⟩
  · exact h.elim
set_option maxHeartbeats 1000000 in
theorem f_X12_actCome {Z : Zt} {d : Nat} {As : List Value} {S : Sh} {μ : Mi} {ρ : Mr} {Rp : RT} (h : F_X12_actCome As S μ ρ (fun r μ' => Rp r S μ' ρ)) : MS Z (d + 12) jX12_actCome As S μ ρ Rp := by
  unfold F_X12_actCome at h
  split at h
  · rename_i a i
    obtain ⟨rfl, hS, h⟩ := h
    have hS0 := hS
    unfold RS at hS
    obtain ⟨hg, h⟩ := h
    obtain ⟨g0, t0, h0⟩ := M4_self μ
    rw [h0]
    generalize hA : μ 2738 = A at *
    have hw := good_w hg
    refine ms_X12_actCome _ _ (fun G => ?_)
    unfold aCome at h
    simp only [w_X12_actCome_0, w_X12_actCome_16, w_X12_actCome_18, tAload, tIload, nth, tGetI, tGetR, tConst, tLconst, tBin, tUn, tI2l, tAld, tAldR, tAlen, tIast, tBast, tZast, tAast, tIret, tZret, tVret, tAret, tIf, tIf2, tGoto, tIstore, tAstore, sset, tIinc, tDup, tDup2, tPop, tPutI, tPutZ, tPutR, tCallV, tCallS, popN, tFn, tCopy, tMax, tMin, tSw, swc, tRem, tObjI, Option.toList, List.nil_append, List.cons_append, okR, true_and, and_true, true_or, or_true, Nat.zero_le, ne_eq, not_false_eq_true, Nat.reduceEqDiff, F_X12_isMessage, F_X12_comes, hS0, M4_row, M4_m, M4_g, M4_M3, b2_z, Decidable.not_not]
    refine ⟨hw, fun c => ?_, fun c => ?_⟩
    · have := h t0 g0
      rw [if_pos c] at this
      exact this
    · obtain ⟨n, rfl, n0, n1, n2, n3⟩ := msg_ex hw c
      refine ⟨by rw [rg_nI n0]; omega, n3, good_cm hg, fun t => ?_⟩
      have := h t (cpF A g0 (2570 + 21 * (nI n).toNatClampNeg) 0 21)
      rw [if_neg (not_not_intro c)] at this
      exact this
  · exact h.elim
def w_X12_actLose_11 (M : CT) (G : Nat → PT) (Rp : RT) : PT := tAload 0 <| tIload 1 <| tFn 2 F_X12_goesOut <| tAload 0 <| tGetR 12 27 1 <| tConst 4511 <| tDup2 <| tAld 20 <| tConst 1 <| tBin (fun x y => x + y) <| tIast <| tAload 0 <| tGetR 12 27 1 <| tConst 4510 <| tAld 20 <| tIret Rp
def w_X12_actLose_0 (M : CT) (G : Nat → PT) (Rp : RT) : PT := tAload 0 <| tIload 1 <| tFn 2 F_X12_isMessage <| tIf (fun x => x ≠ 0) (w_X12_actLose_11 M G Rp) <| tConst (-2) <| tIret Rp
set_option maxRecDepth 20000 in
theorem b_X12_actLose_11 {Z : Zt} {d : Nat} {p : Program} {e : Env} {R : Room} {s : State} {m : MethodId} {args : Array Value} {below : List Frame} {meth : Method} {c : Code} {Rp : RT} (C : Cx Z (d + 2) jX12_actLose RX12 p R s m args meth c) : Sd Z jX12_actLose p e R s m args below meth c (MQ below (QcS Z Rp) args s 0 0 (fun a => Z.2.2.1 < a)) 11 (w_X12_actLose_11 (MS Z (d + 2)) (Gw Z 2 p e R s m args below meth c (MQ below (QcS Z Rp) args s 0 0 (fun a => Z.2.2.1 < a))) Rp) := by
  unfold w_X12_actLose_11
  refine s_aload_n (k := 0) C (by decide +kernel) ?_
  refine s_iload_n (k := 1) C (by decide +kernel) ?_
  refine s_fnV C (j2 := jX12_goesOut) (cl := 12) (nf := 27) rfl rfl (by decide +kernel) rfl w_7_176 w_7_178 w_p5_14 w_1_13 w_7_179 (by decide +kernel) (fun _ _ _ _ _ h => f_X12_goesOut h) (fun _ _ _ _ _ h => r_X12_goesOut h) ?_
  refine s_aload_n (k := 0) C (by decide +kernel) ?_
  refine s_getR C w_6_88 (by decide +kernel) rfl ?_
  refine s_sipush (n := 4511) C (by decide +kernel) (by decide) ?_
  refine s_dup2 C (by decide +kernel) ?_
  refine s_iald C (by decide +kernel) ?_
  refine s_iconst (n := 1) C (by decide +kernel) (by decide) ?_
  refine s_iadd C (by decide +kernel) ?_
  refine s_iast C (by decide +kernel) ?_
  refine s_aload_n (k := 0) C (by decide +kernel) ?_
  refine s_getR C w_6_88 (by decide +kernel) rfl ?_
  refine s_sipush (n := 4510) C (by decide +kernel) (by decide) ?_
  refine s_iald C (by decide +kernel) ?_
  exact s_iret C rfl (by decide +kernel)
set_option maxRecDepth 20000 in
theorem b_X12_actLose_0 {Z : Zt} {d : Nat} {p : Program} {e : Env} {R : Room} {s : State} {m : MethodId} {args : Array Value} {below : List Frame} {meth : Method} {c : Code} {Rp : RT} (C : Cx Z (d + 2) jX12_actLose RX12 p R s m args meth c) : Sd Z jX12_actLose p e R s m args below meth c (MQ below (QcS Z Rp) args s 0 0 (fun a => Z.2.2.1 < a)) 0 (w_X12_actLose_0 (MS Z (d + 2)) (Gw Z 2 p e R s m args below meth c (MQ below (QcS Z Rp) args s 0 0 (fun a => Z.2.2.1 < a))) Rp) := by
  unfold w_X12_actLose_0
  refine s_aload_n (k := 0) C (by decide +kernel) ?_
  refine s_iload_n (k := 1) C (by decide +kernel) ?_
  refine s_fnV C (j2 := jX12_isMessage) (cl := 12) (nf := 27) rfl rfl (by decide +kernel) rfl w_7_168 w_7_170 w_p5_12 w_1_13 w_7_171 (by decide +kernel) (fun _ _ _ _ _ h => f_X12_isMessage h) (fun _ _ _ _ _ h => r_X12_isMessage h) ?_
  refine s_if_ne (off := 6) (tgt := 11) C (by decide +kernel) (by decide) (b_X12_actLose_11 C) ?_
  refine s_bipush (n := (-2)) C (by decide +kernel) (by decide) ?_
  exact s_iret C rfl (by decide +kernel)
theorem ms_X12_actLose {Z : Zt} {d : Nat} {S : Sh} {μ : Mi} {ρ : Mr} {Rp : RT} (a0 : Nat) (x1 : Int32) (h : ∀ G : Nat → PT, w_X12_actLose_0 (MS Z (d + 2)) G Rp [.ref a0, .int x1] [] S (0, 0) μ ρ) : MS Z (d + 3) jX12_actLose [.ref a0, .int x1] S μ ρ Rp :=
  MS_of [.ref a0, .int x1] (by decide +kernel) rfl rfl (Nat.le_of_ble_eq_true rfl) rfl (fun p e R s m args below meth c C => b_X12_actLose_0 C _ _ _ _ _ _ (h _ ))
def F_X12_actLose : FT := fun As S μ ρ k => match As with
  | [.ref a, .int i] => a = 2737 ∧ RS S ρ ∧ good (μ 2738) ∧ ∀ (t : T4) (g : Rw), k (some (.int (aLose (μ 2738) i).1)) (M4 μ g t (aLose (μ 2738) i).2)
  | _ => False
theorem r_X12_actLose {As S μ ρ k} (h : F_X12_actLose As S μ ρ k) : ∃ a As', As = Value.ref a :: As' ∧ S.2 a = (12, 27) := by
  unfold F_X12_actLose at h
  split at h
  · exact ⟨_, _, rfl, by rw [h.1]; exact h.2.1.1⟩
  · exact h.elim
set_option maxHeartbeats 1000000 in
theorem f_X12_actLose {Z : Zt} {d : Nat} {As : List Value} {S : Sh} {μ : Mi} {ρ : Mr} {Rp : RT} (h : F_X12_actLose As S μ ρ (fun r μ' => Rp r S μ' ρ)) : MS Z (d + 3) jX12_actLose As S μ ρ Rp := by
  unfold F_X12_actLose at h
  split at h
  · rename_i a i
    obtain ⟨rfl, hS, h⟩ := h
    have hS0 := hS
    unfold RS at hS
    obtain ⟨hg, h⟩ := h
    obtain ⟨g0, t0, h0⟩ := M4_self μ
    rw [h0]
    generalize hA : μ 2738 = A at *
    have hw := good_w hg
    have i10 : inb 4510 13548 := inb_nI (k := 4510) (by decide) (by decide)
    have i11 : inb 4511 13548 := inb_nI (k := 4511) (by decide) (by decide)
    refine ms_X12_actLose _ _ (fun G => ?_)
    unfold aLose at h
    simp only [w_X12_actLose_0, w_X12_actLose_11, tAload, tIload, nth, tGetI, tGetR, tConst, tLconst, tBin, tUn, tI2l, tAld, tAldR, tAlen, tIast, tBast, tZast, tAast, tIret, tZret, tVret, tAret, tIf, tIf2, tGoto, tIstore, tAstore, sset, tIinc, tDup, tDup2, tPop, tPutI, tPutZ, tPutR, tCallV, tCallS, popN, tFn, tCopy, tMax, tMin, tSw, swc, tRem, tObjI, Option.toList, List.nil_append, List.cons_append, okR, true_and, and_true, true_or, or_true, Nat.zero_le, ne_eq, not_false_eq_true, Nat.reduceEqDiff, F_X12_isMessage, F_X12_goesOut, hS0, hS, M4_row, M4_m, M4_g, M4_upF, upI_upF, i10, i11, cl_4510, cl_4511, b2_z, Decidable.not_not]
    refine ⟨hw, fun c => ?_, fun c => ?_⟩
    · obtain ⟨n, rfl, n0, n1, n2, n3⟩ := msg_ex hw c
      refine ⟨by rw [rg_nI n0]; omega, hw, n3, ?_⟩
      have := h t0 (cpF A g0 (2570 + 21 * (nI n).toNatClampNeg) 0 21)
      rw [if_neg (not_not_intro c)] at this
      exact this
    · have := h t0 g0
      rw [if_pos c] at this
      exact this
  · exact h.elim
def w_X12_actTwice_27 (M : CT) (G : Nat → PT) (Rp : RT) : PT := tAload 0 <| tGetR 12 27 1 <| tConst 2570 <| tConst 21 <| tIload 1 <| tBin (fun x y => x * y) <| tBin (fun x y => x + y) <| tAload 0 <| tGetR 12 27 1 <| tConst 2570 <| tConst 21 <| tAload 0 <| tGetR 12 27 1 <| tConst 4510 <| tAld 20 <| tBin (fun x y => x * y) <| tBin (fun x y => x + y) <| tConst 21 <| tFn 5 F_X12_copies <| tAload 0 <| tGetR 12 27 1 <| tConst 4510 <| tDup2 <| tAld 20 <| tConst 1 <| tBin (fun x y => x + y) <| tIast <| tAload 0 <| tGetR 12 27 1 <| tConst 4510 <| tAld 20 <| tIret Rp
def w_X12_actTwice_11 (M : CT) (G : Nat → PT) (Rp : RT) : PT := tAload 0 <| tGetR 12 27 1 <| tConst 4510 <| tAld 20 <| tConst 60 <| tIf2 (fun x y => x ≠ y) (w_X12_actTwice_27 M G Rp) <| tConst (-4) <| tIret Rp
def w_X12_actTwice_0 (M : CT) (G : Nat → PT) (Rp : RT) : PT := tAload 0 <| tIload 1 <| tFn 2 F_X12_isMessage <| tIf (fun x => x ≠ 0) (w_X12_actTwice_11 M G Rp) <| tConst (-2) <| tIret Rp
set_option maxRecDepth 20000 in
theorem b_X12_actTwice_27 {Z : Zt} {d : Nat} {p : Program} {e : Env} {R : Room} {s : State} {m : MethodId} {args : Array Value} {below : List Frame} {meth : Method} {c : Code} {Rp : RT} (C : Cx Z (d + 2) jX12_actTwice RX12 p R s m args meth c) : Sd Z jX12_actTwice p e R s m args below meth c (MQ below (QcS Z Rp) args s 0 0 (fun a => Z.2.2.1 < a)) 27 (w_X12_actTwice_27 (MS Z (d + 2)) (Gw Z 2 p e R s m args below meth c (MQ below (QcS Z Rp) args s 0 0 (fun a => Z.2.2.1 < a))) Rp) := by
  unfold w_X12_actTwice_27
  refine s_aload_n (k := 0) C (by decide +kernel) ?_
  refine s_getR C w_6_88 (by decide +kernel) rfl ?_
  refine s_sipush (n := 2570) C (by decide +kernel) (by decide) ?_
  refine s_bipush (n := 21) C (by decide +kernel) (by decide) ?_
  refine s_iload_n (k := 1) C (by decide +kernel) ?_
  refine s_imul C (by decide +kernel) ?_
  refine s_iadd C (by decide +kernel) ?_
  refine s_aload_n (k := 0) C (by decide +kernel) ?_
  refine s_getR C w_6_88 (by decide +kernel) rfl ?_
  refine s_sipush (n := 2570) C (by decide +kernel) (by decide) ?_
  refine s_bipush (n := 21) C (by decide +kernel) (by decide) ?_
  refine s_aload_n (k := 0) C (by decide +kernel) ?_
  refine s_getR C w_6_88 (by decide +kernel) rfl ?_
  refine s_sipush (n := 4510) C (by decide +kernel) (by decide) ?_
  refine s_iald C (by decide +kernel) ?_
  refine s_imul C (by decide +kernel) ?_
  refine s_iadd C (by decide +kernel) ?_
  refine s_bipush (n := 21) C (by decide +kernel) (by decide) ?_
  refine s_fnS C (j2 := jX12_copies) (by decide +kernel) rfl w_6_182 w_6_183 w_1_13 w_6_184 (by decide +kernel) (fun _ _ _ _ _ h => f_X12_copies h) ?_
  refine s_aload_n (k := 0) C (by decide +kernel) ?_
  refine s_getR C w_6_88 (by decide +kernel) rfl ?_
  refine s_sipush (n := 4510) C (by decide +kernel) (by decide) ?_
  refine s_dup2 C (by decide +kernel) ?_
  refine s_iald C (by decide +kernel) ?_
  refine s_iconst (n := 1) C (by decide +kernel) (by decide) ?_
  refine s_iadd C (by decide +kernel) ?_
  refine s_iast C (by decide +kernel) ?_
  refine s_aload_n (k := 0) C (by decide +kernel) ?_
  refine s_getR C w_6_88 (by decide +kernel) rfl ?_
  refine s_sipush (n := 4510) C (by decide +kernel) (by decide) ?_
  refine s_iald C (by decide +kernel) ?_
  exact s_iret C rfl (by decide +kernel)
set_option maxRecDepth 20000 in
theorem b_X12_actTwice_11 {Z : Zt} {d : Nat} {p : Program} {e : Env} {R : Room} {s : State} {m : MethodId} {args : Array Value} {below : List Frame} {meth : Method} {c : Code} {Rp : RT} (C : Cx Z (d + 2) jX12_actTwice RX12 p R s m args meth c) : Sd Z jX12_actTwice p e R s m args below meth c (MQ below (QcS Z Rp) args s 0 0 (fun a => Z.2.2.1 < a)) 11 (w_X12_actTwice_11 (MS Z (d + 2)) (Gw Z 2 p e R s m args below meth c (MQ below (QcS Z Rp) args s 0 0 (fun a => Z.2.2.1 < a))) Rp) := by
  unfold w_X12_actTwice_11
  refine s_aload_n (k := 0) C (by decide +kernel) ?_
  refine s_getR C w_6_88 (by decide +kernel) rfl ?_
  refine s_sipush (n := 4510) C (by decide +kernel) (by decide) ?_
  refine s_iald C (by decide +kernel) ?_
  refine s_bipush (n := 60) C (by decide +kernel) (by decide) ?_
  refine s_icmp_ne (off := 6) (tgt := 27) C (by decide +kernel) (by decide) (b_X12_actTwice_27 C) ?_
  refine s_bipush (n := (-4)) C (by decide +kernel) (by decide) ?_
  exact s_iret C rfl (by decide +kernel)
set_option maxRecDepth 20000 in
theorem b_X12_actTwice_0 {Z : Zt} {d : Nat} {p : Program} {e : Env} {R : Room} {s : State} {m : MethodId} {args : Array Value} {below : List Frame} {meth : Method} {c : Code} {Rp : RT} (C : Cx Z (d + 2) jX12_actTwice RX12 p R s m args meth c) : Sd Z jX12_actTwice p e R s m args below meth c (MQ below (QcS Z Rp) args s 0 0 (fun a => Z.2.2.1 < a)) 0 (w_X12_actTwice_0 (MS Z (d + 2)) (Gw Z 2 p e R s m args below meth c (MQ below (QcS Z Rp) args s 0 0 (fun a => Z.2.2.1 < a))) Rp) := by
  unfold w_X12_actTwice_0
  refine s_aload_n (k := 0) C (by decide +kernel) ?_
  refine s_iload_n (k := 1) C (by decide +kernel) ?_
  refine s_fnV C (j2 := jX12_isMessage) (cl := 12) (nf := 27) rfl rfl (by decide +kernel) rfl w_7_168 w_7_170 w_p5_12 w_1_13 w_7_171 (by decide +kernel) (fun _ _ _ _ _ h => f_X12_isMessage h) (fun _ _ _ _ _ h => r_X12_isMessage h) ?_
  refine s_if_ne (off := 6) (tgt := 11) C (by decide +kernel) (by decide) (b_X12_actTwice_11 C) ?_
  refine s_bipush (n := (-2)) C (by decide +kernel) (by decide) ?_
  exact s_iret C rfl (by decide +kernel)
theorem ms_X12_actTwice {Z : Zt} {d : Nat} {S : Sh} {μ : Mi} {ρ : Mr} {Rp : RT} (a0 : Nat) (x1 : Int32) (h : ∀ G : Nat → PT, w_X12_actTwice_0 (MS Z (d + 2)) G Rp [.ref a0, .int x1] [] S (0, 0) μ ρ) : MS Z (d + 3) jX12_actTwice [.ref a0, .int x1] S μ ρ Rp :=
  MS_of [.ref a0, .int x1] (by decide +kernel) rfl rfl (Nat.le_of_ble_eq_true rfl) rfl (fun p e R s m args below meth c C => b_X12_actTwice_0 C _ _ _ _ _ _ (h _ ))
def F_X12_actTwice : FT := fun As S μ ρ k => match As with
  | [.ref a, .int i] => a = 2737 ∧ RS S ρ ∧ good (μ 2738) ∧ ∀ (t : T4) (g : Rw), k (some (.int (aTwice (μ 2738) i).1)) (M4 μ g t (aTwice (μ 2738) i).2)
  | _ => False
theorem r_X12_actTwice {As S μ ρ k} (h : F_X12_actTwice As S μ ρ k) : ∃ a As', As = Value.ref a :: As' ∧ S.2 a = (12, 27) := by
  unfold F_X12_actTwice at h
  split at h
  · exact ⟨_, _, rfl, by rw [h.1]; exact h.2.1.1⟩
  · exact h.elim
set_option maxHeartbeats 1000000 in
theorem f_X12_actTwice {Z : Zt} {d : Nat} {As : List Value} {S : Sh} {μ : Mi} {ρ : Mr} {Rp : RT} (h : F_X12_actTwice As S μ ρ (fun r μ' => Rp r S μ' ρ)) : MS Z (d + 3) jX12_actTwice As S μ ρ Rp := by
  unfold F_X12_actTwice at h
  split at h
  · rename_i a i
    obtain ⟨rfl, hS, h⟩ := h
    have hS0 := hS
    unfold RS at hS
    obtain ⟨hg, h⟩ := h
    obtain ⟨g0, t0, h0⟩ := M4_self μ
    rw [h0]
    generalize hA : μ 2738 = A at *
    have hw := good_w hg
    have i10 : inb 4510 13548 := inb_nI (k := 4510) (by decide) (by decide)
    refine ms_X12_actTwice _ _ (fun G => ?_)
    unfold aTwice at h
    simp only [w_X12_actTwice_0, w_X12_actTwice_11, tAload, tIload, nth, tGetI, tGetR, tConst, tLconst, tBin, tUn, tI2l, tAld, tAldR, tAlen, tIast, tBast, tZast, tAast, tIret, tZret, tVret, tAret, tIf, tIf2, tGoto, tIstore, tAstore, sset, tIinc, tDup, tDup2, tPop, tPutI, tPutZ, tPutR, tCallV, tCallS, popN, tFn, tCopy, tMax, tMin, tSw, swc, tRem, tObjI, Option.toList, List.nil_append, List.cons_append, okR, true_and, and_true, true_or, or_true, Nat.zero_le, ne_eq, not_false_eq_true, Nat.reduceEqDiff, F_X12_isMessage, hS0, hS, M4_row, i10, cl_4510, b2_z, Decidable.not_not]
    refine ⟨hw, fun c => ?_, fun c => ?_⟩
    · rw [if_neg (not_not_intro c)] at h
      refine ⟨fun c2 => ?_, fun c2 => ?_⟩
      · rw [if_neg c2] at h
        obtain ⟨n, rfl, n0, n1, n2, n3⟩ := msg_ex hw c
        obtain ⟨w, ew, ew0, -, ew1⟩ := rg_ex hw
        rw [ew, nI_toInt n0, nI_toInt ew0] at n3
        have hw60 : w < 60 := by
          have : ¬ w = 60 := fun z => c2 (by rw [ew, z]; rfl)
          omega
        simp only [w_X12_actTwice_27, tAload, tIload, nth, tGetI, tGetR, tConst, tLconst, tBin, tUn, tI2l, tAld, tAldR, tAlen, tIast, tBast, tZast, tAast, tIret, tZret, tVret, tAret, tIf, tIf2, tGoto, tIstore, tAstore, sset, tIinc, tDup, tDup2, tPop, tPutI, tPutZ, tPutR, tCallV, tCallS, popN, tFn, tCopy, tMax, tMin, tSw, swc, tRem, tObjI, Option.toList, List.nil_append, List.cons_append, okR, true_and, and_true, true_or, or_true, Nat.zero_le, ne_eq, not_false_eq_true, Nat.reduceEqDiff, F_X12_copies, hS, M4_row, M4_upF, upI_upF, i10, cl_4510, ew]
        have e1 : (2570 : Int32) + 21 * nI n = nI (2570 + 21 * n) := by rw [show (2570 : Int32) = nI 2570 from rfl, show (21 : Int32) = nI 21 from rfl, pk_mul, nI_add]
        have e2 : (2570 : Int32) + 21 * nI w = nI (2570 + 21 * w) := by rw [show (2570 : Int32) = nI 2570 from rfl, show (21 : Int32) = nI 21 from rfl, pk_mul, nI_add]
        rw [e1, e2]
        simp (disch := omega) only [nI_clamp, nI_toInt, cl_21, upF_same, upF_upF, M4_upF]
        refine ⟨by omega, by omega, by decide, by omega, by omega, by decide, by decide, Or.inr (Or.inr (by omega)), ?_⟩
        have e3 : cpF A A (2570 + 21 * n) (2570 + 21 * w) 21 4510 = nI w := by rw [cpF_out (by omega)]; exact ew
        have := h t0 g0
        unfold qTwice at this
        rw [ew, nI_clamp ew0, nI_clamp n0] at this
        simp only [M4_row, M4_upF, e3]
        exact this
      · rw [if_pos c2] at h
        exact h t0 g0
    · have := h t0 g0
      rw [if_pos c] at this
      exact this
  · exact h.elim
def w_X12_actSettle_36 (M : CT) (G : Nat → PT) (Rp : RT) : PT := tIret Rp
def w_X12_actSettle_31 (M : CT) (G : Nat → PT) (Rp : RT) : PT := tAload 0 <| tIload 1 <| tFn 2 F_X12_settles <| w_X12_actSettle_36 M G Rp
def w_X12_actSettle_15 (M : CT) (G : Nat → PT) (Rp : RT) : PT := tAload 0 <| tGetR 12 27 1 <| tConst 4510 <| tAld 20 <| tIf (fun x => x ≠ 0) (w_X12_actSettle_31 M G Rp) <| tConst (-5) <| tGoto (w_X12_actSettle_36 M G Rp)
def w_X12_actSettle_0 (M : CT) (G : Nat → PT) (Rp : RT) : PT := tIload 1 <| tI2l <| tLconst 1 <| tLconst 200 <| tFn 3 F_X12_within <| tIf (fun x => x ≠ 0) (w_X12_actSettle_15 M G Rp) <| tConst (-3) <| tIret Rp
set_option maxRecDepth 20000 in
theorem b_X12_actSettle_36 {Z : Zt} {d : Nat} {p : Program} {e : Env} {R : Room} {s : State} {m : MethodId} {args : Array Value} {below : List Frame} {meth : Method} {c : Code} {Rp : RT} (C : Cx Z (d + 12) jX12_actSettle RX12 p R s m args meth c) : Sd Z jX12_actSettle p e R s m args below meth c (MQ below (QcS Z Rp) args s 0 0 (fun a => Z.2.2.1 < a)) 36 (w_X12_actSettle_36 (MS Z (d + 12)) (Gw Z 2 p e R s m args below meth c (MQ below (QcS Z Rp) args s 0 0 (fun a => Z.2.2.1 < a))) Rp) := by
  unfold w_X12_actSettle_36
  exact s_iret C rfl (by decide +kernel)
set_option maxRecDepth 20000 in
theorem b_X12_actSettle_31 {Z : Zt} {d : Nat} {p : Program} {e : Env} {R : Room} {s : State} {m : MethodId} {args : Array Value} {below : List Frame} {meth : Method} {c : Code} {Rp : RT} (C : Cx Z (d + 12) jX12_actSettle RX12 p R s m args meth c) : Sd Z jX12_actSettle p e R s m args below meth c (MQ below (QcS Z Rp) args s 0 0 (fun a => Z.2.2.1 < a)) 31 (w_X12_actSettle_31 (MS Z (d + 12)) (Gw Z 2 p e R s m args below meth c (MQ below (QcS Z Rp) args s 0 0 (fun a => Z.2.2.1 < a))) Rp) := by
  unfold w_X12_actSettle_31
  refine s_aload_n (k := 0) C (by decide +kernel) ?_
  refine s_iload_n (k := 1) C (by decide +kernel) ?_
  refine s_fnV C (j2 := jX12_settles) (cl := 12) (nf := 27) rfl rfl (by decide +kernel) rfl w_8_21 w_8_23 w_p7_0 w_1_13 w_8_24 (by decide +kernel) (fun _ _ _ _ _ h => f_X12_settles h) (fun _ _ _ _ _ h => r_X12_settles h) ?_
  exact (b_X12_actSettle_36 C)
set_option maxRecDepth 20000 in
theorem b_X12_actSettle_15 {Z : Zt} {d : Nat} {p : Program} {e : Env} {R : Room} {s : State} {m : MethodId} {args : Array Value} {below : List Frame} {meth : Method} {c : Code} {Rp : RT} (C : Cx Z (d + 12) jX12_actSettle RX12 p R s m args meth c) : Sd Z jX12_actSettle p e R s m args below meth c (MQ below (QcS Z Rp) args s 0 0 (fun a => Z.2.2.1 < a)) 15 (w_X12_actSettle_15 (MS Z (d + 12)) (Gw Z 2 p e R s m args below meth c (MQ below (QcS Z Rp) args s 0 0 (fun a => Z.2.2.1 < a))) Rp) := by
  unfold w_X12_actSettle_15
  refine s_aload_n (k := 0) C (by decide +kernel) ?_
  refine s_getR C w_6_88 (by decide +kernel) rfl ?_
  refine s_sipush (n := 4510) C (by decide +kernel) (by decide) ?_
  refine s_iald C (by decide +kernel) ?_
  refine s_if_ne (off := 8) (tgt := 31) C (by decide +kernel) (by decide) (b_X12_actSettle_31 C) ?_
  refine s_bipush (n := (-5)) C (by decide +kernel) (by decide) ?_
  exact s_goto (off := 8) (tgt := 36) C (by decide +kernel) (by decide) (b_X12_actSettle_36 C)
set_option maxRecDepth 20000 in
theorem b_X12_actSettle_0 {Z : Zt} {d : Nat} {p : Program} {e : Env} {R : Room} {s : State} {m : MethodId} {args : Array Value} {below : List Frame} {meth : Method} {c : Code} {Rp : RT} (C : Cx Z (d + 12) jX12_actSettle RX12 p R s m args meth c) : Sd Z jX12_actSettle p e R s m args below meth c (MQ below (QcS Z Rp) args s 0 0 (fun a => Z.2.2.1 < a)) 0 (w_X12_actSettle_0 (MS Z (d + 12)) (Gw Z 2 p e R s m args below meth c (MQ below (QcS Z Rp) args s 0 0 (fun a => Z.2.2.1 < a))) Rp) := by
  unfold w_X12_actSettle_0
  refine s_iload_n (k := 1) C (by decide +kernel) ?_
  refine s_i2l C (by decide +kernel) ?_
  refine s_lconst (n := 1) C (by decide +kernel) (by decide) ?_
  refine s_ldc2 C w_8_20 (by decide +kernel) ?_
  refine s_fnS C (j2 := jX12_within) (by decide +kernel) rfl w_6_175 w_6_176 w_1_13 w_6_177 (by decide +kernel) (fun _ _ _ _ _ h => f_X12_within h) ?_
  refine s_if_ne (off := 6) (tgt := 15) C (by decide +kernel) (by decide) (b_X12_actSettle_15 C) ?_
  refine s_bipush (n := (-3)) C (by decide +kernel) (by decide) ?_
  exact s_iret C rfl (by decide +kernel)
theorem ms_X12_actSettle {Z : Zt} {d : Nat} {S : Sh} {μ : Mi} {ρ : Mr} {Rp : RT} (a0 : Nat) (x1 : Int32) (h : ∀ G : Nat → PT, w_X12_actSettle_0 (MS Z (d + 12)) G Rp [.ref a0, .int x1] [] S (0, 0) μ ρ) : MS Z (d + 13) jX12_actSettle [.ref a0, .int x1] S μ ρ Rp :=
  MS_of [.ref a0, .int x1] (by decide +kernel) rfl rfl (Nat.le_of_ble_eq_true rfl) rfl (fun p e R s m args below meth c C => b_X12_actSettle_0 C _ _ _ _ _ _ (h _ ))
def F_X12_actSettle : FT := fun As S μ ρ k => match As with
  | [.ref a, .int n] => a = 2737 ∧ RS S ρ ∧ good (μ 2738) ∧ ∀ (t : T4) (g : Rw), k (some (.int (aSettle (μ 2738) n).1)) (M4 μ g t (aSettle (μ 2738) n).2)
  | _ => False
theorem r_X12_actSettle {As S μ ρ k} (h : F_X12_actSettle As S μ ρ k) : ∃ a As', As = Value.ref a :: As' ∧ S.2 a = (12, 27) := by
  unfold F_X12_actSettle at h
  split at h
  · exact ⟨_, _, rfl, by rw [h.1]; exact h.2.1.1⟩
  · exact h.elim
set_option maxHeartbeats 1000000 in
theorem f_X12_actSettle {Z : Zt} {d : Nat} {As : List Value} {S : Sh} {μ : Mi} {ρ : Mr} {Rp : RT} (h : F_X12_actSettle As S μ ρ (fun r μ' => Rp r S μ' ρ)) : MS Z (d + 13) jX12_actSettle As S μ ρ Rp := by
  unfold F_X12_actSettle at h
  split at h
  · rename_i a n
    obtain ⟨rfl, hS, h⟩ := h
    have hS0 := hS
    unfold RS at hS
    obtain ⟨hg, h⟩ := h
    obtain ⟨g0, t0, h0⟩ := M4_self μ
    rw [h0]
    generalize hA : μ 2738 = A at *
    have i10 : inb 4510 13548 := inb_nI (k := 4510) (by decide) (by decide)
    refine ms_X12_actSettle _ _ (fun G => ?_)
    unfold aSettle at h
    simp only [w_X12_actSettle_0, w_X12_actSettle_15, w_X12_actSettle_31, w_X12_actSettle_36, tAload, tIload, nth, tGetI, tGetR, tConst, tLconst, tBin, tUn, tI2l, tAld, tAldR, tAlen, tIast, tBast, tZast, tAast, tIret, tZret, tVret, tAret, tIf, tIf2, tGoto, tIstore, tAstore, sset, tIinc, tDup, tDup2, tPop, tPutI, tPutZ, tPutR, tCallV, tCallS, popN, tFn, tCopy, tMax, tMin, tSw, swc, tRem, tObjI, Option.toList, List.nil_append, List.cons_append, okR, true_and, and_true, true_or, or_true, Nat.zero_le, ne_eq, not_false_eq_true, Nat.reduceEqDiff, F_X12_within, F_X12_settles, hS0, hS, M4_row, M4_M4, i10, cl_4510, b2_z, Decidable.not_not, l_leC, l_geC, il_1, il_200]
    refine ⟨fun c => ⟨fun c2 => ⟨⟨by omega, by omega⟩, hg, fun t g => ?_⟩, fun c2 => ?_⟩, fun c => ?_⟩
    · have := h t g
      rw [if_neg (not_not_intro c), if_neg c2] at this
      exact this
    · have := h t0 g0
      rw [if_neg (not_not_intro c), if_pos c2] at this
      exact this
    · have := h t0 g0
      rw [if_pos c] at this
      exact this
  · exact h.elim
def w_X12_actCareful_13 (M : CT) (G : Nat → PT) (Rp : RT) : PT := tAload 0 <| tGetR 12 27 1 <| tConst 4515 <| tAld 20 <| tIstore 2 <| tAload 0 <| tGetR 12 27 1 <| tConst 4515 <| tIload 1 <| tIast <| tIload 2 <| tIret Rp
def w_X12_actCareful_0 (M : CT) (G : Nat → PT) (Rp : RT) : PT := tIload 1 <| tI2l <| tLconst 0 <| tLconst 1 <| tFn 3 F_X12_within <| tIf (fun x => x ≠ 0) (w_X12_actCareful_13 M G Rp) <| tConst (-3) <| tIret Rp
set_option maxRecDepth 20000 in
theorem b_X12_actCareful_13 {Z : Zt} {d : Nat} {p : Program} {e : Env} {R : Room} {s : State} {m : MethodId} {args : Array Value} {below : List Frame} {meth : Method} {c : Code} {Rp : RT} (C : Cx Z (d + 1) jX12_actCareful RX12 p R s m args meth c) : Sd Z jX12_actCareful p e R s m args below meth c (MQ below (QcS Z Rp) args s 0 0 (fun a => Z.2.2.1 < a)) 13 (w_X12_actCareful_13 (MS Z (d + 1)) (Gw Z 3 p e R s m args below meth c (MQ below (QcS Z Rp) args s 0 0 (fun a => Z.2.2.1 < a))) Rp) := by
  unfold w_X12_actCareful_13
  refine s_aload_n (k := 0) C (by decide +kernel) ?_
  refine s_getR C w_6_88 (by decide +kernel) rfl ?_
  refine s_sipush (n := 4515) C (by decide +kernel) (by decide) ?_
  refine s_iald C (by decide +kernel) ?_
  refine s_istore_n (k := 2) C (by decide +kernel) ?_
  refine s_aload_n (k := 0) C (by decide +kernel) ?_
  refine s_getR C w_6_88 (by decide +kernel) rfl ?_
  refine s_sipush (n := 4515) C (by decide +kernel) (by decide) ?_
  refine s_iload_n (k := 1) C (by decide +kernel) ?_
  refine s_iast C (by decide +kernel) ?_
  refine s_iload_n (k := 2) C (by decide +kernel) ?_
  exact s_iret C rfl (by decide +kernel)
set_option maxRecDepth 20000 in
theorem b_X12_actCareful_0 {Z : Zt} {d : Nat} {p : Program} {e : Env} {R : Room} {s : State} {m : MethodId} {args : Array Value} {below : List Frame} {meth : Method} {c : Code} {Rp : RT} (C : Cx Z (d + 1) jX12_actCareful RX12 p R s m args meth c) : Sd Z jX12_actCareful p e R s m args below meth c (MQ below (QcS Z Rp) args s 0 0 (fun a => Z.2.2.1 < a)) 0 (w_X12_actCareful_0 (MS Z (d + 1)) (Gw Z 3 p e R s m args below meth c (MQ below (QcS Z Rp) args s 0 0 (fun a => Z.2.2.1 < a))) Rp) := by
  unfold w_X12_actCareful_0
  refine s_iload_n (k := 1) C (by decide +kernel) ?_
  refine s_i2l C (by decide +kernel) ?_
  refine s_lconst (n := 0) C (by decide +kernel) (by decide) ?_
  refine s_lconst (n := 1) C (by decide +kernel) (by decide) ?_
  refine s_fnS C (j2 := jX12_within) (by decide +kernel) rfl w_6_175 w_6_176 w_1_13 w_6_177 (by decide +kernel) (fun _ _ _ _ _ h => f_X12_within h) ?_
  refine s_if_ne (off := 6) (tgt := 13) C (by decide +kernel) (by decide) (b_X12_actCareful_13 C) ?_
  refine s_bipush (n := (-3)) C (by decide +kernel) (by decide) ?_
  exact s_iret C rfl (by decide +kernel)
theorem ms_X12_actCareful {Z : Zt} {d : Nat} {S : Sh} {μ : Mi} {ρ : Mr} {Rp : RT} (a0 : Nat) (x1 : Int32) (h : ∀ G : Nat → PT, w_X12_actCareful_0 (MS Z (d + 1)) G Rp [.ref a0, .int x1, .null] [] S (0, 0) μ ρ) : MS Z (d + 2) jX12_actCareful [.ref a0, .int x1] S μ ρ Rp :=
  MS_of [.ref a0, .int x1, .null] (by decide +kernel) rfl rfl (Nat.le_of_ble_eq_true rfl) rfl (fun p e R s m args below meth c C => b_X12_actCareful_0 C _ _ _ _ _ _ (h _ ))
def F_X12_actCareful : FT := fun As S μ ρ k => match As with
  | [.ref a, .int v] => a = 2737 ∧ RS S ρ ∧ good (μ 2738) ∧ ∀ (t : T4) (g : Rw), k (some (.int (aCareful (μ 2738) v).1)) (M4 μ g t (aCareful (μ 2738) v).2)
  | _ => False
theorem r_X12_actCareful {As S μ ρ k} (h : F_X12_actCareful As S μ ρ k) : ∃ a As', As = Value.ref a :: As' ∧ S.2 a = (12, 27) := by
  unfold F_X12_actCareful at h
  split at h
  · exact ⟨_, _, rfl, by rw [h.1]; exact h.2.1.1⟩
  · exact h.elim
set_option maxHeartbeats 1000000 in
theorem f_X12_actCareful {Z : Zt} {d : Nat} {As : List Value} {S : Sh} {μ : Mi} {ρ : Mr} {Rp : RT} (h : F_X12_actCareful As S μ ρ (fun r μ' => Rp r S μ' ρ)) : MS Z (d + 2) jX12_actCareful As S μ ρ Rp := by
  unfold F_X12_actCareful at h
  split at h
  · rename_i a v
    obtain ⟨rfl, hS, h⟩ := h
    have hS0 := hS
    unfold RS at hS
    obtain ⟨hg, h⟩ := h
    obtain ⟨g0, t0, h0⟩ := M4_self μ
    rw [h0]
    generalize hA : μ 2738 = A at *
    have i15 : inb 4515 13548 := inb_nI (k := 4515) (by decide) (by decide)
    refine ms_X12_actCareful _ _ (fun G => ?_)
    unfold aCareful at h
    simp only [w_X12_actCareful_0, w_X12_actCareful_13, tAload, tIload, nth, tGetI, tGetR, tConst, tLconst, tBin, tUn, tI2l, tAld, tAldR, tAlen, tIast, tBast, tZast, tAast, tIret, tZret, tVret, tAret, tIf, tIf2, tGoto, tIstore, tAstore, sset, tIinc, tDup, tDup2, tPop, tPutI, tPutZ, tPutR, tCallV, tCallS, popN, tFn, tCopy, tMax, tMin, tSw, swc, tRem, tObjI, Option.toList, List.nil_append, List.cons_append, okR, true_and, and_true, true_or, or_true, Nat.zero_le, ne_eq, not_false_eq_true, Nat.reduceEqDiff, F_X12_within, hS0, hS, M4_row, M4_upF, upI_upF, i15, cl_4515, b2_z, Decidable.not_not, l_leC, l_geC, il_0, il_1]
    refine ⟨fun c => ?_, fun c => ?_⟩
    · have := h t0 g0
      rw [if_neg (not_not_intro c)] at this
      exact this
    · have := h t0 g0
      rw [if_pos c] at this
      exact this
  · exact h.elim
