/-! ===== the class: more acts ===== -/
def w_X10_compacts_44 (M : CT) (G : Nat → PT) (Rp : RT) : PT := tAload 2 <| tFn 1 F_X7_takeSnapshot <| tIload 3 <| tIret Rp
def w_X10_compacts_41 (M : CT) (G : Nat → PT) (Rp : RT) : PT := tConst (-5) <| tIret Rp
def w_X10_compacts_10 (M : CT) (G : Nat → PT) (Rp : RT) : PT := tAload 0 <| tGetR 10 6 0 <| tIload 1 <| tAldR 37 <| tAstore 2 <| tAload 2 <| tGetI 7 18 8 <| tAload 2 <| tGetR 7 18 16 <| tGetI 6 5 0 <| tBin (fun x y => x - y) <| tIstore 3 <| tAload 2 <| tGetI 7 18 1 <| tIf (fun x => x = 0) (w_X10_compacts_41 M G Rp) <| tIload 3 <| tIf (fun x => 0 < x) (w_X10_compacts_44 M G Rp) <| w_X10_compacts_41 M G Rp
def w_X10_compacts_0 (M : CT) (G : Nat → PT) (Rp : RT) : PT := tIload 1 <| tFn 1 F_X11_isNoStore <| tIf (fun x => x = 0) (w_X10_compacts_10 M G Rp) <| tConst (-2) <| tIret Rp
set_option maxRecDepth 20000 in
theorem b_X10_compacts_44 {Z : Zt} {d : Nat} {p : Program} {e : Env} {R : Room} {s : State} {m : MethodId} {args : Array Value} {below : List Frame} {meth : Method} {c : Code} {Rp : RT} (C : Cx Z (d + 3) jX10_compacts RX10 p R s m args meth c) : Sd Z jX10_compacts p e R s m args below meth c (MQ below (QcS Z Rp) args s 0 0 (fun a => Z.2.2.1 < a)) 44 (w_X10_compacts_44 (MS Z (d + 3)) (Gw Z 4 p e R s m args below meth c (MQ below (QcS Z Rp) args s 0 0 (fun a => Z.2.2.1 < a))) Rp) := by
  unfold w_X10_compacts_44
  refine s_aload_n (k := 2) C (by decide +kernel) ?_
  refine s_fnV C (j2 := jX7_takeSnapshot) (cl := 7) (nf := 18) rfl rfl (by decide +kernel) rfl w_4_13 w_4_14 w_4_15 w_1_5 w_4_16 (by decide +kernel) (fun _ _ _ _ _ h => f_X7_takeSnapshot h) (fun _ _ _ _ _ h => r_X7_takeSnapshot h) ?_
  refine s_iload_n (k := 3) C (by decide +kernel) ?_
  exact s_iret C rfl (by decide +kernel)
set_option maxRecDepth 20000 in
theorem b_X10_compacts_41 {Z : Zt} {d : Nat} {p : Program} {e : Env} {R : Room} {s : State} {m : MethodId} {args : Array Value} {below : List Frame} {meth : Method} {c : Code} {Rp : RT} (C : Cx Z (d + 3) jX10_compacts RX10 p R s m args meth c) : Sd Z jX10_compacts p e R s m args below meth c (MQ below (QcS Z Rp) args s 0 0 (fun a => Z.2.2.1 < a)) 41 (w_X10_compacts_41 (MS Z (d + 3)) (Gw Z 4 p e R s m args below meth c (MQ below (QcS Z Rp) args s 0 0 (fun a => Z.2.2.1 < a))) Rp) := by
  unfold w_X10_compacts_41
  refine s_bipush (n := (-5)) C (by decide +kernel) (by decide) ?_
  exact s_iret C rfl (by decide +kernel)
set_option maxRecDepth 20000 in
theorem b_X10_compacts_10 {Z : Zt} {d : Nat} {p : Program} {e : Env} {R : Room} {s : State} {m : MethodId} {args : Array Value} {below : List Frame} {meth : Method} {c : Code} {Rp : RT} (C : Cx Z (d + 3) jX10_compacts RX10 p R s m args meth c) : Sd Z jX10_compacts p e R s m args below meth c (MQ below (QcS Z Rp) args s 0 0 (fun a => Z.2.2.1 < a)) 10 (w_X10_compacts_10 (MS Z (d + 3)) (Gw Z 4 p e R s m args below meth c (MQ below (QcS Z Rp) args s 0 0 (fun a => Z.2.2.1 < a))) Rp) := by
  unfold w_X10_compacts_10
  refine s_aload_n (k := 0) C (by decide +kernel) ?_
  refine s_getR C w_2_113 (by decide +kernel) rfl ?_
  refine s_iload_n (k := 1) C (by decide +kernel) ?_
  refine s_aald C rfl (by decide +kernel) ?_
  refine s_astore_n (k := 2) C (by decide +kernel) ?_
  refine s_aload_n (k := 2) C (by decide +kernel) ?_
  refine s_getI C w_2_9 (by decide +kernel) rfl ?_
  refine s_aload_n (k := 2) C (by decide +kernel) ?_
  refine s_getR C w_2_34 (by decide +kernel) rfl ?_
  refine s_getI C w_1_163 (by decide +kernel) rfl ?_
  refine s_isub C (by decide +kernel) ?_
  refine s_istore_n (k := 3) C (by decide +kernel) ?_
  refine s_aload_n (k := 2) C (by decide +kernel) ?_
  refine s_getI C w_1_224 (by decide +kernel) rfl ?_
  refine s_if_eq (off := 7) (tgt := 41) C (by decide +kernel) (by decide) (b_X10_compacts_41 C) ?_
  refine s_iload_n (k := 3) C (by decide +kernel) ?_
  refine s_if_gt (off := 6) (tgt := 44) C (by decide +kernel) (by decide) (b_X10_compacts_44 C) ?_
  exact (b_X10_compacts_41 C)
set_option maxRecDepth 20000 in
theorem b_X10_compacts_0 {Z : Zt} {d : Nat} {p : Program} {e : Env} {R : Room} {s : State} {m : MethodId} {args : Array Value} {below : List Frame} {meth : Method} {c : Code} {Rp : RT} (C : Cx Z (d + 3) jX10_compacts RX10 p R s m args meth c) : Sd Z jX10_compacts p e R s m args below meth c (MQ below (QcS Z Rp) args s 0 0 (fun a => Z.2.2.1 < a)) 0 (w_X10_compacts_0 (MS Z (d + 3)) (Gw Z 4 p e R s m args below meth c (MQ below (QcS Z Rp) args s 0 0 (fun a => Z.2.2.1 < a))) Rp) := by
  unfold w_X10_compacts_0
  refine s_iload_n (k := 1) C (by decide +kernel) ?_
  refine s_fnSN C (j2 := jX11_isNoStore) (by decide +kernel) rfl w_3_102 w_3_103 w_1_1 w_3_104 (by decide +kernel) (fun _ _ _ _ _ h => f_X11_isNoStore h) ?_
  refine s_if_eq (off := 6) (tgt := 10) C (by decide +kernel) (by decide) (b_X10_compacts_10 C) ?_
  refine s_bipush (n := (-2)) C (by decide +kernel) (by decide) ?_
  exact s_iret C rfl (by decide +kernel)
theorem ms_X10_compacts {Z : Zt} {d : Nat} {S : Sh} {μ : Mi} {ρ : Mr} {Rp : RT} (a0 : Nat) (x1 : Int32) (h : ∀ G : Nat → PT, w_X10_compacts_0 (MS Z (d + 3)) G Rp [.ref a0, .int x1, .null, .null] [] S (0, 0) μ ρ) : MS Z (d + 4) jX10_compacts [.ref a0, .int x1] S μ ρ Rp :=
  MS_of [.ref a0, .int x1, .null, .null] (by decide +kernel) rfl rfl (Nat.le_of_ble_eq_true rfl) rfl (fun p e R s m args below meth c C => b_X10_compacts_0 C _ _ _ _ _ _ (h _ ))
def F_X10_compacts : FT := fun As S μ ρ k => match As with
  | [.ref a, .int n] => S.2 a = (10, 6) ∧ ∃ (A : Rw), RR A a S μ ρ ∧ Gd A ∧ ∀ μ', RR (aCompact A n).2 a S μ' ρ → Ot a μ μ' → k (some (.int (aCompact A n).1)) μ'
  | _ => False
theorem r_X10_compacts {As S μ ρ k} (h : F_X10_compacts As S μ ρ k) : ∃ a As', As = Value.ref a :: As' ∧ S.2 a = (10, 6) := by
  unfold F_X10_compacts at h
  split at h
  · exact ⟨_, _, rfl, h.1⟩
  · exact h.elim
set_option maxHeartbeats 1000000 in
theorem f_X10_compacts {Z : Zt} {d : Nat} {As : List Value} {S : Sh} {μ : Mi} {ρ : Mr} {Rp : RT} (h : F_X10_compacts As S μ ρ (fun r μ' => Rp r S μ' ρ)) : MS Z (d + 4) jX10_compacts As S μ ρ Rp := by
  unfold F_X10_compacts at h
  split at h
  · rename_i a n
    obtain ⟨a, hNa⟩ : ∃ n : Nat, n = a := ⟨a, rfl⟩
    subst hNa
    obtain ⟨h1, A, hR, hG, h⟩ := h
    refine ms_X10_compacts _ _ (fun G => ?_)
    have hW := RR_W hR
    have hcm := good_cm (Gd_good hG)
    have hext := Gd_ext hG
    unfold aCompact at h
    simp only [w_X10_compacts_0, tAload, tIload, nth, tGetI, tGetR, tConst, tLconst, tBin, tUn, tI2l, tAld, tAldR, tAlen, tIast, tBast, tZast, tAast, tIret, tZret, tVret, tAret, tIf, tIf2, tGoto, tIstore, tAstore, sset, tIinc, tDup, tDup2, tPop, tPutI, tPutZ, tPutR, tCallV, tCallS, popN, tFn, tCopy, tMax, tMin, tSw, swc, tRem, tObjI, Option.toList, List.nil_append, List.cons_append, okR, true_and, and_true, true_or, or_true, Nat.zero_le, ne_eq, not_false_eq_true, Nat.reduceEqDiff, F_X11_isNoStore, b2_z, h1, Decidable.not_not]
    refine ⟨fun c => ?_, fun c => ?_⟩
    rotate_left
    · rw [if_pos c] at h
      exact h μ hR (fun _ _ => rfl)
    rw [if_neg (not_not_intro c)] at h
    obtain ⟨s, rfl, s0, -, s5⟩ := rg_ex (lo := 0) (hi := 4) c
    have hs : s < 5 := by omega
    rw [nI_clamp s0] at h
    obtain ⟨x1, x2, x3⟩ := W_st hW hs
    have hSt := RR_st hR hs
    have hA := hSt.1
    unfold StA at hA
    have hst := hcm.1 s hs
    have hag : agR A s := (hext.1 s hs).1
    have hi5 := inb_nI hs (show (5 : Nat) < 2 ^ 31 by decide)
    have x2' := x2
    unfold StS at x2
    have cg : (0 : Int32) < A (514 * s + 7) - A (514 * s + 5) ↔ ¬ A (514 * s + 7) - A (514 * s + 5) = 0 := by
      obtain ⟨p, p1, p2, -, p3⟩ := rg_ex hst.1.2.1
      obtain ⟨q, q1, q2, -, q3⟩ := rg_ex hSt.2.1.2.2.1
      unfold agR at hag
      rw [p1, q1, nI_toInt p2, nI_toInt q2] at hag
      rw [p1, q1, pk_sub (by omega), show (0 : Int32) = nI 0 from rfl, nI_ltI (by decide) (by omega), nI_eq (by omega) (by decide)]
      omega
    simp only [w_X10_compacts_10, w_X10_compacts_41, w_X10_compacts_44, tAload, tIload, nth, tGetI, tGetR, tConst, tLconst, tBin, tUn, tI2l, tAld, tAldR, tAlen, tIast, tBast, tZast, tAast, tIret, tZret, tVret, tAret, tIf, tIf2, tGoto, tIstore, tAstore, sset, tIinc, tDup, tDup2, tPop, tPutI, tPutZ, tPutR, tCallV, tCallS, popN, tFn, tCopy, tMax, tMin, tSw, swc, tRem, tObjI, Option.toList, List.nil_append, List.cons_append, okR, true_and, and_true, true_or, or_true, Nat.zero_le, ne_eq, not_false_eq_true, Nat.reduceEqDiff, F_X7_takeSnapshot, h1, hW.2.2.2.2.1, hW.2.1, nI_clamp s0, x3, x1, x2, x2', hA, hi5, cg]
    refine ⟨by omega, fun c2 => ?_, fun c2 => ⟨fun c3 => ⟨hSt.2.1.2.1, hSt.2.1.2.2.1, hst.1.2.1, ?_⟩, fun c3 => ?_⟩⟩
    · rw [if_pos (fun z => by rw [z.1] at c2; exact absurd c2 (by decide))] at h
      exact h μ hR (fun _ _ => rfl)
    · rw [if_neg (not_not_intro ⟨hSt.2.1.1.elim (fun z => absurd z c2) id, c3⟩)] at h
      have o1 : ∀ i, (i < 514 * s + 5 ∨ (514 * s + 11 ≤ i ∧ i < 514 * s + 20) ∨ 514 * s + 24 ≤ i) → qCompact A s i = A i := by
        intro i hi
        unfold qCompact qCompact0
        simp only []
        rw [cpF_out (by omega), up_ne (by omega), up_ne (by omega), up_ne (by omega), up_ne (by omega)]
      refine h _ ⟨R0_store hs hR.1 (fun i hi => o1 i (by omega)) (fun y hy => cSnap_ne (by omega) (by omega) (by omega)) (St_snap hs hSt hag.1 hag.2), Nx_keep hR.2 (fun r i hr hi => o1 _ (by rcases Nat.lt_trichotomy r s with z | z | z <;> omega)) (fun r hr => ⟨cSnap_ne (by omega) (by omega) (by omega), cSnap_ne (by omega) (by omega) (by omega)⟩)⟩ (fun y hy => cSnap_ne (by omega) (by omega) (by omega))
    · rw [if_pos (fun z => c3 z.2)] at h
      exact h μ hR (fun _ _ => rfl)
  · exact h.elim
theorem RR_care {A : Rw} {w : Nat} {S : Sh} {μ : Mi} {ρ : Mr} {v : Int32} (h : RR A w S μ ρ) (hv : v = 0 ∨ v = 1) : RR (up A 4515 v) w S (upI μ w 5 v) ρ := by
  obtain ⟨⟨h1, h2, h3, h4, h5⟩, h6⟩ := h
  have o : ∀ i, i ≠ 4515 → up A 4515 v i = A i := fun i hi => up_ne hi
  refine ⟨⟨h1, fun s hs => ?_, ⟨?_, ?_, fun i hi => ?_⟩, ⟨fun q q1 q2 => ?_, fun r r1 r2 => ?_⟩, ?_⟩, Nx_keep h6 (fun r i hr hi => o _ (by omega)) (fun r hr => ⟨upI_ne (by omega), upI_ne (by omega)⟩)⟩
  · exact St_congr hs (h2 s hs) (fun i i1 i2 => o i (by omega)) (o _ (by omega)) (fun y y1 y2 => upI_ne (by omega))
  · rw [upI_ne (by omega)]
    simp (disch := omega) only [o]
    exact h3.1
  · simp (disch := omega) only [o]
    exact h3.2.1
  · rw [o _ (by omega)] at hi
    obtain ⟨n, e1, e2, -, e3⟩ := rg_ex h3.2.1.1
    have hi' := hi
    rw [e1, nI_clamp e2] at hi'
    obtain ⟨j, j1, j2, -⟩ := WOK_box h1 (i := i) (by omega)
    exact MsR_congr (h3.2.2 i hi) (fun k hk => o _ (by omega)) (o _ (by omega)) (upI_ne (by omega)) (upI_ne (by omega))
  · rw [upI_ne (by omega)]
    rcases h4.1 q q1 q2 with z | z
    · exact Or.inl ⟨z.1, by rw [o _ (by omega)]; exact z.2⟩
    · exact Or.inr (enR_congr z (o _ (by omega)) (o _ (by omega)) (o _ (by omega)) (o _ (by omega)))
  · rw [upI_ne (by omega), o _ (by omega)]
    exact h4.2 r r1 r2
  · unfold Wd at *
    rw [upI_k (by omega), upI_at, o _ (by omega), up_at]
    exact ⟨h5.1, rfl, hv⟩
def w_X10_takesCare_36 (M : CT) (G : Nat → PT) (Rp : RT) : PT := tPutZ 10 6 5 <| tIload 2 <| tIret Rp
def w_X10_takesCare_35 (M : CT) (G : Nat → PT) (Rp : RT) : PT := tConst 0 <| w_X10_takesCare_36 M G Rp
def w_X10_takesCare_24 (M : CT) (G : Nat → PT) (Rp : RT) : PT := tIstore 2 <| tAload 0 <| tIload 1 <| tConst 1 <| tIf2 (fun x y => x ≠ y) (w_X10_takesCare_35 M G Rp) <| tConst 1 <| tGoto (w_X10_takesCare_36 M G Rp)
def w_X10_takesCare_23 (M : CT) (G : Nat → PT) (Rp : RT) : PT := tConst 0 <| w_X10_takesCare_24 M G Rp
def w_X10_takesCare_12 (M : CT) (G : Nat → PT) (Rp : RT) : PT := tAload 0 <| tGetI 10 6 5 <| tIf (fun x => x = 0) (w_X10_takesCare_23 M G Rp) <| tConst 1 <| tGoto (w_X10_takesCare_24 M G Rp)
def w_X10_takesCare_9 (M : CT) (G : Nat → PT) (Rp : RT) : PT := tConst (-3) <| tIret Rp
def w_X10_takesCare_0 (M : CT) (G : Nat → PT) (Rp : RT) : PT := tIload 1 <| tIf (fun x => x < 0) (w_X10_takesCare_9 M G Rp) <| tIload 1 <| tConst 1 <| tIf2 (fun x y => x ≤ y) (w_X10_takesCare_12 M G Rp) <| w_X10_takesCare_9 M G Rp
set_option maxRecDepth 20000 in
theorem b_X10_takesCare_36 {Z : Zt} {d : Nat} {p : Program} {e : Env} {R : Room} {s : State} {m : MethodId} {args : Array Value} {below : List Frame} {meth : Method} {c : Code} {Rp : RT} (C : Cx Z d jX10_takesCare RX10 p R s m args meth c) : Sd Z jX10_takesCare p e R s m args below meth c (MQ below (QcS Z Rp) args s 0 0 (fun a => Z.2.2.1 < a)) 36 (w_X10_takesCare_36 (MS Z d) (Gw Z 3 p e R s m args below meth c (MQ below (QcS Z Rp) args s 0 0 (fun a => Z.2.2.1 < a))) Rp) := by
  unfold w_X10_takesCare_36
  refine s_putZ C w_2_128 (by decide +kernel) rfl (Or.inl rfl) ?_
  refine s_iload_n (k := 2) C (by decide +kernel) ?_
  exact s_iret C rfl (by decide +kernel)
set_option maxRecDepth 20000 in
theorem b_X10_takesCare_35 {Z : Zt} {d : Nat} {p : Program} {e : Env} {R : Room} {s : State} {m : MethodId} {args : Array Value} {below : List Frame} {meth : Method} {c : Code} {Rp : RT} (C : Cx Z d jX10_takesCare RX10 p R s m args meth c) : Sd Z jX10_takesCare p e R s m args below meth c (MQ below (QcS Z Rp) args s 0 0 (fun a => Z.2.2.1 < a)) 35 (w_X10_takesCare_35 (MS Z d) (Gw Z 3 p e R s m args below meth c (MQ below (QcS Z Rp) args s 0 0 (fun a => Z.2.2.1 < a))) Rp) := by
  unfold w_X10_takesCare_35
  refine s_iconst (n := 0) C (by decide +kernel) (by decide) ?_
  exact (b_X10_takesCare_36 C)
set_option maxRecDepth 20000 in
theorem b_X10_takesCare_24 {Z : Zt} {d : Nat} {p : Program} {e : Env} {R : Room} {s : State} {m : MethodId} {args : Array Value} {below : List Frame} {meth : Method} {c : Code} {Rp : RT} (C : Cx Z d jX10_takesCare RX10 p R s m args meth c) : Sd Z jX10_takesCare p e R s m args below meth c (MQ below (QcS Z Rp) args s 0 0 (fun a => Z.2.2.1 < a)) 24 (w_X10_takesCare_24 (MS Z d) (Gw Z 3 p e R s m args below meth c (MQ below (QcS Z Rp) args s 0 0 (fun a => Z.2.2.1 < a))) Rp) := by
  unfold w_X10_takesCare_24
  refine s_istore_n (k := 2) C (by decide +kernel) ?_
  refine s_aload_n (k := 0) C (by decide +kernel) ?_
  refine s_iload_n (k := 1) C (by decide +kernel) ?_
  refine s_iconst (n := 1) C (by decide +kernel) (by decide) ?_
  refine s_icmp_ne (off := 7) (tgt := 35) C (by decide +kernel) (by decide) (b_X10_takesCare_35 C) ?_
  refine s_iconst (n := 1) C (by decide +kernel) (by decide) ?_
  exact s_goto (off := 4) (tgt := 36) C (by decide +kernel) (by decide) (b_X10_takesCare_36 C)
set_option maxRecDepth 20000 in
theorem b_X10_takesCare_23 {Z : Zt} {d : Nat} {p : Program} {e : Env} {R : Room} {s : State} {m : MethodId} {args : Array Value} {below : List Frame} {meth : Method} {c : Code} {Rp : RT} (C : Cx Z d jX10_takesCare RX10 p R s m args meth c) : Sd Z jX10_takesCare p e R s m args below meth c (MQ below (QcS Z Rp) args s 0 0 (fun a => Z.2.2.1 < a)) 23 (w_X10_takesCare_23 (MS Z d) (Gw Z 3 p e R s m args below meth c (MQ below (QcS Z Rp) args s 0 0 (fun a => Z.2.2.1 < a))) Rp) := by
  unfold w_X10_takesCare_23
  refine s_iconst (n := 0) C (by decide +kernel) (by decide) ?_
  exact (b_X10_takesCare_24 C)
set_option maxRecDepth 20000 in
theorem b_X10_takesCare_12 {Z : Zt} {d : Nat} {p : Program} {e : Env} {R : Room} {s : State} {m : MethodId} {args : Array Value} {below : List Frame} {meth : Method} {c : Code} {Rp : RT} (C : Cx Z d jX10_takesCare RX10 p R s m args meth c) : Sd Z jX10_takesCare p e R s m args below meth c (MQ below (QcS Z Rp) args s 0 0 (fun a => Z.2.2.1 < a)) 12 (w_X10_takesCare_12 (MS Z d) (Gw Z 3 p e R s m args below meth c (MQ below (QcS Z Rp) args s 0 0 (fun a => Z.2.2.1 < a))) Rp) := by
  unfold w_X10_takesCare_12
  refine s_aload_n (k := 0) C (by decide +kernel) ?_
  refine s_getI C w_2_128 (by decide +kernel) rfl ?_
  refine s_if_eq (off := 7) (tgt := 23) C (by decide +kernel) (by decide) (b_X10_takesCare_23 C) ?_
  refine s_iconst (n := 1) C (by decide +kernel) (by decide) ?_
  exact s_goto (off := 4) (tgt := 24) C (by decide +kernel) (by decide) (b_X10_takesCare_24 C)
set_option maxRecDepth 20000 in
theorem b_X10_takesCare_9 {Z : Zt} {d : Nat} {p : Program} {e : Env} {R : Room} {s : State} {m : MethodId} {args : Array Value} {below : List Frame} {meth : Method} {c : Code} {Rp : RT} (C : Cx Z d jX10_takesCare RX10 p R s m args meth c) : Sd Z jX10_takesCare p e R s m args below meth c (MQ below (QcS Z Rp) args s 0 0 (fun a => Z.2.2.1 < a)) 9 (w_X10_takesCare_9 (MS Z d) (Gw Z 3 p e R s m args below meth c (MQ below (QcS Z Rp) args s 0 0 (fun a => Z.2.2.1 < a))) Rp) := by
  unfold w_X10_takesCare_9
  refine s_bipush (n := (-3)) C (by decide +kernel) (by decide) ?_
  exact s_iret C rfl (by decide +kernel)
set_option maxRecDepth 20000 in
theorem b_X10_takesCare_0 {Z : Zt} {d : Nat} {p : Program} {e : Env} {R : Room} {s : State} {m : MethodId} {args : Array Value} {below : List Frame} {meth : Method} {c : Code} {Rp : RT} (C : Cx Z d jX10_takesCare RX10 p R s m args meth c) : Sd Z jX10_takesCare p e R s m args below meth c (MQ below (QcS Z Rp) args s 0 0 (fun a => Z.2.2.1 < a)) 0 (w_X10_takesCare_0 (MS Z d) (Gw Z 3 p e R s m args below meth c (MQ below (QcS Z Rp) args s 0 0 (fun a => Z.2.2.1 < a))) Rp) := by
  unfold w_X10_takesCare_0
  refine s_iload_n (k := 1) C (by decide +kernel) ?_
  refine s_if_lt (off := 8) (tgt := 9) C (by decide +kernel) (by decide) (b_X10_takesCare_9 C) ?_
  refine s_iload_n (k := 1) C (by decide +kernel) ?_
  refine s_iconst (n := 1) C (by decide +kernel) (by decide) ?_
  refine s_icmp_le (off := 6) (tgt := 12) C (by decide +kernel) (by decide) (b_X10_takesCare_12 C) ?_
  exact (b_X10_takesCare_9 C)
theorem ms_X10_takesCare {Z : Zt} {d : Nat} {S : Sh} {μ : Mi} {ρ : Mr} {Rp : RT} (a0 : Nat) (x1 : Int32) (h : ∀ G : Nat → PT, w_X10_takesCare_0 (MS Z d) G Rp [.ref a0, .int x1, .null] [] S (0, 0) μ ρ) : MS Z (d + 1) jX10_takesCare [.ref a0, .int x1] S μ ρ Rp :=
  MS_of [.ref a0, .int x1, .null] (by decide +kernel) rfl rfl (Nat.le_of_ble_eq_true rfl) rfl (fun p e R s m args below meth c C => b_X10_takesCare_0 C _ _ _ _ _ _ (h _ ))
def F_X10_takesCare : FT := fun As S μ ρ k => match As with
  | [.ref a, .int n] => S.2 a = (10, 6) ∧ ∃ (A : Rw), RR A a S μ ρ ∧ Gd A ∧ ∀ μ', RR (aCareful A n).2 a S μ' ρ → Ot a μ μ' → k (some (.int (aCareful A n).1)) μ'
  | _ => False
theorem r_X10_takesCare {As S μ ρ k} (h : F_X10_takesCare As S μ ρ k) : ∃ a As', As = Value.ref a :: As' ∧ S.2 a = (10, 6) := by
  unfold F_X10_takesCare at h
  split at h
  · exact ⟨_, _, rfl, h.1⟩
  · exact h.elim
set_option maxHeartbeats 1000000 in
theorem f_X10_takesCare {Z : Zt} {d : Nat} {As : List Value} {S : Sh} {μ : Mi} {ρ : Mr} {Rp : RT} (h : F_X10_takesCare As S μ ρ (fun r μ' => Rp r S μ' ρ)) : MS Z (d + 1) jX10_takesCare As S μ ρ Rp := by
  unfold F_X10_takesCare at h
  split at h
  · rename_i a n
    obtain ⟨a, hNa⟩ : ∃ n : Nat, n = a := ⟨a, rfl⟩
    subst hNa
    obtain ⟨h1, A, hR, hG, h⟩ := h
    refine ms_X10_takesCare _ _ (fun G => ?_)
    have hW := RR_W hR
    have hcm := good_cm (Gd_good hG)
    have hext := Gd_ext hG
    unfold aCareful at h
    have e := rg_05 (x := n) (lo := 0) (hi := 1) (l := 0) (h := 1) (by decide) (by decide)
    have e5 : μ a 5 = A 4515 := hR.1.2.2.2.2.2.1
    have e01 := hR.1.2.2.2.2.2.2
    have fin : rgd n 0 1 → ∀ v : Int32, v = n → Rp (some (.int (A 4515))) S (upI μ a 5 v) ρ := by
      intro c v hv
      rw [if_neg (not_not_intro c)] at h
      subst hv
      obtain ⟨m, m1, m2, -, m3⟩ := rg_ex (lo := 0) (hi := 1) c
      refine h _ (RR_care hR ?_) (fun y hy => upI_ne (by omega))
      rw [m1]
      rcases (by omega : m = 0 ∨ m = 1) with z | z <;> subst z
      · exact Or.inl rfl
      · exact Or.inr rfl
    simp only [w_X10_takesCare_0, w_X10_takesCare_9, w_X10_takesCare_12, w_X10_takesCare_23, w_X10_takesCare_24, w_X10_takesCare_35, w_X10_takesCare_36, tAload, tIload, nth, tGetI, tGetR, tConst, tLconst, tBin, tUn, tI2l, tAld, tAldR, tAlen, tIast, tBast, tZast, tAast, tIret, tZret, tVret, tAret, tIf, tIf2, tGoto, tIstore, tAstore, sset, tIinc, tDup, tDup2, tPop, tPutI, tPutZ, tPutR, tCallV, tCallS, popN, tFn, tCopy, tMax, tMin, tSw, swc, tRem, tObjI, Option.toList, List.nil_append, List.cons_append, okR, true_and, and_true, true_or, or_true, Nat.zero_le, ne_eq, not_false_eq_true, Nat.reduceEqDiff, h1, e5, Decidable.not_not]
    refine ⟨fun c => ?_, fun c => ⟨fun c2 => ?_, fun c2 => ?_⟩⟩
    · rw [if_pos (fun z => (e.mpr z).1 c)] at h
      exact h μ hR (fun _ _ => rfl)
    · have c3 := e.mp ⟨c, c2⟩
      have n01 : n = 0 ∨ n = 1 := by
        obtain ⟨m, m1, m2, -, m3⟩ := rg_ex (lo := 0) (hi := 1) c3
        rw [m1]
        rcases (by omega : m = 0 ∨ m = 1) with z | z <;> subst z
        · exact Or.inl rfl
        · exact Or.inr rfl
      have f := fin c3
      refine ⟨fun c4 => ⟨fun c5 => ?_, fun c5 => ?_⟩, fun c4 => ⟨fun c5 => ?_, fun c5 => ?_⟩⟩
      · rw [c4] at f
        exact f 0 (n01.elim (fun z => z.symm) (fun z => absurd z c5))
      · rw [c4] at f
        exact f 1 c5.symm
      · rw [e01.elim (fun z => absurd z c4) id] at f
        exact f 0 (n01.elim (fun z => z.symm) (fun z => absurd z c5))
      · rw [e01.elim (fun z => absurd z c4) id] at f
        exact f 1 c5.symm
    · rw [if_pos (fun z => c2 (e.mpr z).2)] at h
      exact h μ hR (fun _ _ => rfl)
  · exact h.elim
def w_X10_hands_64 (M : CT) (G : Nat → PT) (Rp : RT) : PT := tAload 0 <| tGetR 10 6 1 <| tIload 1 <| tIload 2 <| tConst 6 <| tAload 3 <| tGetI 7 18 2 <| tFn 5 F_X1_post <| tPop <| tAload 0 <| tGetR 10 6 1 <| tGetI 1 6 2 <| tIret Rp
def w_X10_hands_61 (M : CT) (G : Nat → PT) (Rp : RT) : PT := tConst (-5) <| tIret Rp
def w_X10_hands_25 (M : CT) (G : Nat → PT) (Rp : RT) : PT := tAload 0 <| tGetR 10 6 0 <| tIload 1 <| tAldR 37 <| tAstore 3 <| tAload 0 <| tIload 1 <| tFn 2 F_X10_isNoLeader <| tIf (fun x => x ≠ 0) (w_X10_hands_61 M G Rp) <| tAload 3 <| tIload 2 <| tFn 2 F_X7_isMember <| tIf (fun x => x = 0) (w_X10_hands_61 M G Rp) <| tAload 3 <| tGetR 7 18 15 <| tIload 2 <| tAld 20 <| tAload 3 <| tGetI 7 18 7 <| tIf2 (fun x y => x = y) (w_X10_hands_64 M G Rp) <| w_X10_hands_61 M G Rp
def w_X10_hands_17 (M : CT) (G : Nat → PT) (Rp : RT) : PT := tIload 1 <| tIload 2 <| tIf2 (fun x y => x ≠ y) (w_X10_hands_25 M G Rp) <| tConst (-3) <| tIret Rp
def w_X10_hands_14 (M : CT) (G : Nat → PT) (Rp : RT) : PT := tConst (-2) <| tIret Rp
def w_X10_hands_0 (M : CT) (G : Nat → PT) (Rp : RT) : PT := tIload 1 <| tFn 1 F_X11_isNoStore <| tIf (fun x => x ≠ 0) (w_X10_hands_14 M G Rp) <| tIload 2 <| tFn 1 F_X11_isNoStore <| tIf (fun x => x = 0) (w_X10_hands_17 M G Rp) <| w_X10_hands_14 M G Rp
set_option maxRecDepth 20000 in
theorem b_X10_hands_64 {Z : Zt} {d : Nat} {p : Program} {e : Env} {R : Room} {s : State} {m : MethodId} {args : Array Value} {below : List Frame} {meth : Method} {c : Code} {Rp : RT} (C : Cx Z (d + 1) jX10_hands RX10 p R s m args meth c) : Sd Z jX10_hands p e R s m args below meth c (MQ below (QcS Z Rp) args s 0 0 (fun a => Z.2.2.1 < a)) 64 (w_X10_hands_64 (MS Z (d + 1)) (Gw Z 4 p e R s m args below meth c (MQ below (QcS Z Rp) args s 0 0 (fun a => Z.2.2.1 < a))) Rp) := by
  unfold w_X10_hands_64
  refine s_aload_n (k := 0) C (by decide +kernel) ?_
  refine s_getR C w_2_117 (by decide +kernel) rfl ?_
  refine s_iload_n (k := 1) C (by decide +kernel) ?_
  refine s_iload_n (k := 2) C (by decide +kernel) ?_
  refine s_bipush (n := 6) C (by decide +kernel) (by decide) ?_
  refine s_aload_n (k := 3) C (by decide +kernel) ?_
  refine s_getI C w_1_227 (by decide +kernel) rfl ?_
  refine s_fnV C (j2 := jX1_post) (cl := 1) (nf := 6) rfl rfl (by decide +kernel) rfl w_3_125 w_3_126 w_3_127 w_1_3 w_3_128 (by decide +kernel) (fun _ _ _ _ _ h => f_X1_post h) (fun _ _ _ _ _ h => r_X1_post h) ?_
  refine s_pop C (by decide +kernel) ?_
  refine s_aload_n (k := 0) C (by decide +kernel) ?_
  refine s_getR C w_2_117 (by decide +kernel) rfl ?_
  refine s_getI C w_1_126 (by decide +kernel) rfl ?_
  exact s_iret C rfl (by decide +kernel)
set_option maxRecDepth 20000 in
theorem b_X10_hands_61 {Z : Zt} {d : Nat} {p : Program} {e : Env} {R : Room} {s : State} {m : MethodId} {args : Array Value} {below : List Frame} {meth : Method} {c : Code} {Rp : RT} (C : Cx Z (d + 1) jX10_hands RX10 p R s m args meth c) : Sd Z jX10_hands p e R s m args below meth c (MQ below (QcS Z Rp) args s 0 0 (fun a => Z.2.2.1 < a)) 61 (w_X10_hands_61 (MS Z (d + 1)) (Gw Z 4 p e R s m args below meth c (MQ below (QcS Z Rp) args s 0 0 (fun a => Z.2.2.1 < a))) Rp) := by
  unfold w_X10_hands_61
  refine s_bipush (n := (-5)) C (by decide +kernel) (by decide) ?_
  exact s_iret C rfl (by decide +kernel)
set_option maxRecDepth 20000 in
theorem b_X10_hands_25 {Z : Zt} {d : Nat} {p : Program} {e : Env} {R : Room} {s : State} {m : MethodId} {args : Array Value} {below : List Frame} {meth : Method} {c : Code} {Rp : RT} (C : Cx Z (d + 1) jX10_hands RX10 p R s m args meth c) : Sd Z jX10_hands p e R s m args below meth c (MQ below (QcS Z Rp) args s 0 0 (fun a => Z.2.2.1 < a)) 25 (w_X10_hands_25 (MS Z (d + 1)) (Gw Z 4 p e R s m args below meth c (MQ below (QcS Z Rp) args s 0 0 (fun a => Z.2.2.1 < a))) Rp) := by
  unfold w_X10_hands_25
  refine s_aload_n (k := 0) C (by decide +kernel) ?_
  refine s_getR C w_2_113 (by decide +kernel) rfl ?_
  refine s_iload_n (k := 1) C (by decide +kernel) ?_
  refine s_aald C rfl (by decide +kernel) ?_
  refine s_astore_n (k := 3) C (by decide +kernel) ?_
  refine s_aload_n (k := 0) C (by decide +kernel) ?_
  refine s_iload_n (k := 1) C (by decide +kernel) ?_
  refine s_fnV C (j2 := jX10_isNoLeader) (cl := 10) (nf := 6) rfl rfl (by decide +kernel) rfl w_3_198 w_3_200 w_p1_11 w_1_2 w_3_201 (by decide +kernel) (fun _ _ _ _ _ h => f_X10_isNoLeader h) (fun _ _ _ _ _ h => r_X10_isNoLeader h) ?_
  refine s_if_ne (off := 24) (tgt := 61) C (by decide +kernel) (by decide) (b_X10_hands_61 C) ?_
  refine s_aload_n (k := 3) C (by decide +kernel) ?_
  refine s_iload_n (k := 2) C (by decide +kernel) ?_
  refine s_fnV C (j2 := jX7_isMember) (cl := 7) (nf := 18) rfl rfl (by decide +kernel) rfl w_3_109 w_3_110 w_3_111 w_1_5 w_3_112 (by decide +kernel) (fun _ _ _ _ _ h => f_X7_isMember h) (fun _ _ _ _ _ h => r_X7_isMember h) ?_
  refine s_if_eq (off := 16) (tgt := 61) C (by decide +kernel) (by decide) (b_X10_hands_61 C) ?_
  refine s_aload_n (k := 3) C (by decide +kernel) ?_
  refine s_getR C w_2_30 (by decide +kernel) rfl ?_
  refine s_iload_n (k := 2) C (by decide +kernel) ?_
  refine s_iald C (by decide +kernel) ?_
  refine s_aload_n (k := 3) C (by decide +kernel) ?_
  refine s_getI C w_2_5 (by decide +kernel) rfl ?_
  refine s_icmp_eq (off := 6) (tgt := 64) C (by decide +kernel) (by decide) (b_X10_hands_64 C) ?_
  exact (b_X10_hands_61 C)
set_option maxRecDepth 20000 in
theorem b_X10_hands_17 {Z : Zt} {d : Nat} {p : Program} {e : Env} {R : Room} {s : State} {m : MethodId} {args : Array Value} {below : List Frame} {meth : Method} {c : Code} {Rp : RT} (C : Cx Z (d + 1) jX10_hands RX10 p R s m args meth c) : Sd Z jX10_hands p e R s m args below meth c (MQ below (QcS Z Rp) args s 0 0 (fun a => Z.2.2.1 < a)) 17 (w_X10_hands_17 (MS Z (d + 1)) (Gw Z 4 p e R s m args below meth c (MQ below (QcS Z Rp) args s 0 0 (fun a => Z.2.2.1 < a))) Rp) := by
  unfold w_X10_hands_17
  refine s_iload_n (k := 1) C (by decide +kernel) ?_
  refine s_iload_n (k := 2) C (by decide +kernel) ?_
  refine s_icmp_ne (off := 6) (tgt := 25) C (by decide +kernel) (by decide) (b_X10_hands_25 C) ?_
  refine s_bipush (n := (-3)) C (by decide +kernel) (by decide) ?_
  exact s_iret C rfl (by decide +kernel)
set_option maxRecDepth 20000 in
theorem b_X10_hands_14 {Z : Zt} {d : Nat} {p : Program} {e : Env} {R : Room} {s : State} {m : MethodId} {args : Array Value} {below : List Frame} {meth : Method} {c : Code} {Rp : RT} (C : Cx Z (d + 1) jX10_hands RX10 p R s m args meth c) : Sd Z jX10_hands p e R s m args below meth c (MQ below (QcS Z Rp) args s 0 0 (fun a => Z.2.2.1 < a)) 14 (w_X10_hands_14 (MS Z (d + 1)) (Gw Z 4 p e R s m args below meth c (MQ below (QcS Z Rp) args s 0 0 (fun a => Z.2.2.1 < a))) Rp) := by
  unfold w_X10_hands_14
  refine s_bipush (n := (-2)) C (by decide +kernel) (by decide) ?_
  exact s_iret C rfl (by decide +kernel)
set_option maxRecDepth 20000 in
theorem b_X10_hands_0 {Z : Zt} {d : Nat} {p : Program} {e : Env} {R : Room} {s : State} {m : MethodId} {args : Array Value} {below : List Frame} {meth : Method} {c : Code} {Rp : RT} (C : Cx Z (d + 1) jX10_hands RX10 p R s m args meth c) : Sd Z jX10_hands p e R s m args below meth c (MQ below (QcS Z Rp) args s 0 0 (fun a => Z.2.2.1 < a)) 0 (w_X10_hands_0 (MS Z (d + 1)) (Gw Z 4 p e R s m args below meth c (MQ below (QcS Z Rp) args s 0 0 (fun a => Z.2.2.1 < a))) Rp) := by
  unfold w_X10_hands_0
  refine s_iload_n (k := 1) C (by decide +kernel) ?_
  refine s_fnSN C (j2 := jX11_isNoStore) (by decide +kernel) rfl w_3_102 w_3_103 w_1_1 w_3_104 (by decide +kernel) (fun _ _ _ _ _ h => f_X11_isNoStore h) ?_
  refine s_if_ne (off := 10) (tgt := 14) C (by decide +kernel) (by decide) (b_X10_hands_14 C) ?_
  refine s_iload_n (k := 2) C (by decide +kernel) ?_
  refine s_fnSN C (j2 := jX11_isNoStore) (by decide +kernel) rfl w_3_102 w_3_103 w_1_1 w_3_104 (by decide +kernel) (fun _ _ _ _ _ h => f_X11_isNoStore h) ?_
  refine s_if_eq (off := 6) (tgt := 17) C (by decide +kernel) (by decide) (b_X10_hands_17 C) ?_
  exact (b_X10_hands_14 C)
theorem ms_X10_hands {Z : Zt} {d : Nat} {S : Sh} {μ : Mi} {ρ : Mr} {Rp : RT} (a0 : Nat) (x1 : Int32) (x2 : Int32) (h : ∀ G : Nat → PT, w_X10_hands_0 (MS Z (d + 1)) G Rp [.ref a0, .int x1, .int x2, .null] [] S (0, 0) μ ρ) : MS Z (d + 2) jX10_hands [.ref a0, .int x1, .int x2] S μ ρ Rp :=
  MS_of [.ref a0, .int x1, .int x2, .null] (by decide +kernel) rfl rfl (Nat.le_of_ble_eq_true rfl) rfl (fun p e R s m args below meth c C => b_X10_hands_0 C _ _ _ _ _ _ (h _ ))
def F_X10_hands : FT := fun As S μ ρ k => match As with
  | [.ref a, .int n, .int m] => S.2 a = (10, 6) ∧ ∃ (A : Rw), RR A a S μ ρ ∧ Gd A ∧ ∀ μ', RR (aHand A n m).2 a S μ' ρ → Ot a μ μ' → k (some (.int (aHand A n m).1)) μ'
  | _ => False
theorem r_X10_hands {As S μ ρ k} (h : F_X10_hands As S μ ρ k) : ∃ a As', As = Value.ref a :: As' ∧ S.2 a = (10, 6) := by
  unfold F_X10_hands at h
  split at h
  · exact ⟨_, _, rfl, h.1⟩
  · exact h.elim
set_option maxHeartbeats 1000000 in
theorem f_X10_hands {Z : Zt} {d : Nat} {As : List Value} {S : Sh} {μ : Mi} {ρ : Mr} {Rp : RT} (h : F_X10_hands As S μ ρ (fun r μ' => Rp r S μ' ρ)) : MS Z (d + 2) jX10_hands As S μ ρ Rp := by
  unfold F_X10_hands at h
  split at h
  · rename_i a n m
    obtain ⟨a, hNa⟩ : ∃ n : Nat, n = a := ⟨a, rfl⟩
    subst hNa
    obtain ⟨h1, A, hR, hG, h⟩ := h
    refine ms_X10_hands _ _ _ (fun G => ?_)
    have hW := RR_W hR
    have hcm := good_cm (Gd_good hG)
    have hext := Gd_ext hG
    unfold aHand at h
    have bad : ¬ (rgd n 0 4 ∧ rgd m 0 4) → Rp (some (.int (-2))) S μ ρ := by
      intro c
      rw [if_pos c] at h
      exact h μ hR (fun _ _ => rfl)
    simp only [w_X10_hands_0, w_X10_hands_14, w_X10_hands_17, tAload, tIload, nth, tGetI, tGetR, tConst, tLconst, tBin, tUn, tI2l, tAld, tAldR, tAlen, tIast, tBast, tZast, tAast, tIret, tZret, tVret, tAret, tIf, tIf2, tGoto, tIstore, tAstore, sset, tIinc, tDup, tDup2, tPop, tPutI, tPutZ, tPutR, tCallV, tCallS, popN, tFn, tCopy, tMax, tMin, tSw, swc, tRem, tObjI, Option.toList, List.nil_append, List.cons_append, okR, true_and, and_true, true_or, or_true, Nat.zero_le, ne_eq, not_false_eq_true, Nat.reduceEqDiff, F_X11_isNoStore, b2_z, h1, Decidable.not_not]
    refine ⟨fun c => bad (fun z => c z.1), fun c => ⟨fun cm => ?_, fun cm => bad (fun z => cm z.2)⟩⟩
    rw [if_neg (not_not_intro ⟨c, cm⟩)] at h
    refine ⟨fun ce => ?_, fun ce => ?_⟩
    rotate_left
    · rw [if_pos ce] at h
      exact h μ hR (fun _ _ => rfl)
    rw [if_neg ce] at h
    obtain ⟨s, rfl, s0, -, s5⟩ := rg_ex (lo := 0) (hi := 4) c
    have hs : s < 5 := by omega
    rw [nI_clamp s0] at h
    obtain ⟨x1, x2, x3⟩ := W_st hW hs
    have hSt := RR_st hR hs
    have hA := hSt.1
    unfold StA at hA
    have hst := hcm.1 s hs
    have hag : agR A s := (hext.1 s hs).1
    have hi5 := inb_nI hs (show (5 : Nat) < 2 ^ 31 by decide)
    have x2' := x2
    unfold StS at x2
    obtain ⟨r, rfl, r0, -, r5⟩ := rg_ex (lo := 0) (hi := 4) cm
    have hr : r < 5 := by omega
    rw [nI_clamp r0] at h
    have hsr : ¬ s = r := fun z => ce (by rw [z])
    have hir := inb_nI hr (show (5 : Nat) < 2 ^ 31 by decide)
    have bad2 : ¬ canHand A s r → Rp (some (.int (-5))) S μ ρ := by
      intro c
      rw [if_pos c] at h
      exact h μ hR (fun _ _ => rfl)
    simp only [w_X10_hands_25, w_X10_hands_61, tAload, tIload, nth, tGetI, tGetR, tConst, tLconst, tBin, tUn, tI2l, tAld, tAldR, tAlen, tIast, tBast, tZast, tAast, tIret, tZret, tVret, tAret, tIf, tIf2, tGoto, tIstore, tAstore, sset, tIinc, tDup, tDup2, tPop, tPutI, tPutZ, tPutR, tCallV, tCallS, popN, tFn, tCopy, tMax, tMin, tSw, swc, tRem, tObjI, Option.toList, List.nil_append, List.cons_append, okR, true_and, and_true, true_or, or_true, Nat.zero_le, ne_eq, not_false_eq_true, Nat.reduceEqDiff, F_X10_isNoLeader, F_X7_isMember, b2_z, h1, hW.2.2.2.2.1, hW.2.1, nI_clamp s0, nI_clamp r0, x3, x1, x2, hA, hi5, hir, hSt.2.2.2.2.2.1, hSt.2.2.2.2.2.2, Decidable.not_not]
    refine ⟨by omega, s, A, hR, rfl, hs, fun c2 => bad2 (fun z => c2 z.1), fun c2 => ⟨fun c3 => bad2 (fun z => c3 z.2.1), fun c3 => ?_⟩⟩
    have hN := hR.2 s hs c2 r hr
    rw [hN.2]
    refine ⟨fun c4 => ?_, fun c4 => bad2 (fun z => c4 z.2.2)⟩
    rw [if_neg (not_not_intro ⟨c2, c3, c4⟩)] at h
    simp only [w_X10_hands_64, tAload, tIload, nth, tGetI, tGetR, tConst, tLconst, tBin, tUn, tI2l, tAld, tAldR, tAlen, tIast, tBast, tZast, tAast, tIret, tZret, tVret, tAret, tIf, tIf2, tGoto, tIstore, tAstore, sset, tIinc, tDup, tDup2, tPop, tPutI, tPutZ, tPutR, tCallV, tCallS, popN, tFn, tCopy, tMax, tMin, tSw, swc, tRem, tObjI, Option.toList, List.nil_append, List.cons_append, okR, true_and, and_true, true_or, or_true, Nat.zero_le, ne_eq, not_false_eq_true, Nat.reduceEqDiff, F_X1_post, h1, hW.2.2.2.2.1, hW.2.1, x1, hA]
    refine ⟨a, s, r, A, rfl, hR.1, rfl, rfl, hs, hr, hsr, fun q' μ1 p1 p2 p3 => ?_⟩
    have r2 := RR_sent (μ' := μ1) hR hs hr hsr p1 p2 (fun y y1 y2 => rfl) (MsR_S (f := nI s) (t := nI r) (tm := A (514 * s + 1)) (kd := 6) (x := 0) (y := 0) (rd := 0) (by simp (disch := omega) only [p3, and_self]) ((rg_nI (by omega)).mpr ⟨by omega, by omega⟩) ((rg_nI (by omega)).mpr ⟨by omega, by omega⟩) (by rw [nI_eq (by omega) (by omega)]; exact hsr) (by decide))
    rw [r2.1.1.2.2.1.1.1]
    exact h μ1 r2.1 (Fm_Ot r2.2)
  · exact h.elim
