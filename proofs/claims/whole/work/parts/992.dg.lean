/-! ===== the class: what is proposed, changed, read ===== -/
theorem fnK_st {A : Rw} {s : Nat} (h1 : stOK A s) (h2 : ext2 A) (hs : s < 5) (hr : A (514 * s + 3) = 2) : fnK A s := ⟨hr, h1.1, (h2.1 s hs).1, (h2.1 s hs).2.1 hr, h1.2.2.1.2⟩
def w_X10_proposes_57 (M : CT) (G : Nat → PT) (Rp : RT) : PT := tAload 0 <| tAload 0 <| tGetR 10 6 0 <| tIload 1 <| tAldR 37 <| tIload 2 <| tIload 3 <| tIload 4 <| tFn 5 F_X10_putEntry <| tIret Rp
def w_X10_proposes_46 (M : CT) (G : Nat → PT) (Rp : RT) : PT := tAload 0 <| tIload 1 <| tFn 2 F_X10_isNoLeader <| tIf (fun x => x = 0) (w_X10_proposes_57 M G Rp) <| tConst (-5) <| tIret Rp
def w_X10_proposes_43 (M : CT) (G : Nat → PT) (Rp : RT) : PT := tConst (-3) <| tIret Rp
def w_X10_proposes_27 (M : CT) (G : Nat → PT) (Rp : RT) : PT := tIload 4 <| tConst (-999) <| tIf2 (fun x y => x < y) (w_X10_proposes_43 M G Rp) <| tIload 4 <| tConst 999 <| tIf2 (fun x y => x ≤ y) (w_X10_proposes_46 M G Rp) <| w_X10_proposes_43 M G Rp
def w_X10_proposes_24 (M : CT) (G : Nat → PT) (Rp : RT) : PT := tConst (-2) <| tIret Rp
def w_X10_proposes_0 (M : CT) (G : Nat → PT) (Rp : RT) : PT := tIload 1 <| tFn 1 F_X11_isNoStore <| tIf (fun x => x ≠ 0) (w_X10_proposes_24 M G Rp) <| tIload 2 <| tConst 1 <| tIf2 (fun x y => x < y) (w_X10_proposes_24 M G Rp) <| tIload 2 <| tConst 2 <| tIf2 (fun x y => y < x) (w_X10_proposes_24 M G Rp) <| tIload 3 <| tFn 1 F_X11_isNoCell <| tIf (fun x => x = 0) (w_X10_proposes_27 M G Rp) <| w_X10_proposes_24 M G Rp
set_option maxRecDepth 20000 in
theorem b_X10_proposes_57 {Z : Zt} {d : Nat} {p : Program} {e : Env} {R : Room} {s : State} {m : MethodId} {args : Array Value} {below : List Frame} {meth : Method} {c : Code} {Rp : RT} (C : Cx Z (d + 5) jX10_proposes RX10 p R s m args meth c) : Sd Z jX10_proposes p e R s m args below meth c (MQ below (QcS Z Rp) args s 0 0 (fun a => Z.2.2.1 < a)) 57 (w_X10_proposes_57 (MS Z (d + 5)) (Gw Z 5 p e R s m args below meth c (MQ below (QcS Z Rp) args s 0 0 (fun a => Z.2.2.1 < a))) Rp) := by
  unfold w_X10_proposes_57
  refine s_aload_n (k := 0) C (by decide +kernel) ?_
  refine s_aload_n (k := 0) C (by decide +kernel) ?_
  refine s_getR C w_2_113 (by decide +kernel) rfl ?_
  refine s_iload_n (k := 1) C (by decide +kernel) ?_
  refine s_aald C rfl (by decide +kernel) ?_
  refine s_iload_n (k := 2) C (by decide +kernel) ?_
  refine s_iload_n (k := 3) C (by decide +kernel) ?_
  refine s_iload (k := 4) C (by decide +kernel) ?_
  refine s_fnV C (j2 := jX10_putEntry) (cl := 10) (nf := 6) rfl rfl (by decide +kernel) rfl w_3_213 w_3_215 w_p1_12 w_1_2 w_3_216 (by decide +kernel) (fun _ _ _ _ _ h => f_X10_putEntry h) (fun _ _ _ _ _ h => r_X10_putEntry h) ?_
  exact s_iret C rfl (by decide +kernel)
set_option maxRecDepth 20000 in
theorem b_X10_proposes_46 {Z : Zt} {d : Nat} {p : Program} {e : Env} {R : Room} {s : State} {m : MethodId} {args : Array Value} {below : List Frame} {meth : Method} {c : Code} {Rp : RT} (C : Cx Z (d + 5) jX10_proposes RX10 p R s m args meth c) : Sd Z jX10_proposes p e R s m args below meth c (MQ below (QcS Z Rp) args s 0 0 (fun a => Z.2.2.1 < a)) 46 (w_X10_proposes_46 (MS Z (d + 5)) (Gw Z 5 p e R s m args below meth c (MQ below (QcS Z Rp) args s 0 0 (fun a => Z.2.2.1 < a))) Rp) := by
  unfold w_X10_proposes_46
  refine s_aload_n (k := 0) C (by decide +kernel) ?_
  refine s_iload_n (k := 1) C (by decide +kernel) ?_
  refine s_fnV C (j2 := jX10_isNoLeader) (cl := 10) (nf := 6) rfl rfl (by decide +kernel) rfl w_3_198 w_3_200 w_p1_11 w_1_2 w_3_201 (by decide +kernel) (fun _ _ _ _ _ h => f_X10_isNoLeader h) (fun _ _ _ _ _ h => r_X10_isNoLeader h) ?_
  refine s_if_eq (off := 6) (tgt := 57) C (by decide +kernel) (by decide) (b_X10_proposes_57 C) ?_
  refine s_bipush (n := (-5)) C (by decide +kernel) (by decide) ?_
  exact s_iret C rfl (by decide +kernel)
set_option maxRecDepth 20000 in
theorem b_X10_proposes_43 {Z : Zt} {d : Nat} {p : Program} {e : Env} {R : Room} {s : State} {m : MethodId} {args : Array Value} {below : List Frame} {meth : Method} {c : Code} {Rp : RT} (C : Cx Z (d + 5) jX10_proposes RX10 p R s m args meth c) : Sd Z jX10_proposes p e R s m args below meth c (MQ below (QcS Z Rp) args s 0 0 (fun a => Z.2.2.1 < a)) 43 (w_X10_proposes_43 (MS Z (d + 5)) (Gw Z 5 p e R s m args below meth c (MQ below (QcS Z Rp) args s 0 0 (fun a => Z.2.2.1 < a))) Rp) := by
  unfold w_X10_proposes_43
  refine s_bipush (n := (-3)) C (by decide +kernel) (by decide) ?_
  exact s_iret C rfl (by decide +kernel)
set_option maxRecDepth 20000 in
theorem b_X10_proposes_27 {Z : Zt} {d : Nat} {p : Program} {e : Env} {R : Room} {s : State} {m : MethodId} {args : Array Value} {below : List Frame} {meth : Method} {c : Code} {Rp : RT} (C : Cx Z (d + 5) jX10_proposes RX10 p R s m args meth c) : Sd Z jX10_proposes p e R s m args below meth c (MQ below (QcS Z Rp) args s 0 0 (fun a => Z.2.2.1 < a)) 27 (w_X10_proposes_27 (MS Z (d + 5)) (Gw Z 5 p e R s m args below meth c (MQ below (QcS Z Rp) args s 0 0 (fun a => Z.2.2.1 < a))) Rp) := by
  unfold w_X10_proposes_27
  refine s_iload (k := 4) C (by decide +kernel) ?_
  refine s_sipush (n := (-999)) C (by decide +kernel) (by decide) ?_
  refine s_icmp_lt (off := 11) (tgt := 43) C (by decide +kernel) (by decide) (b_X10_proposes_43 C) ?_
  refine s_iload (k := 4) C (by decide +kernel) ?_
  refine s_sipush (n := 999) C (by decide +kernel) (by decide) ?_
  refine s_icmp_le (off := 6) (tgt := 46) C (by decide +kernel) (by decide) (b_X10_proposes_46 C) ?_
  exact (b_X10_proposes_43 C)
set_option maxRecDepth 20000 in
theorem b_X10_proposes_24 {Z : Zt} {d : Nat} {p : Program} {e : Env} {R : Room} {s : State} {m : MethodId} {args : Array Value} {below : List Frame} {meth : Method} {c : Code} {Rp : RT} (C : Cx Z (d + 5) jX10_proposes RX10 p R s m args meth c) : Sd Z jX10_proposes p e R s m args below meth c (MQ below (QcS Z Rp) args s 0 0 (fun a => Z.2.2.1 < a)) 24 (w_X10_proposes_24 (MS Z (d + 5)) (Gw Z 5 p e R s m args below meth c (MQ below (QcS Z Rp) args s 0 0 (fun a => Z.2.2.1 < a))) Rp) := by
  unfold w_X10_proposes_24
  refine s_bipush (n := (-2)) C (by decide +kernel) (by decide) ?_
  exact s_iret C rfl (by decide +kernel)
set_option maxRecDepth 20000 in
theorem b_X10_proposes_0 {Z : Zt} {d : Nat} {p : Program} {e : Env} {R : Room} {s : State} {m : MethodId} {args : Array Value} {below : List Frame} {meth : Method} {c : Code} {Rp : RT} (C : Cx Z (d + 5) jX10_proposes RX10 p R s m args meth c) : Sd Z jX10_proposes p e R s m args below meth c (MQ below (QcS Z Rp) args s 0 0 (fun a => Z.2.2.1 < a)) 0 (w_X10_proposes_0 (MS Z (d + 5)) (Gw Z 5 p e R s m args below meth c (MQ below (QcS Z Rp) args s 0 0 (fun a => Z.2.2.1 < a))) Rp) := by
  unfold w_X10_proposes_0
  refine s_iload_n (k := 1) C (by decide +kernel) ?_
  refine s_fnSN C (j2 := jX11_isNoStore) (by decide +kernel) rfl w_3_102 w_3_103 w_1_1 w_3_104 (by decide +kernel) (fun _ _ _ _ _ h => f_X11_isNoStore h) ?_
  refine s_if_ne (off := 20) (tgt := 24) C (by decide +kernel) (by decide) (b_X10_proposes_24 C) ?_
  refine s_iload_n (k := 2) C (by decide +kernel) ?_
  refine s_iconst (n := 1) C (by decide +kernel) (by decide) ?_
  refine s_icmp_lt (off := 15) (tgt := 24) C (by decide +kernel) (by decide) (b_X10_proposes_24 C) ?_
  refine s_iload_n (k := 2) C (by decide +kernel) ?_
  refine s_iconst (n := 2) C (by decide +kernel) (by decide) ?_
  refine s_icmp_gt (off := 10) (tgt := 24) C (by decide +kernel) (by decide) (b_X10_proposes_24 C) ?_
  refine s_iload_n (k := 3) C (by decide +kernel) ?_
  refine s_fnSN C (j2 := jX11_isNoCell) (by decide +kernel) rfl w_3_210 w_3_211 w_1_1 w_3_212 (by decide +kernel) (fun _ _ _ _ _ h => f_X11_isNoCell h) ?_
  refine s_if_eq (off := 6) (tgt := 27) C (by decide +kernel) (by decide) (b_X10_proposes_27 C) ?_
  exact (b_X10_proposes_24 C)
theorem ms_X10_proposes {Z : Zt} {d : Nat} {S : Sh} {μ : Mi} {ρ : Mr} {Rp : RT} (a0 : Nat) (x1 : Int32) (x2 : Int32) (x3 : Int32) (x4 : Int32) (h : ∀ G : Nat → PT, w_X10_proposes_0 (MS Z (d + 5)) G Rp [.ref a0, .int x1, .int x2, .int x3, .int x4] [] S (0, 0) μ ρ) : MS Z (d + 6) jX10_proposes [.ref a0, .int x1, .int x2, .int x3, .int x4] S μ ρ Rp :=
  MS_of [.ref a0, .int x1, .int x2, .int x3, .int x4] (by decide +kernel) rfl rfl (Nat.le_of_ble_eq_true rfl) rfl (fun p e R s m args below meth c C => b_X10_proposes_0 C _ _ _ _ _ _ (h _ ))
def F_X10_proposes : FT := fun As S μ ρ k => match As with
  | [.ref a, .int n, .int kd, .int x, .int y] => S.2 a = (10, 6) ∧ ∃ (A : Rw), RR A a S μ ρ ∧ Gd A ∧ ∀ μ', RR (aPropose A n kd x y).2 a S μ' ρ → Ot a μ μ' → k (some (.int (aPropose A n kd x y).1)) μ'
  | _ => False
theorem r_X10_proposes {As S μ ρ k} (h : F_X10_proposes As S μ ρ k) : ∃ a As', As = Value.ref a :: As' ∧ S.2 a = (10, 6) := by
  unfold F_X10_proposes at h
  split at h
  · exact ⟨_, _, rfl, h.1⟩
  · exact h.elim
set_option maxHeartbeats 1000000 in
theorem f_X10_proposes {Z : Zt} {d : Nat} {As : List Value} {S : Sh} {μ : Mi} {ρ : Mr} {Rp : RT} (h : F_X10_proposes As S μ ρ (fun r μ' => Rp r S μ' ρ)) : MS Z (d + 6) jX10_proposes As S μ ρ Rp := by
  unfold F_X10_proposes at h
  split at h
  · rename_i a n kd x y
    obtain ⟨a, hNa⟩ : ∃ n : Nat, n = a := ⟨a, rfl⟩
    subst hNa
    obtain ⟨h1, A, hR, hG, h⟩ := h
    refine ms_X10_proposes _ _ _ _ _ (fun G => ?_)
    have hW := RR_W hR
    have hcm := good_cm (Gd_good hG)
    have hext := Gd_ext hG
    unfold aPropose at h
    have bad : ¬ (rgd n 0 4 ∧ rgd kd 1 2 ∧ rgd x 0 3) → Rp (some (.int (-2))) S μ ρ := by
      intro c
      rw [if_pos c] at h
      exact h μ hR (fun _ _ => rfl)
    have ek := rg_05 (x := kd) (lo := 1) (hi := 2) (l := 1) (h := 2) (by decide) (by decide)
    have ey := rg_05 (x := y) (lo := -999) (hi := 999) (l := -999) (h := 999) (by decide) (by decide)
    simp only [w_X10_proposes_0, w_X10_proposes_24, w_X10_proposes_27, w_X10_proposes_43, tAload, tIload, nth, tGetI, tGetR, tConst, tLconst, tBin, tUn, tI2l, tAld, tAldR, tAlen, tIast, tBast, tZast, tAast, tIret, tZret, tVret, tAret, tIf, tIf2, tGoto, tIstore, tAstore, sset, tIinc, tDup, tDup2, tPop, tPutI, tPutZ, tPutR, tCallV, tCallS, popN, tFn, tCopy, tMax, tMin, tSw, swc, tRem, tObjI, Option.toList, List.nil_append, List.cons_append, okR, true_and, and_true, true_or, or_true, Nat.zero_le, ne_eq, not_false_eq_true, Nat.reduceEqDiff, F_X11_isNoStore, F_X11_isNoCell, b2_z, h1, Decidable.not_not]
    refine ⟨fun c => bad (fun z => c z.1), fun c => ⟨fun c2 => bad (fun z => (ek.mpr z.2.1).1 c2), fun c2 => ⟨fun c3 => bad (fun z => absurd (ek.mpr z.2.1).2 (Int32.not_le.mpr c3)), fun c3 => ⟨fun c4 => ?_, fun c4 => bad (fun z => c4 z.2.2)⟩⟩⟩⟩
    have ck := ek.mp ⟨c2, Int32.not_lt.mp c3⟩
    rw [if_neg (not_not_intro ⟨c, ck, c4⟩)] at h
    have bad2 : ¬ rgd y (-999) 999 → Rp (some (.int (-3))) S μ ρ := by
      intro c
      rw [if_pos c] at h
      exact h μ hR (fun _ _ => rfl)
    refine ⟨fun c5 => bad2 (fun z => (ey.mpr z).1 c5), fun c5 => ⟨fun c6 => ?_, fun c6 => bad2 (fun z => c6 (ey.mpr z).2)⟩⟩
    have cy := ey.mp ⟨c5, c6⟩
    rw [if_neg (not_not_intro cy)] at h
    obtain ⟨s, rfl, s0, -, s5⟩ := rg_ex (lo := 0) (hi := 4) c
    have hs : s < 5 := by omega
    rw [nI_clamp s0] at h
    obtain ⟨x1, x2, x3⟩ := W_st hW hs
    have hSt := RR_st hR hs
    have hA := hSt.1
    unfold StA at hA
    have hst := hcm.1 s hs
    have hag : agR A s := (hext.1 s hs).1
    have hi5 := inb_nI hs (show (5 : Nat) < 2 ^ 31 by decide)
    simp only [w_X10_proposes_46, tAload, tIload, nth, tGetI, tGetR, tConst, tLconst, tBin, tUn, tI2l, tAld, tAldR, tAlen, tIast, tBast, tZast, tAast, tIret, tZret, tVret, tAret, tIf, tIf2, tGoto, tIstore, tAstore, sset, tIinc, tDup, tDup2, tPop, tPutI, tPutZ, tPutR, tCallV, tCallS, popN, tFn, tCopy, tMax, tMin, tSw, swc, tRem, tObjI, Option.toList, List.nil_append, List.cons_append, okR, true_and, and_true, true_or, or_true, Nat.zero_le, ne_eq, not_false_eq_true, Nat.reduceEqDiff, F_X10_isNoLeader, b2_z, h1, Decidable.not_not]
    refine ⟨s, A, hR, rfl, hs, fun c7 => ?_, fun c7 => ?_⟩
    rotate_left
    · rw [if_pos c7] at h
      exact h μ hR (fun _ _ => rfl)
    rw [if_neg (not_not_intro c7)] at h
    have k12 : kd = 1 ∨ kd = 2 := by
      obtain ⟨m, m1, m2, m4, m3⟩ := rg_ex (lo := 1) (hi := 2) ck
      rw [m1]
      rcases (by omega : m = 1 ∨ m = 2) with z | z <;> subst z
      · exact Or.inl rfl
      · exact Or.inr rfl
    simp only [w_X10_proposes_57, tAload, tIload, nth, tGetI, tGetR, tConst, tLconst, tBin, tUn, tI2l, tAld, tAldR, tAlen, tIast, tBast, tZast, tAast, tIret, tZret, tVret, tAret, tIf, tIf2, tGoto, tIstore, tAstore, sset, tIinc, tDup, tDup2, tPop, tPutI, tPutZ, tPutR, tCallV, tCallS, popN, tFn, tCopy, tMax, tMin, tSw, swc, tRem, tObjI, Option.toList, List.nil_append, List.cons_append, okR, true_and, and_true, true_or, or_true, Nat.zero_le, ne_eq, not_false_eq_true, Nat.reduceEqDiff, F_X10_putEntry, h1, hW.2.2.2.2.1, hW.2.1, nI_clamp s0, x3, hi5]
    refine ⟨by omega, s, A, hs, rfl, hR, fnK_st hst hext hs c7, ⟨⟨by have := ck.1; omega, by have := ck.2; omega⟩, ⟨c4.1, by have := c4.2; omega⟩, cy, fun z => ?_, fun z => ?_, fun z => ?_, fun _ => c4⟩, fun c8 => ?_, fun c8 μ' r' o' => ?_⟩
    · rcases k12 with y | y <;> rw [y] at z <;> exact absurd z (by decide)
    · rcases k12 with y | y <;> rw [y] at z <;> exact absurd z (by decide)
    · rcases k12 with y | y <;> rw [y] at z <;> exact absurd z (by decide)
    · rw [if_pos c8] at h
      exact h μ hR (fun _ _ => rfl)
    · rw [if_neg (not_not_intro c8)] at h
      exact h μ' r' o'
  · exact h.elim
def w_X10_changes_64 (M : CT) (G : Nat → PT) (Rp : RT) : PT := tAload 0 <| tAload 3 <| tConst 3 <| tAload 3 <| tGetI 7 18 10 <| tIload 2 <| tFn 5 F_X10_putEntry <| tIret Rp
def w_X10_changes_61 (M : CT) (G : Nat → PT) (Rp : RT) : PT := tConst (-5) <| tIret Rp
def w_X10_changes_20 (M : CT) (G : Nat → PT) (Rp : RT) : PT := tAload 0 <| tGetR 10 6 0 <| tIload 1 <| tAldR 37 <| tAstore 3 <| tAload 0 <| tIload 1 <| tFn 2 F_X10_isNoLeader <| tIf (fun x => x ≠ 0) (w_X10_changes_61 M G Rp) <| tAload 3 <| tGetI 7 18 11 <| tIf (fun x => x ≠ 0) (w_X10_changes_61 M G Rp) <| tAload 3 <| tGetI 7 18 9 <| tAload 3 <| tGetI 7 18 8 <| tIf2 (fun x y => y < x) (w_X10_changes_61 M G Rp) <| tAload 3 <| tGetI 7 18 10 <| tIload 2 <| tIf2 (fun x y => x ≠ y) (w_X10_changes_64 M G Rp) <| w_X10_changes_61 M G Rp
def w_X10_changes_10 (M : CT) (G : Nat → PT) (Rp : RT) : PT := tIload 2 <| tFn 1 F_X11_isNoSet <| tIf (fun x => x = 0) (w_X10_changes_20 M G Rp) <| tConst (-3) <| tIret Rp
def w_X10_changes_0 (M : CT) (G : Nat → PT) (Rp : RT) : PT := tIload 1 <| tFn 1 F_X11_isNoStore <| tIf (fun x => x = 0) (w_X10_changes_10 M G Rp) <| tConst (-2) <| tIret Rp
set_option maxRecDepth 20000 in
theorem b_X10_changes_64 {Z : Zt} {d : Nat} {p : Program} {e : Env} {R : Room} {s : State} {m : MethodId} {args : Array Value} {below : List Frame} {meth : Method} {c : Code} {Rp : RT} (C : Cx Z (d + 5) jX10_changes RX10 p R s m args meth c) : Sd Z jX10_changes p e R s m args below meth c (MQ below (QcS Z Rp) args s 0 0 (fun a => Z.2.2.1 < a)) 64 (w_X10_changes_64 (MS Z (d + 5)) (Gw Z 4 p e R s m args below meth c (MQ below (QcS Z Rp) args s 0 0 (fun a => Z.2.2.1 < a))) Rp) := by
  unfold w_X10_changes_64
  refine s_aload_n (k := 0) C (by decide +kernel) ?_
  refine s_aload_n (k := 3) C (by decide +kernel) ?_
  refine s_iconst (n := 3) C (by decide +kernel) (by decide) ?_
  refine s_aload_n (k := 3) C (by decide +kernel) ?_
  refine s_getI C w_2_15 (by decide +kernel) rfl ?_
  refine s_iload_n (k := 2) C (by decide +kernel) ?_
  refine s_fnV C (j2 := jX10_putEntry) (cl := 10) (nf := 6) rfl rfl (by decide +kernel) rfl w_3_213 w_3_215 w_p1_12 w_1_2 w_3_216 (by decide +kernel) (fun _ _ _ _ _ h => f_X10_putEntry h) (fun _ _ _ _ _ h => r_X10_putEntry h) ?_
  exact s_iret C rfl (by decide +kernel)
set_option maxRecDepth 20000 in
theorem b_X10_changes_61 {Z : Zt} {d : Nat} {p : Program} {e : Env} {R : Room} {s : State} {m : MethodId} {args : Array Value} {below : List Frame} {meth : Method} {c : Code} {Rp : RT} (C : Cx Z (d + 5) jX10_changes RX10 p R s m args meth c) : Sd Z jX10_changes p e R s m args below meth c (MQ below (QcS Z Rp) args s 0 0 (fun a => Z.2.2.1 < a)) 61 (w_X10_changes_61 (MS Z (d + 5)) (Gw Z 4 p e R s m args below meth c (MQ below (QcS Z Rp) args s 0 0 (fun a => Z.2.2.1 < a))) Rp) := by
  unfold w_X10_changes_61
  refine s_bipush (n := (-5)) C (by decide +kernel) (by decide) ?_
  exact s_iret C rfl (by decide +kernel)
set_option maxRecDepth 20000 in
theorem b_X10_changes_20 {Z : Zt} {d : Nat} {p : Program} {e : Env} {R : Room} {s : State} {m : MethodId} {args : Array Value} {below : List Frame} {meth : Method} {c : Code} {Rp : RT} (C : Cx Z (d + 5) jX10_changes RX10 p R s m args meth c) : Sd Z jX10_changes p e R s m args below meth c (MQ below (QcS Z Rp) args s 0 0 (fun a => Z.2.2.1 < a)) 20 (w_X10_changes_20 (MS Z (d + 5)) (Gw Z 4 p e R s m args below meth c (MQ below (QcS Z Rp) args s 0 0 (fun a => Z.2.2.1 < a))) Rp) := by
  unfold w_X10_changes_20
  refine s_aload_n (k := 0) C (by decide +kernel) ?_
  refine s_getR C w_2_113 (by decide +kernel) rfl ?_
  refine s_iload_n (k := 1) C (by decide +kernel) ?_
  refine s_aald C rfl (by decide +kernel) ?_
  refine s_astore_n (k := 3) C (by decide +kernel) ?_
  refine s_aload_n (k := 0) C (by decide +kernel) ?_
  refine s_iload_n (k := 1) C (by decide +kernel) ?_
  refine s_fnV C (j2 := jX10_isNoLeader) (cl := 10) (nf := 6) rfl rfl (by decide +kernel) rfl w_3_198 w_3_200 w_p1_11 w_1_2 w_3_201 (by decide +kernel) (fun _ _ _ _ _ h => f_X10_isNoLeader h) (fun _ _ _ _ _ h => r_X10_isNoLeader h) ?_
  refine s_if_ne (off := 29) (tgt := 61) C (by decide +kernel) (by decide) (b_X10_changes_61 C) ?_
  refine s_aload_n (k := 3) C (by decide +kernel) ?_
  refine s_getI C w_2_19 (by decide +kernel) rfl ?_
  refine s_if_ne (off := 22) (tgt := 61) C (by decide +kernel) (by decide) (b_X10_changes_61 C) ?_
  refine s_aload_n (k := 3) C (by decide +kernel) ?_
  refine s_getI C w_2_11 (by decide +kernel) rfl ?_
  refine s_aload_n (k := 3) C (by decide +kernel) ?_
  refine s_getI C w_2_9 (by decide +kernel) rfl ?_
  refine s_icmp_gt (off := 11) (tgt := 61) C (by decide +kernel) (by decide) (b_X10_changes_61 C) ?_
  refine s_aload_n (k := 3) C (by decide +kernel) ?_
  refine s_getI C w_2_15 (by decide +kernel) rfl ?_
  refine s_iload_n (k := 2) C (by decide +kernel) ?_
  refine s_icmp_ne (off := 6) (tgt := 64) C (by decide +kernel) (by decide) (b_X10_changes_64 C) ?_
  exact (b_X10_changes_61 C)
set_option maxRecDepth 20000 in
theorem b_X10_changes_10 {Z : Zt} {d : Nat} {p : Program} {e : Env} {R : Room} {s : State} {m : MethodId} {args : Array Value} {below : List Frame} {meth : Method} {c : Code} {Rp : RT} (C : Cx Z (d + 5) jX10_changes RX10 p R s m args meth c) : Sd Z jX10_changes p e R s m args below meth c (MQ below (QcS Z Rp) args s 0 0 (fun a => Z.2.2.1 < a)) 10 (w_X10_changes_10 (MS Z (d + 5)) (Gw Z 4 p e R s m args below meth c (MQ below (QcS Z Rp) args s 0 0 (fun a => Z.2.2.1 < a))) Rp) := by
  unfold w_X10_changes_10
  refine s_iload_n (k := 2) C (by decide +kernel) ?_
  refine s_fnSN C (j2 := jX11_isNoSet) (by decide +kernel) rfl w_3_70 w_3_71 w_1_1 w_3_72 (by decide +kernel) (fun _ _ _ _ _ h => f_X11_isNoSet h) ?_
  refine s_if_eq (off := 6) (tgt := 20) C (by decide +kernel) (by decide) (b_X10_changes_20 C) ?_
  refine s_bipush (n := (-3)) C (by decide +kernel) (by decide) ?_
  exact s_iret C rfl (by decide +kernel)
set_option maxRecDepth 20000 in
theorem b_X10_changes_0 {Z : Zt} {d : Nat} {p : Program} {e : Env} {R : Room} {s : State} {m : MethodId} {args : Array Value} {below : List Frame} {meth : Method} {c : Code} {Rp : RT} (C : Cx Z (d + 5) jX10_changes RX10 p R s m args meth c) : Sd Z jX10_changes p e R s m args below meth c (MQ below (QcS Z Rp) args s 0 0 (fun a => Z.2.2.1 < a)) 0 (w_X10_changes_0 (MS Z (d + 5)) (Gw Z 4 p e R s m args below meth c (MQ below (QcS Z Rp) args s 0 0 (fun a => Z.2.2.1 < a))) Rp) := by
  unfold w_X10_changes_0
  refine s_iload_n (k := 1) C (by decide +kernel) ?_
  refine s_fnSN C (j2 := jX11_isNoStore) (by decide +kernel) rfl w_3_102 w_3_103 w_1_1 w_3_104 (by decide +kernel) (fun _ _ _ _ _ h => f_X11_isNoStore h) ?_
  refine s_if_eq (off := 6) (tgt := 10) C (by decide +kernel) (by decide) (b_X10_changes_10 C) ?_
  refine s_bipush (n := (-2)) C (by decide +kernel) (by decide) ?_
  exact s_iret C rfl (by decide +kernel)
theorem ms_X10_changes {Z : Zt} {d : Nat} {S : Sh} {μ : Mi} {ρ : Mr} {Rp : RT} (a0 : Nat) (x1 : Int32) (x2 : Int32) (h : ∀ G : Nat → PT, w_X10_changes_0 (MS Z (d + 5)) G Rp [.ref a0, .int x1, .int x2, .null] [] S (0, 0) μ ρ) : MS Z (d + 6) jX10_changes [.ref a0, .int x1, .int x2] S μ ρ Rp :=
  MS_of [.ref a0, .int x1, .int x2, .null] (by decide +kernel) rfl rfl (Nat.le_of_ble_eq_true rfl) rfl (fun p e R s m args below meth c C => b_X10_changes_0 C _ _ _ _ _ _ (h _ ))
def F_X10_changes : FT := fun As S μ ρ k => match As with
  | [.ref a, .int n, .int m] => S.2 a = (10, 6) ∧ ∃ (A : Rw), RR A a S μ ρ ∧ Gd A ∧ ∀ μ', RR (aChange A n m).2 a S μ' ρ → Ot a μ μ' → k (some (.int (aChange A n m).1)) μ'
  | _ => False
theorem r_X10_changes {As S μ ρ k} (h : F_X10_changes As S μ ρ k) : ∃ a As', As = Value.ref a :: As' ∧ S.2 a = (10, 6) := by
  unfold F_X10_changes at h
  split at h
  · exact ⟨_, _, rfl, h.1⟩
  · exact h.elim
set_option maxHeartbeats 1000000 in
theorem f_X10_changes {Z : Zt} {d : Nat} {As : List Value} {S : Sh} {μ : Mi} {ρ : Mr} {Rp : RT} (h : F_X10_changes As S μ ρ (fun r μ' => Rp r S μ' ρ)) : MS Z (d + 6) jX10_changes As S μ ρ Rp := by
  unfold F_X10_changes at h
  split at h
  · rename_i a n m
    obtain ⟨a, hNa⟩ : ∃ n : Nat, n = a := ⟨a, rfl⟩
    subst hNa
    obtain ⟨h1, A, hR, hG, h⟩ := h
    refine ms_X10_changes _ _ _ (fun G => ?_)
    have hW := RR_W hR
    have hcm := good_cm (Gd_good hG)
    have hext := Gd_ext hG
    unfold aChange at h
    simp only [w_X10_changes_0, w_X10_changes_10, tAload, tIload, nth, tGetI, tGetR, tConst, tLconst, tBin, tUn, tI2l, tAld, tAldR, tAlen, tIast, tBast, tZast, tAast, tIret, tZret, tVret, tAret, tIf, tIf2, tGoto, tIstore, tAstore, sset, tIinc, tDup, tDup2, tPop, tPutI, tPutZ, tPutR, tCallV, tCallS, popN, tFn, tCopy, tMax, tMin, tSw, swc, tRem, tObjI, Option.toList, List.nil_append, List.cons_append, okR, true_and, and_true, true_or, or_true, Nat.zero_le, ne_eq, not_false_eq_true, Nat.reduceEqDiff, F_X11_isNoStore, F_X11_isNoSet, b2_z, h1, Decidable.not_not]
    refine ⟨fun c => ⟨fun cm => ?_, fun cm => ?_⟩, fun c => ?_⟩
    rotate_left
    · rw [if_neg (not_not_intro c), if_pos cm] at h
      exact h μ hR (fun _ _ => rfl)
    · rw [if_pos c] at h
      exact h μ hR (fun _ _ => rfl)
    rw [if_neg (not_not_intro c), if_neg (not_not_intro cm)] at h
    obtain ⟨s, rfl, s0, -, s5⟩ := rg_ex (lo := 0) (hi := 4) c
    have hs : s < 5 := by omega
    rw [nI_clamp s0] at h
    obtain ⟨x1, x2, x3⟩ := W_st hW hs
    have hSt := RR_st hR hs
    have hA := hSt.1
    unfold StA at hA
    have hst := hcm.1 s hs
    have hag : agR A s := (hext.1 s hs).1
    have hi5 := inb_nI hs (show (5 : Nat) < 2 ^ 31 by decide)
    have hmem := St_mem hSt
    rw [hSt.2.2.2.2.2.1, hSt.2.2.2.2.2.2] at hmem
    have bad2 : ¬ canChange A s m → Rp (some (.int (-5))) S μ ρ := by
      intro c
      rw [if_pos c] at h
      exact h μ hR (fun _ _ => rfl)
    simp only [w_X10_changes_20, w_X10_changes_61, tAload, tIload, nth, tGetI, tGetR, tConst, tLconst, tBin, tUn, tI2l, tAld, tAldR, tAlen, tIast, tBast, tZast, tAast, tIret, tZret, tVret, tAret, tIf, tIf2, tGoto, tIstore, tAstore, sset, tIinc, tDup, tDup2, tPop, tPutI, tPutZ, tPutR, tCallV, tCallS, popN, tFn, tCopy, tMax, tMin, tSw, swc, tRem, tObjI, Option.toList, List.nil_append, List.cons_append, okR, true_and, and_true, true_or, or_true, Nat.zero_le, ne_eq, not_false_eq_true, Nat.reduceEqDiff, F_X10_isNoLeader, b2_z, h1, hW.2.2.2.2.1, hW.2.1, nI_clamp s0, x3, x1, hA, hi5, hSt.2.2.2.2.1, hSt.2.2.2.2.2.1, hSt.2.2.2.2.2.2, Decidable.not_not]
    refine ⟨by omega, s, A, hR, rfl, hs, fun c2 => bad2 (fun z => c2 z.1), fun c2 => ⟨fun c3 => bad2 (fun z => c3 z.2.1), fun c3 => ⟨fun c4 => bad2 (fun z => z.2.2.1 c4), fun c4 => ⟨fun c5 => ?_, fun c5 => bad2 (fun z => z.2.2.2 c5)⟩⟩⟩⟩
    rw [if_neg (not_not_intro ⟨c2, c3, c4, c5⟩)] at h
    simp only [w_X10_changes_64, tAload, tIload, nth, tGetI, tGetR, tConst, tLconst, tBin, tUn, tI2l, tAld, tAldR, tAlen, tIast, tBast, tZast, tAast, tIret, tZret, tVret, tAret, tIf, tIf2, tGoto, tIstore, tAstore, sset, tIinc, tDup, tDup2, tPop, tPutI, tPutZ, tPutR, tCallV, tCallS, popN, tFn, tCopy, tMax, tMin, tSw, swc, tRem, tObjI, Option.toList, List.nil_append, List.cons_append, okR, true_and, and_true, true_or, or_true, Nat.zero_le, ne_eq, not_false_eq_true, Nat.reduceEqDiff, F_X10_putEntry, h1, x1, hSt.2.2.2.2.2.1]
    refine ⟨s, A, hs, rfl, hR, fnK_st hst hext hs c2, ⟨⟨by decide, by decide⟩, hmem.1, ⟨by have := cm.1; omega, by have := cm.2; omega⟩, fun z => absurd z (by decide), fun _ => cm, fun _ z => ?_, fun z => absurd z (by decide)⟩, fun c8 => ?_, fun c8 μ' r' o' => ?_⟩
    · have := hmem.2.2
      rw [z] at this
      exact absurd this (by decide)
    · rw [if_pos c8] at h
      exact h μ hR (fun _ _ => rfl)
    · rw [if_neg (not_not_intro c8)] at h
      exact h μ' r' o'
  · exact h.elim
def cRd0 (μ : Mi) (x : Nat) (r c v : Int32) : Mi := upI (upI (upI (upI (upI μ x 6 (r + 1)) (x + 7) 0 1) (x + 7) 1 c) (x + 7) 2 0) (x + 7) 3 v
theorem cRd0_ne {μ : Mi} {x y : Nat} {r c v : Int32} (h : y ≠ x) (h7 : y ≠ x + 7) : cRd0 μ x r c v y = μ y := by
  unfold cRd0
  rw [upI_ne h7, upI_ne h7, upI_ne h7, upI_ne h7, upI_ne h]
theorem qRead0_out {A : Rw} {s i : Nat} {c : Int32} (h : i ≠ 514 * s + 11 ∧ i ≠ 514 * s + 12 ∧ i ≠ 514 * s + 13 ∧ i ≠ 514 * s + 14 ∧ i ≠ 514 * s + 15) : qRead0 A s c i = A i := by
  unfold qRead0
  rw [up_ne (by omega), up_ne (by omega), up_ne (by omega), up_ne (by omega), up_ne (by omega)]
theorem RR_rd0 {A : Rw} {w s : Nat} {S : Sh} {μ : Mi} {ρ : Mr} {c : Int32} (hs : s < 5) (h : RR A w S μ ρ) : RR (qRead0 A s c) w S (cRd0 μ (w + 130 + 8 * s) (A (514 * s + 14)) c ((1 : Int32) <<< (nI s &&& 31))) ρ := by
  have hSt := RR_st h hs
  have hA := hSt.1
  unfold StA at hA
  refine ⟨R0_store hs h.1 (fun i hi => qRead0_out (by omega)) (fun y hy => cRd0_ne (by omega) (by omega)) (St_note hs hSt (fun i i1 i2 i3 i4 => qRead0_out (by omega)) (by rw [qRead0_out (by omega)]; exact hSt.2.1.1) (fun y y1 y2 y3 y4 y5 y6 => cRd0_ne (by omega) (by omega)) ?_ ?_), Nx_keep h.2 (fun r i hr hi => qRead0_out (by rcases Nat.lt_trichotomy r s with z | z | z <;> omega)) (fun r hr => ⟨cRd0_ne (by omega) (by omega), cRd0_ne (by omega) (by omega)⟩)⟩
  · unfold cRd0
    simp (disch := omega) only [upI_ne, upI_k, and_self]
  · unfold StA cRd0 qRead0
    simp (disch := omega) only [upI_ne, upI_k, upI_at, up_at, up_ne, hA, and_self]
def w_X10_reads_128 (M : CT) (G : Nat → PT) (Rp : RT) : PT := tAload 3 <| tGetR 7 18 17 <| tGetI 5 4 0 <| tIret Rp
def w_X10_reads_61 (M : CT) (G : Nat → PT) (Rp : RT) : PT := tAload 3 <| tDup <| tGetI 7 18 6 <| tConst 1 <| tBin (fun x y => x + y) <| tPutI 7 18 6 <| tAload 3 <| tGetR 7 18 17 <| tConst 1 <| tPutI 5 4 0 <| tAload 3 <| tGetR 7 18 17 <| tIload 2 <| tPutI 5 4 1 <| tAload 3 <| tGetR 7 18 17 <| tConst 0 <| tPutI 5 4 2 <| tAload 3 <| tGetR 7 18 17 <| tConst 1 <| tIload 1 <| tBin (fun x y => x <<< (y &&& 31)) <| tPutI 5 4 3 <| tAload 0 <| tAload 3 <| tFn 2 F_X10_sendToAll <| tAload 3 <| tAload 3 <| tGetR 7 18 17 <| tGetI 5 4 3 <| tFn 2 F_X7_isMajority <| tIf (fun x => x = 0) (w_X10_reads_128 M G Rp) <| tAload 3 <| tFn 1 F_X7_answerRead <| w_X10_reads_128 M G Rp
def w_X10_reads_58 (M : CT) (G : Nat → PT) (Rp : RT) : PT := tConst (-5) <| tIret Rp
def w_X10_reads_17 (M : CT) (G : Nat → PT) (Rp : RT) : PT := tAload 0 <| tGetR 10 6 0 <| tIload 1 <| tAldR 37 <| tAstore 3 <| tAload 0 <| tIload 1 <| tFn 2 F_X10_isNoLeader <| tIf (fun x => x ≠ 0) (w_X10_reads_58 M G Rp) <| tAload 3 <| tGetR 7 18 17 <| tGetI 5 4 0 <| tConst 1 <| tIf2 (fun x y => x = y) (w_X10_reads_58 M G Rp) <| tAload 3 <| tAload 3 <| tGetI 7 18 8 <| tFn 2 F_X7_termAt <| tAload 3 <| tGetI 7 18 2 <| tIf2 (fun x y => x = y) (w_X10_reads_61 M G Rp) <| w_X10_reads_58 M G Rp
def w_X10_reads_14 (M : CT) (G : Nat → PT) (Rp : RT) : PT := tConst (-2) <| tIret Rp
def w_X10_reads_0 (M : CT) (G : Nat → PT) (Rp : RT) : PT := tIload 1 <| tFn 1 F_X11_isNoStore <| tIf (fun x => x ≠ 0) (w_X10_reads_14 M G Rp) <| tIload 2 <| tFn 1 F_X11_isNoCell <| tIf (fun x => x = 0) (w_X10_reads_17 M G Rp) <| w_X10_reads_14 M G Rp
set_option maxRecDepth 20000 in
theorem b_X10_reads_128 {Z : Zt} {d : Nat} {p : Program} {e : Env} {R : Room} {s : State} {m : MethodId} {args : Array Value} {below : List Frame} {meth : Method} {c : Code} {Rp : RT} (C : Cx Z (d + 3) jX10_reads RX10 p R s m args meth c) : Sd Z jX10_reads p e R s m args below meth c (MQ below (QcS Z Rp) args s 0 0 (fun a => Z.2.2.1 < a)) 128 (w_X10_reads_128 (MS Z (d + 3)) (Gw Z 4 p e R s m args below meth c (MQ below (QcS Z Rp) args s 0 0 (fun a => Z.2.2.1 < a))) Rp) := by
  unfold w_X10_reads_128
  refine s_aload_n (k := 3) C (by decide +kernel) ?_
  refine s_getR C w_2_37 (by decide +kernel) rfl ?_
  refine s_getI C w_1_197 (by decide +kernel) rfl ?_
  exact s_iret C rfl (by decide +kernel)
set_option maxRecDepth 20000 in
theorem b_X10_reads_61 {Z : Zt} {d : Nat} {p : Program} {e : Env} {R : Room} {s : State} {m : MethodId} {args : Array Value} {below : List Frame} {meth : Method} {c : Code} {Rp : RT} (C : Cx Z (d + 3) jX10_reads RX10 p R s m args meth c) : Sd Z jX10_reads p e R s m args below meth c (MQ below (QcS Z Rp) args s 0 0 (fun a => Z.2.2.1 < a)) 61 (w_X10_reads_61 (MS Z (d + 3)) (Gw Z 4 p e R s m args below meth c (MQ below (QcS Z Rp) args s 0 0 (fun a => Z.2.2.1 < a))) Rp) := by
  unfold w_X10_reads_61
  refine s_aload_n (k := 3) C (by decide +kernel) ?_
  refine s_dup C (by decide +kernel) ?_
  refine s_getI C w_2_1 (by decide +kernel) rfl ?_
  refine s_iconst (n := 1) C (by decide +kernel) (by decide) ?_
  refine s_iadd C (by decide +kernel) ?_
  refine s_putI C w_2_1 (by decide +kernel) rfl (Or.inl rfl) ?_
  refine s_aload_n (k := 3) C (by decide +kernel) ?_
  refine s_getR C w_2_37 (by decide +kernel) rfl ?_
  refine s_iconst (n := 1) C (by decide +kernel) (by decide) ?_
  refine s_putI C w_1_197 (by decide +kernel) rfl (Or.inl rfl) ?_
  refine s_aload_n (k := 3) C (by decide +kernel) ?_
  refine s_getR C w_2_37 (by decide +kernel) rfl ?_
  refine s_iload_n (k := 2) C (by decide +kernel) ?_
  refine s_putI C w_1_200 (by decide +kernel) rfl (Or.inl rfl) ?_
  refine s_aload_n (k := 3) C (by decide +kernel) ?_
  refine s_getR C w_2_37 (by decide +kernel) rfl ?_
  refine s_iconst (n := 0) C (by decide +kernel) (by decide) ?_
  refine s_putI C w_1_204 (by decide +kernel) rfl (Or.inl rfl) ?_
  refine s_aload_n (k := 3) C (by decide +kernel) ?_
  refine s_getR C w_2_37 (by decide +kernel) rfl ?_
  refine s_iconst (n := 1) C (by decide +kernel) (by decide) ?_
  refine s_iload_n (k := 1) C (by decide +kernel) ?_
  refine s_ishl C (by decide +kernel) ?_
  refine s_putI C w_1_208 (by decide +kernel) rfl (Or.inl rfl) ?_
  refine s_aload_n (k := 0) C (by decide +kernel) ?_
  refine s_aload_n (k := 3) C (by decide +kernel) ?_
  refine s_fnV C (j2 := jX10_sendToAll) (cl := 10) (nf := 6) rfl rfl (by decide +kernel) rfl w_3_158 w_3_159 w_3_160 w_1_2 w_3_161 (by decide +kernel) (fun _ _ _ _ _ h => f_X10_sendToAll h) (fun _ _ _ _ _ h => r_X10_sendToAll h) ?_
  refine s_aload_n (k := 3) C (by decide +kernel) ?_
  refine s_aload_n (k := 3) C (by decide +kernel) ?_
  refine s_getR C w_2_37 (by decide +kernel) rfl ?_
  refine s_getI C w_1_208 (by decide +kernel) rfl ?_
  refine s_fnV C (j2 := jX7_isMajority) (cl := 7) (nf := 18) rfl rfl (by decide +kernel) rfl w_3_133 w_3_134 w_3_135 w_1_5 w_3_136 (by decide +kernel) (fun _ _ _ _ _ h => f_X7_isMajority h) (fun _ _ _ _ _ h => r_X7_isMajority h) ?_
  refine s_if_eq (off := 7) (tgt := 128) C (by decide +kernel) (by decide) (b_X10_reads_128 C) ?_
  refine s_aload_n (k := 3) C (by decide +kernel) ?_
  refine s_fnV C (j2 := jX7_answerRead) (cl := 7) (nf := 18) rfl rfl (by decide +kernel) rfl w_3_225 w_3_226 w_3_227 w_1_5 w_3_228 (by decide +kernel) (fun _ _ _ _ _ h => f_X7_answerRead h) (fun _ _ _ _ _ h => r_X7_answerRead h) ?_
  exact (b_X10_reads_128 C)
set_option maxRecDepth 20000 in
theorem b_X10_reads_58 {Z : Zt} {d : Nat} {p : Program} {e : Env} {R : Room} {s : State} {m : MethodId} {args : Array Value} {below : List Frame} {meth : Method} {c : Code} {Rp : RT} (C : Cx Z (d + 3) jX10_reads RX10 p R s m args meth c) : Sd Z jX10_reads p e R s m args below meth c (MQ below (QcS Z Rp) args s 0 0 (fun a => Z.2.2.1 < a)) 58 (w_X10_reads_58 (MS Z (d + 3)) (Gw Z 4 p e R s m args below meth c (MQ below (QcS Z Rp) args s 0 0 (fun a => Z.2.2.1 < a))) Rp) := by
  unfold w_X10_reads_58
  refine s_bipush (n := (-5)) C (by decide +kernel) (by decide) ?_
  exact s_iret C rfl (by decide +kernel)
set_option maxRecDepth 20000 in
theorem b_X10_reads_17 {Z : Zt} {d : Nat} {p : Program} {e : Env} {R : Room} {s : State} {m : MethodId} {args : Array Value} {below : List Frame} {meth : Method} {c : Code} {Rp : RT} (C : Cx Z (d + 3) jX10_reads RX10 p R s m args meth c) : Sd Z jX10_reads p e R s m args below meth c (MQ below (QcS Z Rp) args s 0 0 (fun a => Z.2.2.1 < a)) 17 (w_X10_reads_17 (MS Z (d + 3)) (Gw Z 4 p e R s m args below meth c (MQ below (QcS Z Rp) args s 0 0 (fun a => Z.2.2.1 < a))) Rp) := by
  unfold w_X10_reads_17
  refine s_aload_n (k := 0) C (by decide +kernel) ?_
  refine s_getR C w_2_113 (by decide +kernel) rfl ?_
  refine s_iload_n (k := 1) C (by decide +kernel) ?_
  refine s_aald C rfl (by decide +kernel) ?_
  refine s_astore_n (k := 3) C (by decide +kernel) ?_
  refine s_aload_n (k := 0) C (by decide +kernel) ?_
  refine s_iload_n (k := 1) C (by decide +kernel) ?_
  refine s_fnV C (j2 := jX10_isNoLeader) (cl := 10) (nf := 6) rfl rfl (by decide +kernel) rfl w_3_198 w_3_200 w_p1_11 w_1_2 w_3_201 (by decide +kernel) (fun _ _ _ _ _ h => f_X10_isNoLeader h) (fun _ _ _ _ _ h => r_X10_isNoLeader h) ?_
  refine s_if_ne (off := 29) (tgt := 58) C (by decide +kernel) (by decide) (b_X10_reads_58 C) ?_
  refine s_aload_n (k := 3) C (by decide +kernel) ?_
  refine s_getR C w_2_37 (by decide +kernel) rfl ?_
  refine s_getI C w_1_197 (by decide +kernel) rfl ?_
  refine s_iconst (n := 1) C (by decide +kernel) (by decide) ?_
  refine s_icmp_eq (off := 18) (tgt := 58) C (by decide +kernel) (by decide) (b_X10_reads_58 C) ?_
  refine s_aload_n (k := 3) C (by decide +kernel) ?_
  refine s_aload_n (k := 3) C (by decide +kernel) ?_
  refine s_getI C w_2_9 (by decide +kernel) rfl ?_
  refine s_fnV C (j2 := jX7_termAt) (cl := 7) (nf := 18) rfl rfl (by decide +kernel) rfl w_3_129 w_3_130 w_3_131 w_1_5 w_3_132 (by decide +kernel) (fun _ _ _ _ _ h => f_X7_termAt h) (fun _ _ _ _ _ h => r_X7_termAt h) ?_
  refine s_aload_n (k := 3) C (by decide +kernel) ?_
  refine s_getI C w_1_227 (by decide +kernel) rfl ?_
  refine s_icmp_eq (off := 6) (tgt := 61) C (by decide +kernel) (by decide) (b_X10_reads_61 C) ?_
  exact (b_X10_reads_58 C)
set_option maxRecDepth 20000 in
theorem b_X10_reads_14 {Z : Zt} {d : Nat} {p : Program} {e : Env} {R : Room} {s : State} {m : MethodId} {args : Array Value} {below : List Frame} {meth : Method} {c : Code} {Rp : RT} (C : Cx Z (d + 3) jX10_reads RX10 p R s m args meth c) : Sd Z jX10_reads p e R s m args below meth c (MQ below (QcS Z Rp) args s 0 0 (fun a => Z.2.2.1 < a)) 14 (w_X10_reads_14 (MS Z (d + 3)) (Gw Z 4 p e R s m args below meth c (MQ below (QcS Z Rp) args s 0 0 (fun a => Z.2.2.1 < a))) Rp) := by
  unfold w_X10_reads_14
  refine s_bipush (n := (-2)) C (by decide +kernel) (by decide) ?_
  exact s_iret C rfl (by decide +kernel)
set_option maxRecDepth 20000 in
theorem b_X10_reads_0 {Z : Zt} {d : Nat} {p : Program} {e : Env} {R : Room} {s : State} {m : MethodId} {args : Array Value} {below : List Frame} {meth : Method} {c : Code} {Rp : RT} (C : Cx Z (d + 3) jX10_reads RX10 p R s m args meth c) : Sd Z jX10_reads p e R s m args below meth c (MQ below (QcS Z Rp) args s 0 0 (fun a => Z.2.2.1 < a)) 0 (w_X10_reads_0 (MS Z (d + 3)) (Gw Z 4 p e R s m args below meth c (MQ below (QcS Z Rp) args s 0 0 (fun a => Z.2.2.1 < a))) Rp) := by
  unfold w_X10_reads_0
  refine s_iload_n (k := 1) C (by decide +kernel) ?_
  refine s_fnSN C (j2 := jX11_isNoStore) (by decide +kernel) rfl w_3_102 w_3_103 w_1_1 w_3_104 (by decide +kernel) (fun _ _ _ _ _ h => f_X11_isNoStore h) ?_
  refine s_if_ne (off := 10) (tgt := 14) C (by decide +kernel) (by decide) (b_X10_reads_14 C) ?_
  refine s_iload_n (k := 2) C (by decide +kernel) ?_
  refine s_fnSN C (j2 := jX11_isNoCell) (by decide +kernel) rfl w_3_210 w_3_211 w_1_1 w_3_212 (by decide +kernel) (fun _ _ _ _ _ h => f_X11_isNoCell h) ?_
  refine s_if_eq (off := 6) (tgt := 17) C (by decide +kernel) (by decide) (b_X10_reads_17 C) ?_
  exact (b_X10_reads_14 C)
theorem ms_X10_reads {Z : Zt} {d : Nat} {S : Sh} {μ : Mi} {ρ : Mr} {Rp : RT} (a0 : Nat) (x1 : Int32) (x2 : Int32) (h : ∀ G : Nat → PT, w_X10_reads_0 (MS Z (d + 3)) G Rp [.ref a0, .int x1, .int x2, .null] [] S (0, 0) μ ρ) : MS Z (d + 4) jX10_reads [.ref a0, .int x1, .int x2] S μ ρ Rp :=
  MS_of [.ref a0, .int x1, .int x2, .null] (by decide +kernel) rfl rfl (Nat.le_of_ble_eq_true rfl) rfl (fun p e R s m args below meth c C => b_X10_reads_0 C _ _ _ _ _ _ (h _ ))
def F_X10_reads : FT := fun As S μ ρ k => match As with
  | [.ref a, .int n, .int m] => S.2 a = (10, 6) ∧ ∃ (A : Rw), RR A a S μ ρ ∧ Gd A ∧ ∀ μ', RR (aRead A n m).2 a S μ' ρ → Ot a μ μ' → k (some (.int (aRead A n m).1)) μ'
  | _ => False
theorem r_X10_reads {As S μ ρ k} (h : F_X10_reads As S μ ρ k) : ∃ a As', As = Value.ref a :: As' ∧ S.2 a = (10, 6) := by
  unfold F_X10_reads at h
  split at h
  · exact ⟨_, _, rfl, h.1⟩
  · exact h.elim
set_option maxHeartbeats 1000000 in
theorem f_X10_reads {Z : Zt} {d : Nat} {As : List Value} {S : Sh} {μ : Mi} {ρ : Mr} {Rp : RT} (h : F_X10_reads As S μ ρ (fun r μ' => Rp r S μ' ρ)) : MS Z (d + 4) jX10_reads As S μ ρ Rp := by
  unfold F_X10_reads at h
  split at h
  · rename_i a n m
    obtain ⟨a, hNa⟩ : ∃ n : Nat, n = a := ⟨a, rfl⟩
    subst hNa
    obtain ⟨h1, A, hR, hG, h⟩ := h
    refine ms_X10_reads _ _ _ (fun G => ?_)
    have hW := RR_W hR
    have hcm := good_cm (Gd_good hG)
    have hext := Gd_ext hG
    unfold aRead at h
    have bad : ¬ (rgd n 0 4 ∧ rgd m 0 3) → Rp (some (.int (-2))) S μ ρ := by
      intro c
      rw [if_pos c] at h
      exact h μ hR (fun _ _ => rfl)
    simp only [w_X10_reads_0, w_X10_reads_14, tAload, tIload, nth, tGetI, tGetR, tConst, tLconst, tBin, tUn, tI2l, tAld, tAldR, tAlen, tIast, tBast, tZast, tAast, tIret, tZret, tVret, tAret, tIf, tIf2, tGoto, tIstore, tAstore, sset, tIinc, tDup, tDup2, tPop, tPutI, tPutZ, tPutR, tCallV, tCallS, popN, tFn, tCopy, tMax, tMin, tSw, swc, tRem, tObjI, Option.toList, List.nil_append, List.cons_append, okR, true_and, and_true, true_or, or_true, Nat.zero_le, ne_eq, not_false_eq_true, Nat.reduceEqDiff, F_X11_isNoStore, F_X11_isNoCell, b2_z, h1, Decidable.not_not]
    refine ⟨fun c => bad (fun z => c z.1), fun c => ⟨fun cm => ?_, fun cm => bad (fun z => cm z.2)⟩⟩
    rw [if_neg (not_not_intro ⟨c, cm⟩)] at h
    obtain ⟨s, rfl, s0, -, s5⟩ := rg_ex (lo := 0) (hi := 4) c
    have hs : s < 5 := by omega
    rw [nI_clamp s0] at h
    obtain ⟨x1, x2, x3⟩ := W_st hW hs
    have hSt := RR_st hR hs
    have hA := hSt.1
    unfold StA at hA
    have hst := hcm.1 s hs
    have hag : agR A s := (hext.1 s hs).1
    have hi5 := inb_nI hs (show (5 : Nat) < 2 ^ 31 by decide)
    have x2' := x2
    unfold StS at x2
    have bad2 : ¬ canRead A s → Rp (some (.int (-5))) S μ ρ := by
      intro c
      rw [if_pos c] at h
      exact h μ hR (fun _ _ => rfl)
    simp only [w_X10_reads_17, w_X10_reads_58, tAload, tIload, nth, tGetI, tGetR, tConst, tLconst, tBin, tUn, tI2l, tAld, tAldR, tAlen, tIast, tBast, tZast, tAast, tIret, tZret, tVret, tAret, tIf, tIf2, tGoto, tIstore, tAstore, sset, tIinc, tDup, tDup2, tPop, tPutI, tPutZ, tPutR, tCallV, tCallS, popN, tFn, tCopy, tMax, tMin, tSw, swc, tRem, tObjI, Option.toList, List.nil_append, List.cons_append, okR, true_and, and_true, true_or, or_true, Nat.zero_le, ne_eq, not_false_eq_true, Nat.reduceEqDiff, F_X10_isNoLeader, F_X7_termAt, b2_z, h1, hW.2.2.2.2.1, hW.2.1, nI_clamp s0, x3, x1, x2, x2', hA, hi5, Decidable.not_not]
    refine ⟨by omega, s, A, hR, rfl, hs, fun c2 => bad2 (fun z => c2 z.1), fun c2 => ⟨fun c3 => bad2 (fun z => z.2.1 c3), fun c3 => ⟨hSt.2.1.2.2.1.1, hSt.2.1.2.1.2, fun c4 => ?_, fun c4 => bad2 (fun z => c4 ?_)⟩⟩⟩
    rotate_left
    · rw [St_termAt hSt]; exact z.2.2
    rw [St_termAt hSt] at c4
    rw [if_neg (not_not_intro ⟨c2, c3, c4⟩)] at h
    have r0 := RR_rd0 (c := m) hs hR
    simp only [w_X10_reads_61, w_X10_reads_128, tAload, tIload, nth, tGetI, tGetR, tConst, tLconst, tBin, tUn, tI2l, tAld, tAldR, tAlen, tIast, tBast, tZast, tAast, tIret, tZret, tVret, tAret, tIf, tIf2, tGoto, tIstore, tAstore, sset, tIinc, tDup, tDup2, tPop, tPutI, tPutZ, tPutR, tCallV, tCallS, popN, tFn, tCopy, tMax, tMin, tSw, swc, tRem, tObjI, Option.toList, List.nil_append, List.cons_append, okR, true_and, and_true, true_or, or_true, Nat.zero_le, ne_eq, not_false_eq_true, Nat.reduceEqDiff, F_X10_sendToAll, F_X7_isMajority, F_X7_answerRead, h1, x1, x2, x2', hA]
    have e0 : upI (upI (upI (upI (upI μ (a + 130 + 8 * s) 6 (A (514 * s + 14) + 1)) (a + 130 + 8 * s + 7) 0 1) (a + 130 + 8 * s + 7) 1 m) (a + 130 + 8 * s + 7) 2 0) (a + 130 + 8 * s + 7) 3 ((1 : Int32) <<< (nI s &&& 31)) = cRd0 μ (a + 130 + 8 * s) (A (514 * s + 14)) m ((1 : Int32) <<< (nI s &&& 31)) := rfl
    rw [e0]
    have ho : Ot a μ (cRd0 μ (a + 130 + 8 * s) (A (514 * s + 14)) m ((1 : Int32) <<< (nI s &&& 31))) := fun y hy => cRd0_ne (by omega) (by omega)
    have q3 : qRead0 A s m (514 * s + 3) = 2 := by rw [qRead0_out (by omega)]; exact c2
    have q24 : ∀ t, t < 5 → rg (qRead0 A s m (514 * s + 24 + t)) 0 121 := fun t ht => by rw [qRead0_out (by omega)]; exact hst.1.1.2.2.2 t ht
    have q12 : qRead0 A s m (514 * s + 12) = m := by
      unfold qRead0
      simp (disch := omega) only [up_ne, up_at]
    unfold qRead at h
    generalize qRead0 A s m = B at *
    generalize cRd0 μ (a + 130 + 8 * s) (A (514 * s + 14)) m ((1 : Int32) <<< (nI s &&& 31)) = ν at *
    refine ⟨s, B, hs, rfl, r0, q3, q24, fun μ' r' o' => ?_⟩
    have hSt' := RR_st r' hs
    have hm := St_mem hSt'
    have e3 : μ' (a + 130 + 8 * s + 7) 3 = qFeedsAll B s (514 * s + 15) := hSt'.1.2.2.2.2.2.2.2.2.2.2.2.2.2.2.2
    have f12 : qFeedsAll B s (514 * s + 12) = m := by rw [qFeedsAll_lo (by omega), q12]
    rw [e3, hSt'.2.2.2.2.2.1, hSt'.2.2.2.2.2.2]
    rw [hSt'.2.2.2.2.2.1, hSt'.2.2.2.2.2.2] at hm
    unfold qAnsRead at h
    refine ⟨hm.1, hm.2.1, fun c5 => ⟨fun z => absurd z (by decide), fun _ => ?_⟩, fun c5 => ⟨fun _ => ?_, fun z => absurd trivial z⟩⟩
    · unfold cMaj at c5
      simp only [if_pos c5] at h
      have r2 := RR_ans hs r' (by rw [f12]; exact cm)
      refine ⟨by rw [hSt'.1.2.2.2.2.2.2.2.2.2.2.2.2.2.1, f12]; exact cm, ?_⟩
      rw [(RR_st r2 hs).1.2.2.2.2.2.2.2.2.2.2.2.2.1]
      exact h _ r2 (ot_trans ho (ot_trans (Fm_Ot o') (fun y hy => cAns_ne (by omega))))
    · unfold cMaj at c5
      simp only [if_neg c5] at h
      rw [hSt'.1.2.2.2.2.2.2.2.2.2.2.2.2.1]
      exact h _ r' (ot_trans ho (Fm_Ot o'))
  · exact h.elim
