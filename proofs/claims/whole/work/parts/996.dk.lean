/-! ===== the class: a world begins anew ===== -/
def flF (f : Rw) (n : Nat) (v : Int32) : Rw := fun i => if i < n then v else f i
def w_J7_fill_53178_20 (M : CT) (G : Nat → PT) (Rp : RT) : PT := tVret Rp
def w_J7_fill_53178_5 (M : CT) (G : Nat → PT) (Rp : RT) : PT := tIload 2 <| tIload 3 <| tIf2 (fun x y => y ≤ x) (w_J7_fill_53178_20 M G Rp) <| tAload 0 <| tIload 2 <| tIload 1 <| tIast <| tIinc 2 1 <| tGoto (G 5)
def w_J7_fill_53178_0 (M : CT) (G : Nat → PT) (Rp : RT) : PT := tConst 0 <| tIstore 2 <| tAload 0 <| tAlen <| tIstore 3 <| G 5
set_option maxRecDepth 20000 in
theorem b_J7_fill_53178_20 {Z : Zt} {d : Nat} {p : Program} {e : Env} {R : Room} {s : State} {m : MethodId} {args : Array Value} {below : List Frame} {meth : Method} {c : Code} {Rp : RT} (C : Cx Z d jJ7_fill_53178 RJ7 p R s m args meth c) : Sd Z jJ7_fill_53178 p e R s m args below meth c (MQ below (QcS Z Rp) args s 0 0 (fun a => Z.2.2.1 < a)) 20 (w_J7_fill_53178_20 (MS Z d) (Gw Z 4 p e R s m args below meth c (MQ below (QcS Z Rp) args s 0 0 (fun a => Z.2.2.1 < a))) Rp) := by
  unfold w_J7_fill_53178_20
  exact s_vret C rfl (by decide +kernel)
set_option maxRecDepth 20000 in
theorem b_J7_fill_53178_5 {Z : Zt} {d : Nat} {p : Program} {e : Env} {R : Room} {s : State} {m : MethodId} {args : Array Value} {below : List Frame} {meth : Method} {c : Code} {Rp : RT} (C : Cx Z d jJ7_fill_53178 RJ7 p R s m args meth c) : Sd Z jJ7_fill_53178 p e R s m args below meth c (MQ below (QcS Z Rp) args s 0 0 (fun a => Z.2.2.1 < a)) 5 (w_J7_fill_53178_5 (MS Z d) (Gw Z 4 p e R s m args below meth c (MQ below (QcS Z Rp) args s 0 0 (fun a => Z.2.2.1 < a))) Rp) := by
  unfold w_J7_fill_53178_5
  refine s_iload_n (k := 2) C (by decide +kernel) ?_
  refine s_iload_n (k := 3) C (by decide +kernel) ?_
  refine s_icmp_ge (off := 13) (tgt := 20) C (by decide +kernel) (by decide) (b_J7_fill_53178_20 C) ?_
  refine s_aload_n (k := 0) C (by decide +kernel) ?_
  refine s_iload_n (k := 2) C (by decide +kernel) ?_
  refine s_iload_n (k := 1) C (by decide +kernel) ?_
  refine s_iast C (by decide +kernel) ?_
  refine s_iinc (n := 1) C (by decide +kernel) (by decide) ?_
  exact s_goto (off := (-12)) (tgt := 5) C (by decide +kernel) (by decide) (fun _ _ _ _ _ _ h => h)
set_option maxRecDepth 20000 in
theorem b_J7_fill_53178_0 {Z : Zt} {d : Nat} {p : Program} {e : Env} {R : Room} {s : State} {m : MethodId} {args : Array Value} {below : List Frame} {meth : Method} {c : Code} {Rp : RT} (C : Cx Z d jJ7_fill_53178 RJ7 p R s m args meth c) : Sd Z jJ7_fill_53178 p e R s m args below meth c (MQ below (QcS Z Rp) args s 0 0 (fun a => Z.2.2.1 < a)) 0 (w_J7_fill_53178_0 (MS Z d) (Gw Z 4 p e R s m args below meth c (MQ below (QcS Z Rp) args s 0 0 (fun a => Z.2.2.1 < a))) Rp) := by
  unfold w_J7_fill_53178_0
  refine s_iconst (n := 0) C (by decide +kernel) (by decide) ?_
  refine s_istore_n (k := 2) C (by decide +kernel) ?_
  refine s_aload_n (k := 0) C (by decide +kernel) ?_
  refine s_alen C (by decide +kernel) ?_
  refine s_istore_n (k := 3) C (by decide +kernel) ?_
  exact (fun _ _ _ _ _ _ h => h)
theorem ms_J7_fill_53178 {Z : Zt} {d : Nat} {S : Sh} {μ : Mi} {ρ : Mr} {Rp : RT} (a1 : Nat) (x2 : Int32) (h : ∀ G : Nat → PT, (∀ (L st : List Value) (S : Sh) (q : Nat × Nat) (μ : Mi) (ρ : Mr), w_J7_fill_53178_5 (MS Z d) G Rp L st S q μ ρ → G 5 L st S q μ ρ) → w_J7_fill_53178_0 (MS Z d) G Rp [.ref a1, .int x2, .null, .null] [] S (0, 0) μ ρ) : MS Z (d + 1) jJ7_fill_53178 [.ref a1, .int x2] S μ ρ Rp :=
  MS_of [.ref a1, .int x2, .null, .null] (by decide +kernel) rfl rfl (Nat.le_of_ble_eq_true rfl) rfl (fun p e R s m args below meth c C => b_J7_fill_53178_0 C _ _ _ _ _ _ (h _ (b_J7_fill_53178_5 C)))
def F_J7_fill_53178 : FT := fun As S μ ρ k => match As with
  | [.ref a, .int v] => (S.2 a).1 = 20 ∧ (S.2 a).2 < 2 ^ 31 ∧ k none (upF μ a (flF (μ a) (S.2 a).2 v))
  | _ => False
set_option maxHeartbeats 1000000 in
theorem f_J7_fill_53178 {Z : Zt} {d : Nat} {As : List Value} {S : Sh} {μ : Mi} {ρ : Mr} {Rp : RT} (h : F_J7_fill_53178 As S μ ρ (fun r μ' => Rp r S μ' ρ)) : MS Z (d + 1) jJ7_fill_53178 As S μ ρ Rp := by
  unfold F_J7_fill_53178 at h
  split at h
  · rename_i a v
    obtain ⟨a, hNa⟩ : ∃ n : Nat, n = a := ⟨a, rfl⟩
    subst hNa
    obtain ⟨h1, h2, h⟩ := h
    refine ms_J7_fill_53178 _ _ (fun G g5 => ?_)
    have loop : ∀ (j k : Nat), j + k = (S.2 a).2 → G 5 [.ref a, .int v, .int (nI k), .int (nI (S.2 a).2)] [] S (0, 0) (upF μ a (flF (μ a) k v)) ρ := by
      intro j
      induction j with
      | zero =>
        intro k hk
        obtain rfl : k = (S.2 a).2 := by omega
        apply g5
        simp only [w_J7_fill_53178_5, w_J7_fill_53178_20, tAload, tIload, nth, tGetI, tGetR, tConst, tLconst, tBin, tUn, tI2l, tAld, tAldR, tAlen, tIast, tBast, tZast, tAast, tIret, tZret, tVret, tAret, tIf, tIf2, tGoto, tIstore, tAstore, sset, tIinc, tDup, tDup2, tPop, tPutI, tPutZ, tPutR, tCallV, tCallS, popN, tFn, tCopy, tMax, tMin, tSw, swc, tRem, tObjI, Option.toList, List.nil_append, List.cons_append, okR, true_and, and_true, true_or, or_true, Nat.zero_le, ne_eq, not_false_eq_true, Nat.reduceEqDiff]
        exact ⟨fun _ => h, fun z => absurd (Int32.le_refl _) z⟩
      | succ j ih =>
        intro k hk
        apply g5
        simp only [w_J7_fill_53178_5, tAload, tIload, nth, tGetI, tGetR, tConst, tLconst, tBin, tUn, tI2l, tAld, tAldR, tAlen, tIast, tBast, tZast, tAast, tIret, tZret, tVret, tAret, tIf, tIf2, tGoto, tIstore, tAstore, sset, tIinc, tDup, tDup2, tPop, tPutI, tPutZ, tPutR, tCallV, tCallS, popN, tFn, tCopy, tMax, tMin, tSw, swc, tRem, tObjI, Option.toList, List.nil_append, List.cons_append, okR, true_and, and_true, true_or, or_true, Nat.zero_le, ne_eq, not_false_eq_true, Nat.reduceEqDiff, h1, nI_s1]
        rw [nI_leI (by omega) (by omega), nI_clamp (by omega)]
        refine ⟨fun z => absurd z (by omega), fun _ => ⟨inb_nI (by omega) h2, ?_⟩⟩
        have e : upI (upF μ a (flF (μ a) k v)) a k v = upF μ a (flF (μ a) (k + 1) v) := by
          rw [upI_upF, upF_same, upF_upF]
          congr 1
          funext i
          unfold up flF
          by_cases c : i = k
          · subst c; rw [if_pos rfl, if_pos (by omega)]
          · rw [if_neg c]
            by_cases c2 : i < k
            · rw [if_pos c2, if_pos (by omega)]
            · rw [if_neg c2, if_neg (by omega)]
        rw [e]
        exact ih (k + 1) (by omega)
    have l0 : upF μ a (flF (μ a) 0 v) = μ := by
      have : flF (μ a) 0 v = μ a := by funext i; unfold flF; rw [if_neg (by omega)]
      rw [this, upF_id]
    have := loop (S.2 a).2 0 (by omega)
    rw [l0] at this
    simp only [w_J7_fill_53178_0, tAload, tIload, nth, tGetI, tGetR, tConst, tLconst, tBin, tUn, tI2l, tAld, tAldR, tAlen, tIast, tBast, tZast, tAast, tIret, tZret, tVret, tAret, tIf, tIf2, tGoto, tIstore, tAstore, sset, tIinc, tDup, tDup2, tPop, tPutI, tPutZ, tPutR, tCallV, tCallS, popN, tFn, tCopy, tMax, tMin, tSw, swc, tRem, tObjI, Option.toList, List.nil_append, List.cons_append, okR, true_and, and_true, true_or, or_true, Nat.zero_le, ne_eq, not_false_eq_true, Nat.reduceEqDiff, h1]
    exact ⟨by decide, this⟩
  · exact h.elim
theorem lk_all : lkS 33554431 := by
  intro a b ha hb
  rw [ix5, ix5, bit_lsb (by omega), bit_lsb (by omega)]
  have h : ∀ k, k < 25 → (33554431 : Int32).toBitVec.getLsbD k = true := fun k hk => all_lsb hk
  rw [h _ (by omega), h _ (by omega)]
theorem qInit_0 {A : Rw} {m : Int32} {s : Nat} (hs : s < 5) : qInit A m (514 * s) = 1 := by
  unfold qInit in1
  rcases (by omega : s = 0 ∨ s = 1 ∨ s = 2 ∨ s = 3 ∨ s = 4) with z | z | z | z | z <;> subst z <;> simp (disch := omega) only [up_ne, up_at]
theorem qInit_2 {A : Rw} {m : Int32} {s : Nat} (hs : s < 5) : qInit A m (514 * s + 2) = -1 := by
  unfold qInit in1
  rcases (by omega : s = 0 ∨ s = 1 ∨ s = 2 ∨ s = 3 ∨ s = 4) with z | z | z | z | z <;> subst z <;> simp (disch := omega) only [up_ne, up_at]
theorem qInit_z {A : Rw} {m : Int32} {i : Nat} (h : i < 4513 ∨ i = 4515) (h0 : i ≠ 0 ∧ i ≠ 514 ∧ i ≠ 1028 ∧ i ≠ 1542 ∧ i ≠ 2056) (h2 : i ≠ 2 ∧ i ≠ 516 ∧ i ≠ 1030 ∧ i ≠ 1544 ∧ i ≠ 2058) : qInit A m i = 0 := by
  unfold qInit in1 zr0
  simp (disch := omega) only [up_ne, if_pos (show i < 4516 by omega)]
theorem qInit_13 {A : Rw} {m : Int32} : qInit A m 4513 = 33554431 := by unfold qInit; rw [up_ne (by omega), up_at]
theorem qInit_14 {A : Rw} {m : Int32} : qInit A m 4514 = m := by unfold qInit; rw [up_at]
theorem qInit_s {A : Rw} {m : Int32} {s k : Nat} (hs : s < 5) (hk : k < 514) (h0 : k ≠ 0) (h2 : k ≠ 2) : qInit A m (514 * s + k) = 0 := by
  rcases (by omega : s = 0 ∨ s = 1 ∨ s = 2 ∨ s = 3 ∨ s = 4) with z | z | z | z | z <;> subst z <;> exact qInit_z (by omega) (by omega) (by omega)
def w_X6_renew_0 (M : CT) (G : Nat → PT) (Rp : RT) : PT := tAload 0 <| tConst 0 <| tPutI 6 5 0 <| tAload 0 <| tConst 0 <| tPutI 6 5 1 <| tAload 0 <| tIload 1 <| tPutI 6 5 2 <| tAload 0 <| tConst 0 <| tPutI 6 5 3 <| tAload 0 <| tGetR 6 5 4 <| tConst 0 <| tFn 2 F_J7_fill_53178 <| tVret Rp
set_option maxRecDepth 20000 in
theorem b_X6_renew_0 {Z : Zt} {d : Nat} {p : Program} {e : Env} {R : Room} {s : State} {m : MethodId} {args : Array Value} {below : List Frame} {meth : Method} {c : Code} {Rp : RT} (C : Cx Z (d + 1) jX6_renew RX6 p R s m args meth c) : Sd Z jX6_renew p e R s m args below meth c (MQ below (QcS Z Rp) args s 0 0 (fun a => Z.2.2.1 < a)) 0 (w_X6_renew_0 (MS Z (d + 1)) (Gw Z 2 p e R s m args below meth c (MQ below (QcS Z Rp) args s 0 0 (fun a => Z.2.2.1 < a))) Rp) := by
  unfold w_X6_renew_0
  refine s_aload_n (k := 0) C (by decide +kernel) ?_
  refine s_iconst (n := 0) C (by decide +kernel) (by decide) ?_
  refine s_putI C w_1_160 (by decide +kernel) rfl (Or.inl rfl) ?_
  refine s_aload_n (k := 0) C (by decide +kernel) ?_
  refine s_iconst (n := 0) C (by decide +kernel) (by decide) ?_
  refine s_putI C w_1_164 (by decide +kernel) rfl (Or.inl rfl) ?_
  refine s_aload_n (k := 0) C (by decide +kernel) ?_
  refine s_iload_n (k := 1) C (by decide +kernel) ?_
  refine s_putI C w_1_168 (by decide +kernel) rfl (Or.inl rfl) ?_
  refine s_aload_n (k := 0) C (by decide +kernel) ?_
  refine s_iconst (n := 0) C (by decide +kernel) (by decide) ?_
  refine s_putI C w_1_171 (by decide +kernel) rfl (Or.inl rfl) ?_
  refine s_aload_n (k := 0) C (by decide +kernel) ?_
  refine s_getR C w_1_174 (by decide +kernel) rfl ?_
  refine s_iconst (n := 0) C (by decide +kernel) (by decide) ?_
  refine s_fnS C (j2 := jJ7_fill_53178) (by decide +kernel) rfl w_2_87 w_2_88 w_1_8 w_2_89 (by decide +kernel) (fun _ _ _ _ _ h => f_J7_fill_53178 h) ?_
  exact s_vret C rfl (by decide +kernel)
theorem ms_X6_renew {Z : Zt} {d : Nat} {S : Sh} {μ : Mi} {ρ : Mr} {Rp : RT} (a0 : Nat) (x1 : Int32) (h : ∀ G : Nat → PT, w_X6_renew_0 (MS Z (d + 1)) G Rp [.ref a0, .int x1] [] S (0, 0) μ ρ) : MS Z (d + 2) jX6_renew [.ref a0, .int x1] S μ ρ Rp :=
  MS_of [.ref a0, .int x1] (by decide +kernel) rfl rfl (Nat.le_of_ble_eq_true rfl) rfl (fun p e R s m args below meth c C => b_X6_renew_0 C _ _ _ _ _ _ (h _ ))
def F_X6_renew : FT := fun As S μ ρ k => match As with
  | [.ref a, .int m] => S.2 a = (6, 5) ∧ S.2 (a + 1) = (20, 4) ∧ ρ a 4 = a + 1 ∧ ∀ μ', (μ' a 0 = 0 ∧ μ' a 1 = 0 ∧ μ' a 2 = m ∧ μ' a 3 = 0) → (∀ i, i < 4 → μ' (a + 1) i = 0) → kp2 a (a + 1) μ μ' → k none μ'
  | _ => False
theorem r_X6_renew {As S μ ρ k} (h : F_X6_renew As S μ ρ k) : ∃ a As', As = Value.ref a :: As' ∧ S.2 a = (6, 5) := by
  unfold F_X6_renew at h
  split at h
  · exact ⟨_, _, rfl, h.1⟩
  · exact h.elim
set_option maxHeartbeats 1000000 in
theorem f_X6_renew {Z : Zt} {d : Nat} {As : List Value} {S : Sh} {μ : Mi} {ρ : Mr} {Rp : RT} (h : F_X6_renew As S μ ρ (fun r μ' => Rp r S μ' ρ)) : MS Z (d + 2) jX6_renew As S μ ρ Rp := by
  unfold F_X6_renew at h
  split at h
  · rename_i a m
    obtain ⟨a, hNa⟩ : ∃ n : Nat, n = a := ⟨a, rfl⟩
    subst hNa
    obtain ⟨h1, h2, h3, h⟩ := h
    refine ms_X6_renew _ _ (fun G => ?_)
    simp only [w_X6_renew_0, tAload, tIload, nth, tGetI, tGetR, tConst, tLconst, tBin, tUn, tI2l, tAld, tAldR, tAlen, tIast, tBast, tZast, tAast, tIret, tZret, tVret, tAret, tIf, tIf2, tGoto, tIstore, tAstore, sset, tIinc, tDup, tDup2, tPop, tPutI, tPutZ, tPutR, tCallV, tCallS, popN, tFn, tCopy, tMax, tMin, tSw, swc, tRem, tObjI, Option.toList, List.nil_append, List.cons_append, okR, true_and, and_true, true_or, or_true, Nat.zero_le, ne_eq, not_false_eq_true, Nat.reduceEqDiff, F_J7_fill_53178, h1, h2, h3]
    refine ⟨by decide, h _ ?_ (fun i hi => ?_) (fun y y1 y2 => ?_)⟩
    · rw [upF_ne (by omega)]
      simp (disch := omega) only [upI_k, upI_at, and_self]
    · rw [upF_same]; unfold flF; rw [if_pos hi]
    · rw [upF_ne y2, upI_ne y1, upI_ne y1, upI_ne y1, upI_ne y1]
  · exact h.elim
def w_X7_renew_0 (M : CT) (G : Nat → PT) (Rp : RT) : PT := tAload 0 <| tConst 1 <| tPutZ 7 18 1 <| tAload 0 <| tConst 0 <| tPutI 7 18 2 <| tAload 0 <| tConst (-1) <| tPutI 7 18 3 <| tAload 0 <| tConst 0 <| tPutI 7 18 4 <| tAload 0 <| tConst 0 <| tPutI 7 18 5 <| tAload 0 <| tConst 0 <| tPutI 7 18 6 <| tAload 0 <| tConst 0 <| tPutI 7 18 7 <| tAload 0 <| tConst 0 <| tPutI 7 18 8 <| tAload 0 <| tGetR 7 18 16 <| tIload 1 <| tFn 2 F_X6_renew <| tAload 0 <| tGetR 7 18 17 <| tFn 1 F_X5_clear <| tAload 0 <| tGetR 7 18 13 <| tConst 0 <| tFn 2 F_J7_fill_53178 <| tAload 0 <| tFn 1 F_X7_findMembers <| tVret Rp
set_option maxRecDepth 20000 in
theorem b_X7_renew_0 {Z : Zt} {d : Nat} {p : Program} {e : Env} {R : Room} {s : State} {m : MethodId} {args : Array Value} {below : List Frame} {meth : Method} {c : Code} {Rp : RT} (C : Cx Z (d + 2) jX7_renew RX7 p R s m args meth c) : Sd Z jX7_renew p e R s m args below meth c (MQ below (QcS Z Rp) args s 0 0 (fun a => Z.2.2.1 < a)) 0 (w_X7_renew_0 (MS Z (d + 2)) (Gw Z 2 p e R s m args below meth c (MQ below (QcS Z Rp) args s 0 0 (fun a => Z.2.2.1 < a))) Rp) := by
  unfold w_X7_renew_0
  refine s_aload_n (k := 0) C (by decide +kernel) ?_
  refine s_iconst (n := 1) C (by decide +kernel) (by decide) ?_
  refine s_putZ C w_1_222 (by decide +kernel) rfl (Or.inl rfl) ?_
  refine s_aload_n (k := 0) C (by decide +kernel) ?_
  refine s_iconst (n := 0) C (by decide +kernel) (by decide) ?_
  refine s_putI C w_1_225 (by decide +kernel) rfl (Or.inl rfl) ?_
  refine s_aload_n (k := 0) C (by decide +kernel) ?_
  refine s_iconst (n := (-1)) C (by decide +kernel) (by decide) ?_
  refine s_putI C w_1_228 (by decide +kernel) rfl (Or.inl rfl) ?_
  refine s_aload_n (k := 0) C (by decide +kernel) ?_
  refine s_iconst (n := 0) C (by decide +kernel) (by decide) ?_
  refine s_putI C w_1_231 (by decide +kernel) rfl (Or.inl rfl) ?_
  refine s_aload_n (k := 0) C (by decide +kernel) ?_
  refine s_iconst (n := 0) C (by decide +kernel) (by decide) ?_
  refine s_putI C w_1_236 (by decide +kernel) rfl (Or.inl rfl) ?_
  refine s_aload_n (k := 0) C (by decide +kernel) ?_
  refine s_iconst (n := 0) C (by decide +kernel) (by decide) ?_
  refine s_putI C w_1_239 (by decide +kernel) rfl (Or.inl rfl) ?_
  refine s_aload_n (k := 0) C (by decide +kernel) ?_
  refine s_iconst (n := 0) C (by decide +kernel) (by decide) ?_
  refine s_putI C w_2_2 (by decide +kernel) rfl (Or.inl rfl) ?_
  refine s_aload_n (k := 0) C (by decide +kernel) ?_
  refine s_iconst (n := 0) C (by decide +kernel) (by decide) ?_
  refine s_putI C w_2_6 (by decide +kernel) rfl (Or.inl rfl) ?_
  refine s_aload_n (k := 0) C (by decide +kernel) ?_
  refine s_getR C w_2_32 (by decide +kernel) rfl ?_
  refine s_iload_n (k := 1) C (by decide +kernel) ?_
  refine s_fnV C (j2 := jX6_renew) (cl := 6) (nf := 5) rfl rfl (by decide +kernel) rfl w_2_83 w_2_84 w_2_85 w_1_6 w_2_86 (by decide +kernel) (fun _ _ _ _ _ h => f_X6_renew h) (fun _ _ _ _ _ h => r_X6_renew h) ?_
  refine s_aload_n (k := 0) C (by decide +kernel) ?_
  refine s_getR C w_2_35 (by decide +kernel) rfl ?_
  refine s_fnV C (j2 := jX5_clear) (cl := 5) (nf := 4) rfl rfl (by decide +kernel) rfl w_2_90 w_2_91 w_2_92 w_1_7 w_2_93 (by decide +kernel) (fun _ _ _ _ _ h => f_X5_clear h) (fun _ _ _ _ _ h => r_X5_clear h) ?_
  refine s_aload_n (k := 0) C (by decide +kernel) ?_
  refine s_getR C w_2_23 (by decide +kernel) rfl ?_
  refine s_iconst (n := 0) C (by decide +kernel) (by decide) ?_
  refine s_fnS C (j2 := jJ7_fill_53178) (by decide +kernel) rfl w_2_94 w_2_88 w_1_8 w_2_89 (by decide +kernel) (fun _ _ _ _ _ h => f_J7_fill_53178 h) ?_
  refine s_aload_n (k := 0) C (by decide +kernel) ?_
  refine s_fnV C (j2 := jX7_findMembers) (cl := 7) (nf := 18) rfl rfl (by decide +kernel) rfl w_2_95 w_2_96 w_2_97 w_1_5 w_2_98 (by decide +kernel) (fun _ _ _ _ _ h => f_X7_findMembers h) (fun _ _ _ _ _ h => r_X7_findMembers h) ?_
  exact s_vret C rfl (by decide +kernel)
theorem ms_X7_renew {Z : Zt} {d : Nat} {S : Sh} {μ : Mi} {ρ : Mr} {Rp : RT} (a0 : Nat) (x1 : Int32) (h : ∀ G : Nat → PT, w_X7_renew_0 (MS Z (d + 2)) G Rp [.ref a0, .int x1] [] S (0, 0) μ ρ) : MS Z (d + 3) jX7_renew [.ref a0, .int x1] S μ ρ Rp :=
  MS_of [.ref a0, .int x1] (by decide +kernel) rfl rfl (Nat.le_of_ble_eq_true rfl) rfl (fun p e R s m args below meth c C => b_X7_renew_0 C _ _ _ _ _ _ (h _ ))
def F_X7_renew : FT := fun As S μ ρ k => match As with
  | [.ref a, .int m] => S.2 a = (7, 18) ∧ StS S ρ a ∧ ∃ (s : Nat) (A : Rw), s < 5 ∧ μ a 0 = nI s ∧ rg m 1 31 ∧ ∀ μ', St (qInit A m) s a μ' → Fm8 a μ μ' → k none μ'
  | _ => False
theorem r_X7_renew {As S μ ρ k} (h : F_X7_renew As S μ ρ k) : ∃ a As', As = Value.ref a :: As' ∧ S.2 a = (7, 18) := by
  unfold F_X7_renew at h
  split at h
  · exact ⟨_, _, rfl, h.1⟩
  · exact h.elim
set_option maxHeartbeats 1000000 in
theorem f_X7_renew {Z : Zt} {d : Nat} {As : List Value} {S : Sh} {μ : Mi} {ρ : Mr} {Rp : RT} (h : F_X7_renew As S μ ρ (fun r μ' => Rp r S μ' ρ)) : MS Z (d + 3) jX7_renew As S μ ρ Rp := by
  unfold F_X7_renew at h
  split at h
  · rename_i a m
    obtain ⟨a, hNa⟩ : ∃ n : Nat, n = a := ⟨a, rfl⟩
    subst hNa
    obtain ⟨h1, h2, s, A, hs, h0, hm, h⟩ := h
    have h2' := h2
    unfold StS at h2
    refine ms_X7_renew _ _ (fun G => ?_)
    simp only [w_X7_renew_0, tAload, tIload, nth, tGetI, tGetR, tConst, tLconst, tBin, tUn, tI2l, tAld, tAldR, tAlen, tIast, tBast, tZast, tAast, tIret, tZret, tVret, tAret, tIf, tIf2, tGoto, tIstore, tAstore, sset, tIinc, tDup, tDup2, tPop, tPutI, tPutZ, tPutR, tCallV, tCallS, popN, tFn, tCopy, tMax, tMin, tSw, swc, tRem, tObjI, Option.toList, List.nil_append, List.cons_append, okR, true_and, and_true, true_or, or_true, Nat.zero_le, ne_eq, not_false_eq_true, Nat.reduceEqDiff, F_X6_renew, F_X5_clear, F_J7_fill_53178, F_X7_findMembers, h1, h2, h2']
    refine fun μ1 q1 q2 q3 => ⟨by decide, ?_⟩
    have r7 : upF (clr μ1 (a + 7)) (a + 2) (flF (clr μ1 (a + 7) (a + 2)) 4 0) a 7 = 0 := by
      rw [upF_ne (by omega), clr_ne (by omega), q3 _ (by omega) (by omega)]
      simp (disch := omega) only [upI_k, upI_at]
    have r5 : upF (clr μ1 (a + 7)) (a + 2) (flF (clr μ1 (a + 7) (a + 2)) 4 0) (a + 5) 0 = 0 := by
      rw [upF_ne (by omega), clr_ne (by omega)]
      exact q1.1
    rw [r7, r5]
    refine ⟨⟨by decide, by decide⟩, by decide, h _ (St_find (n := 0) ?_ ?_ ⟨fun i hi => ?_, fun i hi => ?_, ?_⟩ (fun p p1 p2 => ?_) ?_) (fun y hy => ?_)⟩
    · unfold StA
      rw [qInit_0 hs, qInit_2 hs]
      simp (disch := omega) only [qInit_s]
      rw [upF_ne (by omega), upF_ne (by omega), upF_ne (by omega), clr_ne (by omega), clr_ne (by omega), q3 a (by omega) (by omega)]
      simp (disch := omega) only [upI_k, upI_at, clr_0, h0, q1, and_self]
    · unfold StB
      rw [qInit_0 hs, qInit_14]
      simp (disch := omega) only [qInit_s]
      exact ⟨Or.inr trivial, ⟨by decide, by decide⟩, ⟨by decide, by decide⟩, by decide, ⟨by decide, by decide⟩, ⟨by decide, by decide⟩, fun _ => trivial, hm⟩
    · rw [upF_same, show 514 * s + 16 + i = 514 * s + (16 + i) by omega, qInit_s hs (by omega) (by omega) (by omega)]
      unfold flF
      rw [if_pos hi]
    · rw [upF_ne (by omega), clr_ne (by omega), show 514 * s + 20 + i = 514 * s + (20 + i) by omega, qInit_s hs (by omega) (by omega) (by omega)]
      exact q2 i hi
    · rw [upF_ne (by omega), clr_ne (by omega), qInit_14, qInit_s hs (by omega) (by omega) (by omega), q1.2.2.1]
      rfl
    · rw [qInit_s hs (by omega) (by omega) (by omega)] at p2
      rw [show (0 : Int32).toNatClampNeg = 0 from rfl] at p2
      omega
    · rw [qInit_s hs (by omega) (by omega) (by omega)]; rfl
    · rw [cSet_ne (by omega), upF_ne (by omega), clr_ne (by omega), q3 _ (by omega) (by omega)]
      simp (disch := omega) only [upI_ne]
  · exact h.elim
def w_X1_renew_0 (M : CT) (G : Nat → PT) (Rp : RT) : PT := tAload 0 <| tConst 0 <| tPutI 1 6 2 <| tAload 0 <| tConst 0 <| tPutI 1 6 3 <| tAload 0 <| tConst 0 <| tPutI 1 6 4 <| tAload 0 <| tConst 0 <| tPutI 1 6 5 <| tVret Rp
set_option maxRecDepth 20000 in
theorem b_X1_renew_0 {Z : Zt} {d : Nat} {p : Program} {e : Env} {R : Room} {s : State} {m : MethodId} {args : Array Value} {below : List Frame} {meth : Method} {c : Code} {Rp : RT} (C : Cx Z d jX1_renew RX1 p R s m args meth c) : Sd Z jX1_renew p e R s m args below meth c (MQ below (QcS Z Rp) args s 0 0 (fun a => Z.2.2.1 < a)) 0 (w_X1_renew_0 (MS Z d) (Gw Z 1 p e R s m args below meth c (MQ below (QcS Z Rp) args s 0 0 (fun a => Z.2.2.1 < a))) Rp) := by
  unfold w_X1_renew_0
  refine s_aload_n (k := 0) C (by decide +kernel) ?_
  refine s_iconst (n := 0) C (by decide +kernel) (by decide) ?_
  refine s_putI C w_1_123 (by decide +kernel) rfl (Or.inl rfl) ?_
  refine s_aload_n (k := 0) C (by decide +kernel) ?_
  refine s_iconst (n := 0) C (by decide +kernel) (by decide) ?_
  refine s_putI C w_1_128 (by decide +kernel) rfl (Or.inl rfl) ?_
  refine s_aload_n (k := 0) C (by decide +kernel) ?_
  refine s_iconst (n := 0) C (by decide +kernel) (by decide) ?_
  refine s_putI C w_1_132 (by decide +kernel) rfl (Or.inl rfl) ?_
  refine s_aload_n (k := 0) C (by decide +kernel) ?_
  refine s_iconst (n := 0) C (by decide +kernel) (by decide) ?_
  refine s_putI C w_1_135 (by decide +kernel) rfl (Or.inl rfl) ?_
  exact s_vret C rfl (by decide +kernel)
theorem ms_X1_renew {Z : Zt} {d : Nat} {S : Sh} {μ : Mi} {ρ : Mr} {Rp : RT} (a0 : Nat) (h : ∀ G : Nat → PT, w_X1_renew_0 (MS Z d) G Rp [.ref a0] [] S (0, 0) μ ρ) : MS Z (d + 1) jX1_renew [.ref a0] S μ ρ Rp :=
  MS_of [.ref a0] (by decide +kernel) rfl rfl (Nat.le_of_ble_eq_true rfl) rfl (fun p e R s m args below meth c C => b_X1_renew_0 C _ _ _ _ _ _ (h _ ))
def F_X1_renew : FT := fun As S μ ρ k => match As with
  | [.ref a] => S.2 a = (1, 6) ∧ k none (upI (upI (upI (upI μ a 2 0) a 3 0) a 4 0) a 5 0)
  | _ => False
theorem r_X1_renew {As S μ ρ k} (h : F_X1_renew As S μ ρ k) : ∃ a As', As = Value.ref a :: As' ∧ S.2 a = (1, 6) := by
  unfold F_X1_renew at h
  split at h
  · exact ⟨_, _, rfl, h.1⟩
  · exact h.elim
set_option maxHeartbeats 1000000 in
theorem f_X1_renew {Z : Zt} {d : Nat} {As : List Value} {S : Sh} {μ : Mi} {ρ : Mr} {Rp : RT} (h : F_X1_renew As S μ ρ (fun r μ' => Rp r S μ' ρ)) : MS Z (d + 1) jX1_renew As S μ ρ Rp := by
  unfold F_X1_renew at h
  split at h
  · rename_i a
    obtain ⟨h1, h⟩ := h
    refine ms_X1_renew _ (fun G => ?_)
    simp only [w_X1_renew_0, tAload, tIload, nth, tGetI, tGetR, tConst, tLconst, tBin, tUn, tI2l, tAld, tAldR, tAlen, tIast, tBast, tZast, tAast, tIret, tZret, tVret, tAret, tIf, tIf2, tGoto, tIstore, tAstore, sset, tIinc, tDup, tDup2, tPop, tPutI, tPutZ, tPutR, tCallV, tCallS, popN, tFn, tCopy, tMax, tMin, tSw, swc, tRem, tObjI, Option.toList, List.nil_append, List.cons_append, okR, true_and, and_true, true_or, or_true, Nat.zero_le, ne_eq, not_false_eq_true, Nat.reduceEqDiff, h1]
    exact h
  · exact h.elim
def w_X10_renew_23 (M : CT) (G : Nat → PT) (Rp : RT) : PT := tAload 0 <| tGetR 10 6 1 <| tFn 1 F_X1_renew <| tAload 0 <| tGetR 10 6 2 <| tConst 0 <| tFn 2 F_J7_fill_53178 <| tAload 0 <| tGetR 10 6 3 <| tConst 0 <| tFn 2 F_J7_fill_53178 <| tAload 0 <| tIload 1 <| tPutI 10 6 4 <| tAload 0 <| tConst 0 <| tPutZ 10 6 5 <| tVret Rp
def w_X10_renew_2 (M : CT) (G : Nat → PT) (Rp : RT) : PT := tIload 2 <| tConst 5 <| tIf2 (fun x y => y ≤ x) (w_X10_renew_23 M G Rp) <| tAload 0 <| tGetR 10 6 0 <| tIload 2 <| tAldR 37 <| tIload 1 <| tFn 2 F_X7_renew <| tIinc 2 1 <| tGoto (G 2)
def w_X10_renew_0 (M : CT) (G : Nat → PT) (Rp : RT) : PT := tConst 0 <| tIstore 2 <| G 2
set_option maxRecDepth 20000 in
theorem b_X10_renew_23 {Z : Zt} {d : Nat} {p : Program} {e : Env} {R : Room} {s : State} {m : MethodId} {args : Array Value} {below : List Frame} {meth : Method} {c : Code} {Rp : RT} (C : Cx Z (d + 3) jX10_renew RX10 p R s m args meth c) : Sd Z jX10_renew p e R s m args below meth c (MQ below (QcS Z Rp) args s 0 0 (fun a => Z.2.2.1 < a)) 23 (w_X10_renew_23 (MS Z (d + 3)) (Gw Z 3 p e R s m args below meth c (MQ below (QcS Z Rp) args s 0 0 (fun a => Z.2.2.1 < a))) Rp) := by
  unfold w_X10_renew_23
  refine s_aload_n (k := 0) C (by decide +kernel) ?_
  refine s_getR C w_2_117 (by decide +kernel) rfl ?_
  refine s_fnV C (j2 := jX1_renew) (cl := 1) (nf := 6) rfl rfl (by decide +kernel) rfl w_2_108 w_2_109 w_2_110 w_1_3 w_2_111 (by decide +kernel) (fun _ _ _ _ _ h => f_X1_renew h) (fun _ _ _ _ _ h => r_X1_renew h) ?_
  refine s_aload_n (k := 0) C (by decide +kernel) ?_
  refine s_getR C w_2_121 (by decide +kernel) rfl ?_
  refine s_iconst (n := 0) C (by decide +kernel) (by decide) ?_
  refine s_fnS C (j2 := jJ7_fill_53178) (by decide +kernel) rfl w_2_112 w_2_88 w_1_8 w_2_89 (by decide +kernel) (fun _ _ _ _ _ h => f_J7_fill_53178 h) ?_
  refine s_aload_n (k := 0) C (by decide +kernel) ?_
  refine s_getR C w_2_124 (by decide +kernel) rfl ?_
  refine s_iconst (n := 0) C (by decide +kernel) (by decide) ?_
  refine s_fnS C (j2 := jJ7_fill_53178) (by decide +kernel) rfl w_2_112 w_2_88 w_1_8 w_2_89 (by decide +kernel) (fun _ _ _ _ _ h => f_J7_fill_53178 h) ?_
  refine s_aload_n (k := 0) C (by decide +kernel) ?_
  refine s_iload_n (k := 1) C (by decide +kernel) ?_
  refine s_putI C w_2_126 (by decide +kernel) rfl (Or.inl rfl) ?_
  refine s_aload_n (k := 0) C (by decide +kernel) ?_
  refine s_iconst (n := 0) C (by decide +kernel) (by decide) ?_
  refine s_putZ C w_2_128 (by decide +kernel) rfl (Or.inl rfl) ?_
  exact s_vret C rfl (by decide +kernel)
set_option maxRecDepth 20000 in
theorem b_X10_renew_2 {Z : Zt} {d : Nat} {p : Program} {e : Env} {R : Room} {s : State} {m : MethodId} {args : Array Value} {below : List Frame} {meth : Method} {c : Code} {Rp : RT} (C : Cx Z (d + 3) jX10_renew RX10 p R s m args meth c) : Sd Z jX10_renew p e R s m args below meth c (MQ below (QcS Z Rp) args s 0 0 (fun a => Z.2.2.1 < a)) 2 (w_X10_renew_2 (MS Z (d + 3)) (Gw Z 3 p e R s m args below meth c (MQ below (QcS Z Rp) args s 0 0 (fun a => Z.2.2.1 < a))) Rp) := by
  unfold w_X10_renew_2
  refine s_iload_n (k := 2) C (by decide +kernel) ?_
  refine s_iconst (n := 5) C (by decide +kernel) (by decide) ?_
  refine s_icmp_ge (off := 19) (tgt := 23) C (by decide +kernel) (by decide) (b_X10_renew_23 C) ?_
  refine s_aload_n (k := 0) C (by decide +kernel) ?_
  refine s_getR C w_2_113 (by decide +kernel) rfl ?_
  refine s_iload_n (k := 2) C (by decide +kernel) ?_
  refine s_aald C rfl (by decide +kernel) ?_
  refine s_iload_n (k := 1) C (by decide +kernel) ?_
  refine s_fnV C (j2 := jX7_renew) (cl := 7) (nf := 18) rfl rfl (by decide +kernel) rfl w_2_79 w_2_80 w_2_81 w_1_5 w_2_82 (by decide +kernel) (fun _ _ _ _ _ h => f_X7_renew h) (fun _ _ _ _ _ h => r_X7_renew h) ?_
  refine s_iinc (n := 1) C (by decide +kernel) (by decide) ?_
  exact s_goto (off := (-18)) (tgt := 2) C (by decide +kernel) (by decide) (fun _ _ _ _ _ _ h => h)
set_option maxRecDepth 20000 in
theorem b_X10_renew_0 {Z : Zt} {d : Nat} {p : Program} {e : Env} {R : Room} {s : State} {m : MethodId} {args : Array Value} {below : List Frame} {meth : Method} {c : Code} {Rp : RT} (C : Cx Z (d + 3) jX10_renew RX10 p R s m args meth c) : Sd Z jX10_renew p e R s m args below meth c (MQ below (QcS Z Rp) args s 0 0 (fun a => Z.2.2.1 < a)) 0 (w_X10_renew_0 (MS Z (d + 3)) (Gw Z 3 p e R s m args below meth c (MQ below (QcS Z Rp) args s 0 0 (fun a => Z.2.2.1 < a))) Rp) := by
  unfold w_X10_renew_0
  refine s_iconst (n := 0) C (by decide +kernel) (by decide) ?_
  refine s_istore_n (k := 2) C (by decide +kernel) ?_
  exact (fun _ _ _ _ _ _ h => h)
theorem ms_X10_renew {Z : Zt} {d : Nat} {S : Sh} {μ : Mi} {ρ : Mr} {Rp : RT} (a0 : Nat) (x1 : Int32) (h : ∀ G : Nat → PT, (∀ (L st : List Value) (S : Sh) (q : Nat × Nat) (μ : Mi) (ρ : Mr), w_X10_renew_2 (MS Z (d + 3)) G Rp L st S q μ ρ → G 2 L st S q μ ρ) → w_X10_renew_0 (MS Z (d + 3)) G Rp [.ref a0, .int x1, .null] [] S (0, 0) μ ρ) : MS Z (d + 4) jX10_renew [.ref a0, .int x1] S μ ρ Rp :=
  MS_of [.ref a0, .int x1, .null] (by decide +kernel) rfl rfl (Nat.le_of_ble_eq_true rfl) rfl (fun p e R s m args below meth c C => b_X10_renew_0 C _ _ _ _ _ _ (h _ (b_X10_renew_2 C)))
def F_X10_renew : FT := fun As S μ ρ k => match As with
  | [.ref a, .int m] => S.2 a = (10, 6) ∧ WOK a S ρ ∧ WI a μ ∧ rg m 1 31 ∧ ∀ (A : Rw) (μ' : Mi), RR (qInit A m) a S μ' ρ → Ot a μ μ' → k none μ'
  | _ => False
theorem r_X10_renew {As S μ ρ k} (h : F_X10_renew As S μ ρ k) : ∃ a As', As = Value.ref a :: As' ∧ S.2 a = (10, 6) := by
  unfold F_X10_renew at h
  split at h
  · exact ⟨_, _, rfl, h.1⟩
  · exact h.elim
set_option maxHeartbeats 1000000 in
theorem f_X10_renew {Z : Zt} {d : Nat} {As : List Value} {S : Sh} {μ : Mi} {ρ : Mr} {Rp : RT} (h : F_X10_renew As S μ ρ (fun r μ' => Rp r S μ' ρ)) : MS Z (d + 4) jX10_renew As S μ ρ Rp := by
  unfold F_X10_renew at h
  split at h
  · rename_i a m
    obtain ⟨a, hNa⟩ : ∃ n : Nat, n = a := ⟨a, rfl⟩
    subst hNa
    obtain ⟨h1, hW, hI, hm, h⟩ := h
    refine ms_X10_renew _ _ (fun G g2 => ?_)
    have h := h (fun _ => 0)
    generalize (fun _ => 0 : Rw) = A at h
    have loop : ∀ (j k : Nat) (ν : Mi), j + k = 5 → (∀ y : Nat, (y < a + 130 ∨ a + 130 + 8 * k ≤ y) → ν y = μ y) → (∀ s, s < k → St (qInit A m) s (a + 130 + 8 * s) ν) → G 2 [.ref a, .int m, .int (nI k)] [] S (0, 0) ν ρ := by
      intro j
      induction j with
      | zero =>
        intro k ν hk hf hs
        obtain rfl : k = 5 := by omega
        apply g2
        simp only [w_X10_renew_2, w_X10_renew_23, tAload, tIload, nth, tGetI, tGetR, tConst, tLconst, tBin, tUn, tI2l, tAld, tAldR, tAlen, tIast, tBast, tZast, tAast, tIret, tZret, tVret, tAret, tIf, tIf2, tGoto, tIstore, tAstore, sset, tIinc, tDup, tDup2, tPop, tPutI, tPutZ, tPutR, tCallV, tCallS, popN, tFn, tCopy, tMax, tMin, tSw, swc, tRem, tObjI, Option.toList, List.nil_append, List.cons_append, okR, true_and, and_true, true_or, or_true, Nat.zero_le, ne_eq, not_false_eq_true, Nat.reduceEqDiff, F_X1_renew, F_J7_fill_53178, h1, hW.2.2.2.2.1, hW.2.1]
        simp (disch := omega) only [upI_ne, upF_ne]
        refine ⟨fun _ => ⟨by decide, by decide, ?_⟩, fun z => absurd ((nI_le5 (by decide)).mpr rfl) z⟩
        generalize hκ : upI (upI (upF (upF (upI (upI (upI (upI ν (a + 2) 2 0) (a + 2) 3 0) (a + 2) 4 0) (a + 2) 5 0) (a + 128) (flF (ν (a + 128)) 121 0)) (a + 129) (flF (ν (a + 129)) 201 0)) a 4 m) a 5 0 = κ
        have k1 : ∀ y : Nat, y ≠ a → y ≠ a + 2 → y ≠ a + 128 → y ≠ a + 129 → κ y = ν y := fun y y1 y2 y3 y4 => by rw [← hκ, upI_ne y1, upI_ne y1, upF_ne y4, upF_ne y3, upI_ne y2, upI_ne y2, upI_ne y2, upI_ne y2]
        have k2 : κ (a + 2) 2 = 0 ∧ κ (a + 2) 3 = 0 ∧ κ (a + 2) 4 = 0 ∧ κ (a + 2) 5 = 0 := by
          rw [← hκ]
          simp (disch := omega) only [upI_ne, upF_ne, upI_k, upI_at, and_self]
        have k3 : ∀ i, i < 121 → κ (a + 128) i = 0 := fun i hi => by rw [← hκ, upI_ne (by omega), upI_ne (by omega), upF_ne (by omega), upF_same]; unfold flF; rw [if_pos hi]
        have k4 : ∀ i, i < 201 → κ (a + 129) i = 0 := fun i hi => by rw [← hκ, upI_ne (by omega), upI_ne (by omega), upF_same]; unfold flF; rw [if_pos hi]
        have k5 : κ a 4 = m ∧ κ a 5 = 0 := by
          rw [← hκ]
          simp (disch := omega) only [upI_k, upI_at, and_self]
        clear hκ
        have z0 : ∀ i, i < 4513 ∨ i = 4515 → i ≠ 0 ∧ i ≠ 514 ∧ i ≠ 1028 ∧ i ≠ 1542 ∧ i ≠ 2056 → i ≠ 2 ∧ i ≠ 516 ∧ i ≠ 1030 ∧ i ≠ 1544 ∧ i ≠ 2058 → qInit A m i = 0 := fun i a b c => qInit_z a b c
        refine h κ ⟨⟨hW, fun s hs' => ?_, ⟨?_, ?_, fun i hi => ?_⟩, ⟨fun p p1 p2 => ?_, fun t t1 t2 => ?_⟩, ?_⟩, fun s hs' hr => ?_⟩ (fun y hy => ?_)
        · exact St_congr hs' (hs s hs') (fun _ _ _ => rfl) rfl (fun y y1 y2 => k1 _ (by omega) (by omega) (by omega) (by omega))
        · rw [k2.1, k2.2.1, k2.2.2.1, k2.2.2.2, qInit_13, z0 _ (by omega) (by omega) (by omega), z0 _ (by omega) (by omega) (by omega), z0 _ (by omega) (by omega) (by omega)]
          exact ⟨rfl, rfl, rfl, by decide⟩
        · rw [z0 _ (by omega) (by omega) (by omega), qInit_13]
          exact ⟨⟨by decide, by decide⟩, lk_all⟩
        · rw [z0 _ (by omega) (by omega) (by omega)] at hi
          exact absurd hi (by show ¬ i < (0 : Int32).toNatClampNeg; exact Nat.not_lt_zero _)
        · exact Or.inl ⟨k3 p (by omega), z0 _ (by omega) (by omega) (by omega)⟩
        · rw [k4 t (by omega), z0 _ (by omega) (by omega) (by omega)]
        · refine ⟨by rw [k5.1, qInit_14], by rw [k5.2, z0 _ (by omega) (by omega) (by omega)], Or.inl (z0 _ (by omega) (by omega) (by omega))⟩
        · rw [qInit_s hs' (by omega) (by omega) (by omega)] at hr
          exact absurd hr (by decide)
        · rw [k1 _ (by omega) (by omega) (by omega) (by omega), hf _ (by omega)]
      | succ j ih =>
        intro k ν hk hf hs
        have hk5 : k < 5 := by omega
        obtain ⟨x1, x2, x3⟩ := W_st hW hk5
        apply g2
        simp only [w_X10_renew_2, tAload, tIload, nth, tGetI, tGetR, tConst, tLconst, tBin, tUn, tI2l, tAld, tAldR, tAlen, tIast, tBast, tZast, tAast, tIret, tZret, tVret, tAret, tIf, tIf2, tGoto, tIstore, tAstore, sset, tIinc, tDup, tDup2, tPop, tPutI, tPutZ, tPutR, tCallV, tCallS, popN, tFn, tCopy, tMax, tMin, tSw, swc, tRem, tObjI, Option.toList, List.nil_append, List.cons_append, okR, true_and, and_true, true_or, or_true, Nat.zero_le, ne_eq, not_false_eq_true, Nat.reduceEqDiff, F_X7_renew, h1, hW.2.2.2.2.1, hW.2.1, nI_s1]
        simp (disch := omega) only [nI_clamp, x3, x1]
        rw [nI_le5 (by omega)]
        refine ⟨fun z => absurd z (by omega), fun _ => ⟨inb_nI hk5 (by decide), by omega, trivial, x2, k, A, hk5, by rw [hf _ (by omega)]; exact hI k hk5, hm, fun μ1 s1 f1 => ?_⟩⟩
        refine ih (k + 1) μ1 (by omega) (fun y hy => by rw [f1 y (by omega)]; exact hf y (by omega)) (fun s hs' => ?_)
        by_cases c : s = k
        · subst c; exact s1
        · exact St_congr (by omega) (hs s (by omega)) (fun _ _ _ => rfl) rfl (fun y y1 y2 => f1 y (by omega))
    simp only [w_X10_renew_0, tAload, tIload, nth, tGetI, tGetR, tConst, tLconst, tBin, tUn, tI2l, tAld, tAldR, tAlen, tIast, tBast, tZast, tAast, tIret, tZret, tVret, tAret, tIf, tIf2, tGoto, tIstore, tAstore, sset, tIinc, tDup, tDup2, tPop, tPutI, tPutZ, tPutR, tCallV, tCallS, popN, tFn, tCopy, tMax, tMin, tSw, swc, tRem, tObjI, Option.toList, List.nil_append, List.cons_append, okR, true_and, and_true, true_or, or_true, Nat.zero_le, ne_eq, not_false_eq_true, Nat.reduceEqDiff]
    exact loop 5 0 μ rfl (fun _ _ => rfl) (fun s hs => by omega)
  · exact h.elim
theorem RR_4516 {A B : Rw} {w : Nat} {S : Sh} {μ : Mi} {ρ : Mr} (h : RR A w S μ ρ) (hB : ∀ k, k < 4516 → B k = A k) : RR B w S μ ρ := by
  obtain ⟨⟨h1, h2, h3, h4, h5⟩, h6⟩ := h
  refine ⟨⟨h1, fun s hs => ?_, ⟨?_, ?_, fun i hi => ?_⟩, ⟨fun q q1 q2 => ?_, fun r r1 r2 => ?_⟩, ?_⟩, Nx_keep h6 (fun r i hr hi => hB _ (by omega)) (fun r hr => ⟨rfl, rfl⟩)⟩
  · exact St_congr hs (h2 s hs) (fun i i1 i2 => hB i (by omega)) (hB _ (by omega)) (fun _ _ _ => rfl)
  · simp (disch := omega) only [hB]
    exact h3.1
  · simp (disch := omega) only [hB]
    exact h3.2.1
  · rw [hB _ (by omega)] at hi
    obtain ⟨n, e1, e2, -, e3⟩ := rg_ex h3.2.1.1
    have hi' := hi
    rw [e1, nI_clamp e2] at hi'
    exact MsR_congr (h3.2.2 i hi) (fun k hk => hB _ (by omega)) (hB _ (by omega)) rfl rfl
  · rcases h4.1 q q1 q2 with z | z
    · exact Or.inl ⟨z.1, by rw [hB _ (by omega)]; exact z.2⟩
    · exact Or.inr (enR_congr z (hB _ (by omega)) (hB _ (by omega)) (hB _ (by omega)) (hB _ (by omega)))
  · rw [hB _ (by omega)]
    exact h4.2 r r1 r2
  · unfold Wd at *
    rw [hB _ (by omega), hB _ (by omega)]
    exact h5
def w_X10_beginsAnew_10 (M : CT) (G : Nat → PT) (Rp : RT) : PT := tAload 0 <| tIload 1 <| tFn 2 F_X10_renew <| tIload 1 <| tFn 1 F_J6_bitCount_0f7a4 <| tIret Rp
def w_X10_beginsAnew_0 (M : CT) (G : Nat → PT) (Rp : RT) : PT := tIload 1 <| tFn 1 F_X11_isNoSet <| tIf (fun x => x = 0) (w_X10_beginsAnew_10 M G Rp) <| tConst (-3) <| tIret Rp
set_option maxRecDepth 20000 in
theorem b_X10_beginsAnew_10 {Z : Zt} {d : Nat} {p : Program} {e : Env} {R : Room} {s : State} {m : MethodId} {args : Array Value} {below : List Frame} {meth : Method} {c : Code} {Rp : RT} (C : Cx Z (d + 4) jX10_beginsAnew RX10 p R s m args meth c) : Sd Z jX10_beginsAnew p e R s m args below meth c (MQ below (QcS Z Rp) args s 0 0 (fun a => Z.2.2.1 < a)) 10 (w_X10_beginsAnew_10 (MS Z (d + 4)) (Gw Z 2 p e R s m args below meth c (MQ below (QcS Z Rp) args s 0 0 (fun a => Z.2.2.1 < a))) Rp) := by
  unfold w_X10_beginsAnew_10
  refine s_aload_n (k := 0) C (by decide +kernel) ?_
  refine s_iload_n (k := 1) C (by decide +kernel) ?_
  refine s_fnV C (j2 := jX10_renew) (cl := 10) (nf := 6) rfl rfl (by decide +kernel) rfl w_2_75 w_2_77 w_p1_0 w_1_2 w_2_78 (by decide +kernel) (fun _ _ _ _ _ h => f_X10_renew h) (fun _ _ _ _ _ h => r_X10_renew h) ?_
  refine s_iload_n (k := 1) C (by decide +kernel) ?_
  refine s_fnS C (j2 := jJ6_bitCount_0f7a4) (by decide +kernel) rfl w_3_73 w_3_74 w_1_15 w_3_75 (by decide +kernel) (fun _ _ _ _ _ h => f_J6_bitCount_0f7a4 h) ?_
  exact s_iret C rfl (by decide +kernel)
set_option maxRecDepth 20000 in
theorem b_X10_beginsAnew_0 {Z : Zt} {d : Nat} {p : Program} {e : Env} {R : Room} {s : State} {m : MethodId} {args : Array Value} {below : List Frame} {meth : Method} {c : Code} {Rp : RT} (C : Cx Z (d + 4) jX10_beginsAnew RX10 p R s m args meth c) : Sd Z jX10_beginsAnew p e R s m args below meth c (MQ below (QcS Z Rp) args s 0 0 (fun a => Z.2.2.1 < a)) 0 (w_X10_beginsAnew_0 (MS Z (d + 4)) (Gw Z 2 p e R s m args below meth c (MQ below (QcS Z Rp) args s 0 0 (fun a => Z.2.2.1 < a))) Rp) := by
  unfold w_X10_beginsAnew_0
  refine s_iload_n (k := 1) C (by decide +kernel) ?_
  refine s_fnSN C (j2 := jX11_isNoSet) (by decide +kernel) rfl w_3_70 w_3_71 w_1_1 w_3_72 (by decide +kernel) (fun _ _ _ _ _ h => f_X11_isNoSet h) ?_
  refine s_if_eq (off := 6) (tgt := 10) C (by decide +kernel) (by decide) (b_X10_beginsAnew_10 C) ?_
  refine s_bipush (n := (-3)) C (by decide +kernel) (by decide) ?_
  exact s_iret C rfl (by decide +kernel)
theorem ms_X10_beginsAnew {Z : Zt} {d : Nat} {S : Sh} {μ : Mi} {ρ : Mr} {Rp : RT} (a0 : Nat) (x1 : Int32) (h : ∀ G : Nat → PT, w_X10_beginsAnew_0 (MS Z (d + 4)) G Rp [.ref a0, .int x1] [] S (0, 0) μ ρ) : MS Z (d + 5) jX10_beginsAnew [.ref a0, .int x1] S μ ρ Rp :=
  MS_of [.ref a0, .int x1] (by decide +kernel) rfl rfl (Nat.le_of_ble_eq_true rfl) rfl (fun p e R s m args below meth c C => b_X10_beginsAnew_0 C _ _ _ _ _ _ (h _ ))
def F_X10_beginsAnew : FT := fun As S μ ρ k => match As with
  | [.ref a, .int m] => S.2 a = (10, 6) ∧ ∃ A : Rw, RR A a S μ ρ ∧ (¬ rgd m 1 31 → k (some (.int (-3))) μ) ∧ (rgd m 1 31 → ∀ μ', RR (qInit A m) a S μ' ρ → Ot a μ μ' → k (some (.int (cnt5 m))) μ')
  | _ => False
theorem r_X10_beginsAnew {As S μ ρ k} (h : F_X10_beginsAnew As S μ ρ k) : ∃ a As', As = Value.ref a :: As' ∧ S.2 a = (10, 6) := by
  unfold F_X10_beginsAnew at h
  split at h
  · exact ⟨_, _, rfl, h.1⟩
  · exact h.elim
set_option maxHeartbeats 1000000 in
theorem f_X10_beginsAnew {Z : Zt} {d : Nat} {As : List Value} {S : Sh} {μ : Mi} {ρ : Mr} {Rp : RT} (h : F_X10_beginsAnew As S μ ρ (fun r μ' => Rp r S μ' ρ)) : MS Z (d + 5) jX10_beginsAnew As S μ ρ Rp := by
  unfold F_X10_beginsAnew at h
  split at h
  · rename_i a m
    obtain ⟨a, hNa⟩ : ∃ n : Nat, n = a := ⟨a, rfl⟩
    subst hNa
    obtain ⟨h1, A, hR, hn, hy⟩ := h
    refine ms_X10_beginsAnew _ _ (fun G => ?_)
    have hI : WI a μ := fun s hs => (RR_st hR hs).1.1
    simp only [w_X10_beginsAnew_0, w_X10_beginsAnew_10, tAload, tIload, nth, tGetI, tGetR, tConst, tLconst, tBin, tUn, tI2l, tAld, tAldR, tAlen, tIast, tBast, tZast, tAast, tIret, tZret, tVret, tAret, tIf, tIf2, tGoto, tIstore, tAstore, sset, tIinc, tDup, tDup2, tPop, tPutI, tPutZ, tPutR, tCallV, tCallS, popN, tFn, tCopy, tMax, tMin, tSw, swc, tRem, tObjI, Option.toList, List.nil_append, List.cons_append, okR, true_and, and_true, true_or, or_true, Nat.zero_le, ne_eq, not_false_eq_true, Nat.reduceEqDiff, F_X11_isNoSet, F_X10_renew, F_J6_bitCount_0f7a4, b2_z, h1, Decidable.not_not]
    refine ⟨fun c => ⟨RR_W hR, hI, c, fun B μ' r o => ⟨⟨by have := c.1; omega, c.2⟩, hy c μ' ?_ o⟩⟩, fun c => hn c⟩
    have e : ∀ k, k < 4516 → qInit A m k = qInit B m k := by
      intro k hk
      unfold qInit in1 zr0 up
      simp only [if_pos hk]
    exact RR_4516 r e
  · exact h.elim
