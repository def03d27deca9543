/-! ===== the class: the tape is read ===== -/
def TpR (T : Rw) (n p : Nat) (S : Sh) (μ : Mi) (ρ : Mr) : Prop := TpS S ρ ∧ μ 856 5 = nI n ∧ n ≤ 300 ∧ μ 856 6 = nI p ∧ p ≤ 1000 ∧ ∀ i, i < n → μ 857 i = T i &&& 255
def w_X9_fail_0 (M : CT) (G : Nat → PT) (Rp : RT) : PT := tAload 0 <| tIload 1 <| tPutI 9 7 3 <| tAload 0 <| tIload 2 <| tPutI 9 7 4 <| tVret Rp
set_option maxRecDepth 20000 in
theorem b_X9_fail_0 {Z : Zt} {d : Nat} {p : Program} {e : Env} {R : Room} {s : State} {m : MethodId} {args : Array Value} {below : List Frame} {meth : Method} {c : Code} {Rp : RT} (C : Cx Z d jX9_fail RX9 p R s m args meth c) : Sd Z jX9_fail p e R s m args below meth c (MQ below (QcS Z Rp) args s 0 0 (fun a => Z.2.2.1 < a)) 0 (w_X9_fail_0 (MS Z d) (Gw Z 3 p e R s m args below meth c (MQ below (QcS Z Rp) args s 0 0 (fun a => Z.2.2.1 < a))) Rp) := by
  unfold w_X9_fail_0
  refine s_aload_n (k := 0) C (by decide +kernel) ?_
  refine s_iload_n (k := 1) C (by decide +kernel) ?_
  refine s_putI C w_2_169 (by decide +kernel) rfl (Or.inl rfl) ?_
  refine s_aload_n (k := 0) C (by decide +kernel) ?_
  refine s_iload_n (k := 2) C (by decide +kernel) ?_
  refine s_putI C w_2_171 (by decide +kernel) rfl (Or.inl rfl) ?_
  exact s_vret C rfl (by decide +kernel)
theorem ms_X9_fail {Z : Zt} {d : Nat} {S : Sh} {μ : Mi} {ρ : Mr} {Rp : RT} (a0 : Nat) (x1 : Int32) (x2 : Int32) (h : ∀ G : Nat → PT, w_X9_fail_0 (MS Z d) G Rp [.ref a0, .int x1, .int x2] [] S (0, 0) μ ρ) : MS Z (d + 1) jX9_fail [.ref a0, .int x1, .int x2] S μ ρ Rp :=
  MS_of [.ref a0, .int x1, .int x2] (by decide +kernel) rfl rfl (Nat.le_of_ble_eq_true rfl) rfl (fun p e R s m args below meth c C => b_X9_fail_0 C _ _ _ _ _ _ (h _ ))
def F_X9_fail : FT := fun As S μ ρ k => match As with
  | [.ref a, .int x, .int y] => S.2 a = (9, 7) ∧ k none (upI (upI μ a 3 x) a 4 y)
  | _ => False
theorem r_X9_fail {As S μ ρ k} (h : F_X9_fail As S μ ρ k) : ∃ a As', As = Value.ref a :: As' ∧ S.2 a = (9, 7) := by
  unfold F_X9_fail at h
  split at h
  · exact ⟨_, _, rfl, h.1⟩
  · exact h.elim
set_option maxHeartbeats 1000000 in
theorem f_X9_fail {Z : Zt} {d : Nat} {As : List Value} {S : Sh} {μ : Mi} {ρ : Mr} {Rp : RT} (h : F_X9_fail As S μ ρ (fun r μ' => Rp r S μ' ρ)) : MS Z (d + 1) jX9_fail As S μ ρ Rp := by
  unfold F_X9_fail at h
  split at h
  · rename_i a x y
    obtain ⟨h1, h⟩ := h
    refine ms_X9_fail _ _ _ (fun G => ?_)
    simp only [w_X9_fail_0, tAload, tIload, nth, tGetI, tGetR, tConst, tLconst, tBin, tUn, tI2l, tAld, tAldR, tAlen, tIast, tBast, tZast, tAast, tIret, tZret, tVret, tAret, tIf, tIf2, tGoto, tIstore, tAstore, sset, tIinc, tDup, tDup2, tPop, tPutI, tPutZ, tPutR, tCallV, tCallS, popN, tFn, tCopy, tMax, tMin, tSw, swc, tRem, tObjI, Option.toList, List.nil_append, List.cons_append, okR, true_and, and_true, true_or, or_true, Nat.zero_le, ne_eq, not_false_eq_true, Nat.reduceEqDiff, h1]
    exact h
  · exact h.elim
def w_X9_here_24 (M : CT) (G : Nat → PT) (Rp : RT) : PT := tIret Rp
def w_X9_here_23 (M : CT) (G : Nat → PT) (Rp : RT) : PT := tConst (-1) <| w_X9_here_24 M G Rp
def w_X9_here_0 (M : CT) (G : Nat → PT) (Rp : RT) : PT := tAload 0 <| tGetI 9 7 6 <| tAload 0 <| tGetI 9 7 5 <| tIf2 (fun x y => y ≤ x) (w_X9_here_23 M G Rp) <| tAload 0 <| tGetR 9 7 0 <| tAload 0 <| tGetI 9 7 6 <| tAld 20 <| tGoto (w_X9_here_24 M G Rp)
set_option maxRecDepth 20000 in
theorem b_X9_here_24 {Z : Zt} {d : Nat} {p : Program} {e : Env} {R : Room} {s : State} {m : MethodId} {args : Array Value} {below : List Frame} {meth : Method} {c : Code} {Rp : RT} (C : Cx Z d jX9_here RX9 p R s m args meth c) : Sd Z jX9_here p e R s m args below meth c (MQ below (QcS Z Rp) args s 0 0 (fun a => Z.2.2.1 < a)) 24 (w_X9_here_24 (MS Z d) (Gw Z 1 p e R s m args below meth c (MQ below (QcS Z Rp) args s 0 0 (fun a => Z.2.2.1 < a))) Rp) := by
  unfold w_X9_here_24
  exact s_iret C rfl (by decide +kernel)
set_option maxRecDepth 20000 in
theorem b_X9_here_23 {Z : Zt} {d : Nat} {p : Program} {e : Env} {R : Room} {s : State} {m : MethodId} {args : Array Value} {below : List Frame} {meth : Method} {c : Code} {Rp : RT} (C : Cx Z d jX9_here RX9 p R s m args meth c) : Sd Z jX9_here p e R s m args below meth c (MQ below (QcS Z Rp) args s 0 0 (fun a => Z.2.2.1 < a)) 23 (w_X9_here_23 (MS Z d) (Gw Z 1 p e R s m args below meth c (MQ below (QcS Z Rp) args s 0 0 (fun a => Z.2.2.1 < a))) Rp) := by
  unfold w_X9_here_23
  refine s_iconst (n := (-1)) C (by decide +kernel) (by decide) ?_
  exact (b_X9_here_24 C)
set_option maxRecDepth 20000 in
theorem b_X9_here_0 {Z : Zt} {d : Nat} {p : Program} {e : Env} {R : Room} {s : State} {m : MethodId} {args : Array Value} {below : List Frame} {meth : Method} {c : Code} {Rp : RT} (C : Cx Z d jX9_here RX9 p R s m args meth c) : Sd Z jX9_here p e R s m args below meth c (MQ below (QcS Z Rp) args s 0 0 (fun a => Z.2.2.1 < a)) 0 (w_X9_here_0 (MS Z d) (Gw Z 1 p e R s m args below meth c (MQ below (QcS Z Rp) args s 0 0 (fun a => Z.2.2.1 < a))) Rp) := by
  unfold w_X9_here_0
  refine s_aload_n (k := 0) C (by decide +kernel) ?_
  refine s_getI C w_2_174 (by decide +kernel) rfl ?_
  refine s_aload_n (k := 0) C (by decide +kernel) ?_
  refine s_getI C w_2_173 (by decide +kernel) rfl ?_
  refine s_icmp_ge (off := 15) (tgt := 23) C (by decide +kernel) (by decide) (b_X9_here_23 C) ?_
  refine s_aload_n (k := 0) C (by decide +kernel) ?_
  refine s_getR C w_2_165 (by decide +kernel) rfl ?_
  refine s_aload_n (k := 0) C (by decide +kernel) ?_
  refine s_getI C w_2_174 (by decide +kernel) rfl ?_
  refine s_iald C (by decide +kernel) ?_
  exact s_goto (off := 4) (tgt := 24) C (by decide +kernel) (by decide) (b_X9_here_24 C)
theorem ms_X9_here {Z : Zt} {d : Nat} {S : Sh} {μ : Mi} {ρ : Mr} {Rp : RT} (a0 : Nat) (h : ∀ G : Nat → PT, w_X9_here_0 (MS Z d) G Rp [.ref a0] [] S (0, 0) μ ρ) : MS Z (d + 1) jX9_here [.ref a0] S μ ρ Rp :=
  MS_of [.ref a0] (by decide +kernel) rfl rfl (Nat.le_of_ble_eq_true rfl) rfl (fun p e R s m args below meth c C => b_X9_here_0 C _ _ _ _ _ _ (h _ ))
def F_X9_here : FT := fun As S μ ρ k => match As with
  | [.ref a] => S.2 a = (9, 7) ∧ a = 856 ∧ ∃ (T : Rw) (n p : Nat), TpR T n p S μ ρ ∧ k (some (.int (seeT T n p))) μ
  | _ => False
theorem r_X9_here {As S μ ρ k} (h : F_X9_here As S μ ρ k) : ∃ a As', As = Value.ref a :: As' ∧ S.2 a = (9, 7) := by
  unfold F_X9_here at h
  split at h
  · exact ⟨_, _, rfl, h.1⟩
  · exact h.elim
set_option maxHeartbeats 1000000 in
theorem f_X9_here {Z : Zt} {d : Nat} {As : List Value} {S : Sh} {μ : Mi} {ρ : Mr} {Rp : RT} (h : F_X9_here As S μ ρ (fun r μ' => Rp r S μ' ρ)) : MS Z (d + 1) jX9_here As S μ ρ Rp := by
  unfold F_X9_here at h
  split at h
  · rename_i a
    obtain ⟨h1, rfl, T, n, p, ⟨⟨t1, t2, t3, t4, t5⟩, en, hn, ep, hp, hb⟩, h⟩ := h
    unfold seeT at h
    refine ms_X9_here _ (fun G => ?_)
    simp only [w_X9_here_0, w_X9_here_23, w_X9_here_24, tAload, tIload, nth, tGetI, tGetR, tConst, tLconst, tBin, tUn, tI2l, tAld, tAldR, tAlen, tIast, tBast, tZast, tAast, tIret, tZret, tVret, tAret, tIf, tIf2, tGoto, tIstore, tAstore, sset, tIinc, tDup, tDup2, tPop, tPutI, tPutZ, tPutR, tCallV, tCallS, popN, tFn, tCopy, tMax, tMin, tSw, swc, tRem, tObjI, Option.toList, List.nil_append, List.cons_append, okR, true_and, and_true, true_or, or_true, Nat.zero_le, ne_eq, not_false_eq_true, Nat.reduceEqDiff, h1, t2, t4, en, ep]
    rw [nI_leI (by omega) (by omega), nI_clamp (by omega)]
    refine ⟨fun c => ?_, fun c => ⟨inb_nI (by omega) (by decide), ?_⟩⟩
    · rw [if_neg (by omega)] at h; exact h
    · rw [if_pos (by omega)] at h
      rw [hb p (by omega)]; exact h
  · exact h.elim
theorem upI_6 {μ : Mi} {v w : Int32} : upI (upI μ 856 6 v) 856 6 w = upI μ 856 6 w := upI_upI
def w_X9_skipBlanks_38 (M : CT) (G : Nat → PT) (Rp : RT) : PT := tVret Rp
def w_X9_skipBlanks_0 (M : CT) (G : Nat → PT) (Rp : RT) : PT := tAload 0 <| tGetI 9 7 6 <| tAload 0 <| tGetI 9 7 5 <| tIf2 (fun x y => y ≤ x) (w_X9_skipBlanks_38 M G Rp) <| tAload 0 <| tGetR 9 7 0 <| tAload 0 <| tGetI 9 7 6 <| tAld 20 <| tConst 32 <| tIf2 (fun x y => x ≠ y) (w_X9_skipBlanks_38 M G Rp) <| tAload 0 <| tDup <| tGetI 9 7 6 <| tConst 1 <| tBin (fun x y => x + y) <| tPutI 9 7 6 <| tGoto (G 0)
set_option maxRecDepth 20000 in
theorem b_X9_skipBlanks_38 {Z : Zt} {d : Nat} {p : Program} {e : Env} {R : Room} {s : State} {m : MethodId} {args : Array Value} {below : List Frame} {meth : Method} {c : Code} {Rp : RT} (C : Cx Z d jX9_skipBlanks RX9 p R s m args meth c) : Sd Z jX9_skipBlanks p e R s m args below meth c (MQ below (QcS Z Rp) args s 0 0 (fun a => Z.2.2.1 < a)) 38 (w_X9_skipBlanks_38 (MS Z d) (Gw Z 1 p e R s m args below meth c (MQ below (QcS Z Rp) args s 0 0 (fun a => Z.2.2.1 < a))) Rp) := by
  unfold w_X9_skipBlanks_38
  exact s_vret C rfl (by decide +kernel)
set_option maxRecDepth 20000 in
theorem b_X9_skipBlanks_0 {Z : Zt} {d : Nat} {p : Program} {e : Env} {R : Room} {s : State} {m : MethodId} {args : Array Value} {below : List Frame} {meth : Method} {c : Code} {Rp : RT} (C : Cx Z d jX9_skipBlanks RX9 p R s m args meth c) : Sd Z jX9_skipBlanks p e R s m args below meth c (MQ below (QcS Z Rp) args s 0 0 (fun a => Z.2.2.1 < a)) 0 (w_X9_skipBlanks_0 (MS Z d) (Gw Z 1 p e R s m args below meth c (MQ below (QcS Z Rp) args s 0 0 (fun a => Z.2.2.1 < a))) Rp) := by
  unfold w_X9_skipBlanks_0
  refine s_aload_n (k := 0) C (by decide +kernel) ?_
  refine s_getI C w_2_174 (by decide +kernel) rfl ?_
  refine s_aload_n (k := 0) C (by decide +kernel) ?_
  refine s_getI C w_2_173 (by decide +kernel) rfl ?_
  refine s_icmp_ge (off := 30) (tgt := 38) C (by decide +kernel) (by decide) (b_X9_skipBlanks_38 C) ?_
  refine s_aload_n (k := 0) C (by decide +kernel) ?_
  refine s_getR C w_2_165 (by decide +kernel) rfl ?_
  refine s_aload_n (k := 0) C (by decide +kernel) ?_
  refine s_getI C w_2_174 (by decide +kernel) rfl ?_
  refine s_iald C (by decide +kernel) ?_
  refine s_bipush (n := 32) C (by decide +kernel) (by decide) ?_
  refine s_icmp_ne (off := 16) (tgt := 38) C (by decide +kernel) (by decide) (b_X9_skipBlanks_38 C) ?_
  refine s_aload_n (k := 0) C (by decide +kernel) ?_
  refine s_dup C (by decide +kernel) ?_
  refine s_getI C w_2_174 (by decide +kernel) rfl ?_
  refine s_iconst (n := 1) C (by decide +kernel) (by decide) ?_
  refine s_iadd C (by decide +kernel) ?_
  refine s_putI C w_2_174 (by decide +kernel) rfl (Or.inl rfl) ?_
  exact s_goto (off := (-35)) (tgt := 0) C (by decide +kernel) (by decide) (fun _ _ _ _ _ _ h => h)
theorem ms_X9_skipBlanks {Z : Zt} {d : Nat} {S : Sh} {μ : Mi} {ρ : Mr} {Rp : RT} (a0 : Nat) (h : ∀ G : Nat → PT, (∀ (L st : List Value) (S : Sh) (q : Nat × Nat) (μ : Mi) (ρ : Mr), w_X9_skipBlanks_0 (MS Z d) G Rp L st S q μ ρ → G 0 L st S q μ ρ) → w_X9_skipBlanks_0 (MS Z d) G Rp [.ref a0] [] S (0, 0) μ ρ) : MS Z (d + 1) jX9_skipBlanks [.ref a0] S μ ρ Rp :=
  MS_of [.ref a0] (by decide +kernel) rfl rfl (Nat.le_of_ble_eq_true rfl) rfl (fun p e R s m args below meth c C => b_X9_skipBlanks_0 C _ _ _ _ _ _ (h _ (b_X9_skipBlanks_0 C)))
def F_X9_skipBlanks : FT := fun As S μ ρ k => match As with
  | [.ref a] => S.2 a = (9, 7) ∧ a = 856 ∧ ∃ (T : Rw) (n p : Nat), TpR T n p S μ ρ ∧ k none (upI μ 856 6 (nI (blk T n p)))
  | _ => False
theorem r_X9_skipBlanks {As S μ ρ k} (h : F_X9_skipBlanks As S μ ρ k) : ∃ a As', As = Value.ref a :: As' ∧ S.2 a = (9, 7) := by
  unfold F_X9_skipBlanks at h
  split at h
  · exact ⟨_, _, rfl, h.1⟩
  · exact h.elim
set_option maxHeartbeats 1000000 in
theorem f_X9_skipBlanks {Z : Zt} {d : Nat} {As : List Value} {S : Sh} {μ : Mi} {ρ : Mr} {Rp : RT} (h : F_X9_skipBlanks As S μ ρ (fun r μ' => Rp r S μ' ρ)) : MS Z (d + 1) jX9_skipBlanks As S μ ρ Rp := by
  unfold F_X9_skipBlanks at h
  split at h
  · rename_i a
    obtain ⟨h1, rfl, T, n, p, ⟨⟨t1, t2, t3, t4, t5⟩, en, hn, ep, hp, hb⟩, h⟩ := h
    refine ms_X9_skipBlanks _ (fun G g0 => ?_)
    have loop : ∀ (m q : Nat) (ν : Mi), q + m = n ∨ (n ≤ q ∧ m = 0) → q ≤ 1000 → ν 856 5 = nI n → ν 856 6 = nI q → ν 857 = μ 857 → Rp none S (upI ν 856 6 (nI (blk T n q))) ρ → w_X9_skipBlanks_0 (MS Z d) G Rp [.ref 856] [] S (0, 0) ν ρ := by
      intro m
      induction m with
      | zero =>
        intro q ν hm hq e5 e6 e7 hh
        have hs : ¬ seeT T n q = 32 := by rw [seeT_hi (by omega)]; decide
        rw [blk_e hs] at hh
        have es : upI ν 856 6 (nI q) = ν := by rw [← e6, upI_self]
        rw [es] at hh
        simp only [w_X9_skipBlanks_0, w_X9_skipBlanks_38, tAload, tIload, nth, tGetI, tGetR, tConst, tLconst, tBin, tUn, tI2l, tAld, tAldR, tAlen, tIast, tBast, tZast, tAast, tIret, tZret, tVret, tAret, tIf, tIf2, tGoto, tIstore, tAstore, sset, tIinc, tDup, tDup2, tPop, tPutI, tPutZ, tPutR, tCallV, tCallS, popN, tFn, tCopy, tMax, tMin, tSw, swc, tRem, tObjI, Option.toList, List.nil_append, List.cons_append, okR, true_and, and_true, true_or, or_true, Nat.zero_le, ne_eq, not_false_eq_true, Nat.reduceEqDiff, h1, e5, e6]
        exact ⟨fun _ => hh, fun c => absurd (by rw [nI_leI (by omega) (by omega)]; omega) c⟩
      | succ m ih =>
        intro q ν hm hq e5 e6 e7 hh
        have hqn : q < n := by omega
        have hv : ν 857 q = seeT T n q := by rw [e7, hb q hqn]; unfold seeT; rw [if_pos hqn]
        simp only [w_X9_skipBlanks_0, w_X9_skipBlanks_38, tAload, tIload, nth, tGetI, tGetR, tConst, tLconst, tBin, tUn, tI2l, tAld, tAldR, tAlen, tIast, tBast, tZast, tAast, tIret, tZret, tVret, tAret, tIf, tIf2, tGoto, tIstore, tAstore, sset, tIinc, tDup, tDup2, tPop, tPutI, tPutZ, tPutR, tCallV, tCallS, popN, tFn, tCopy, tMax, tMin, tSw, swc, tRem, tObjI, Option.toList, List.nil_append, List.cons_append, okR, true_and, and_true, true_or, or_true, Nat.zero_le, ne_eq, not_false_eq_true, Nat.reduceEqDiff, h1, t2, t4, e5, e6]
        rw [nI_leI (by omega) (by omega), nI_clamp (by omega), hv, nI_s1]
        refine ⟨fun c => absurd c (by omega), fun _ => ⟨inb_nI (by omega) (by decide), fun c => ?_, fun c => ?_⟩⟩
        · rw [blk_e c] at hh
          have es : upI ν 856 6 (nI q) = ν := by rw [← e6, upI_self]
          rw [es] at hh
          exact hh
        · have c' := Classical.not_not.mp c
          rw [blk_s c'] at hh
          refine g0 _ _ _ _ _ _ (ih (q + 1) _ (by omega) (by omega) ?_ upI_at ?_ ?_)
          · rw [upI_k (by omega)]; exact e5
          · rw [upI_ne (by omega)]; exact e7
          · rw [upI_6]; exact hh
    exact loop (n - p) p μ (by omega) hp en ep rfl h
  · exact h.elim
theorem dg_1 {T : Rw} {n : Nat} : ∀ (m p : Nat) (v w : Int32), (dgF T n m p v).1 = (dgF T n m p w).1 := by
  intro m
  induction m with
  | zero => intro p v w; rfl
  | succ m ih =>
    intro p v w
    rw [dgF_s, dgF_s]
    split
    · exact ih _ _ _
    · rfl
def w_X9_parseNumber_123 (M : CT) (G : Nat → PT) (Rp : RT) : PT := tIload 2 <| tIret Rp
def w_X9_parseNumber_107 (M : CT) (G : Nat → PT) (Rp : RT) : PT := tAload 0 <| tGetI 9 7 6 <| tIload 1 <| tBin (fun x y => x - y) <| tConst 3 <| tIf2 (fun x y => x ≤ y) (w_X9_parseNumber_123 M G Rp) <| tAload 0 <| tConst 2 <| tIload 1 <| tFn 3 F_X9_fail <| w_X9_parseNumber_123 M G Rp
def w_X9_parseNumber_87 (M : CT) (G : Nat → PT) (Rp : RT) : PT := tAload 0 <| tGetI 9 7 6 <| tIload 1 <| tIf2 (fun x y => x ≠ y) (w_X9_parseNumber_107 M G Rp) <| tAload 0 <| tConst 1 <| tAload 0 <| tGetI 9 7 6 <| tFn 3 F_X9_fail <| tGoto (w_X9_parseNumber_123 M G Rp)
def w_X9_parseNumber_74 (M : CT) (G : Nat → PT) (Rp : RT) : PT := tAload 0 <| tDup <| tGetI 9 7 6 <| tConst 1 <| tBin (fun x y => x + y) <| tPutI 9 7 6 <| tGoto (G 7)
def w_X9_parseNumber_7 (M : CT) (G : Nat → PT) (Rp : RT) : PT := tAload 0 <| tGetI 9 7 6 <| tAload 0 <| tGetI 9 7 5 <| tIf2 (fun x y => y ≤ x) (w_X9_parseNumber_87 M G Rp) <| tAload 0 <| tGetR 9 7 0 <| tAload 0 <| tGetI 9 7 6 <| tAld 20 <| tConst 48 <| tIf2 (fun x y => x < y) (w_X9_parseNumber_87 M G Rp) <| tAload 0 <| tGetR 9 7 0 <| tAload 0 <| tGetI 9 7 6 <| tAld 20 <| tConst 57 <| tIf2 (fun x y => y < x) (w_X9_parseNumber_87 M G Rp) <| tAload 0 <| tGetI 9 7 6 <| tIload 1 <| tBin (fun x y => x - y) <| tConst 3 <| tIf2 (fun x y => y ≤ x) (w_X9_parseNumber_74 M G Rp) <| tIload 2 <| tConst 10 <| tBin (fun x y => x * y) <| tAload 0 <| tGetR 9 7 0 <| tAload 0 <| tGetI 9 7 6 <| tAld 20 <| tBin (fun x y => x + y) <| tConst 48 <| tBin (fun x y => x - y) <| tIstore 2 <| w_X9_parseNumber_74 M G Rp
def w_X9_parseNumber_0 (M : CT) (G : Nat → PT) (Rp : RT) : PT := tAload 0 <| tGetI 9 7 6 <| tIstore 1 <| tConst 0 <| tIstore 2 <| G 7
set_option maxRecDepth 20000 in
theorem b_X9_parseNumber_123 {Z : Zt} {d : Nat} {p : Program} {e : Env} {R : Room} {s : State} {m : MethodId} {args : Array Value} {below : List Frame} {meth : Method} {c : Code} {Rp : RT} (C : Cx Z (d + 1) jX9_parseNumber RX9 p R s m args meth c) : Sd Z jX9_parseNumber p e R s m args below meth c (MQ below (QcS Z Rp) args s 0 0 (fun a => Z.2.2.1 < a)) 123 (w_X9_parseNumber_123 (MS Z (d + 1)) (Gw Z 3 p e R s m args below meth c (MQ below (QcS Z Rp) args s 0 0 (fun a => Z.2.2.1 < a))) Rp) := by
  unfold w_X9_parseNumber_123
  refine s_iload_n (k := 2) C (by decide +kernel) ?_
  exact s_iret C rfl (by decide +kernel)
set_option maxRecDepth 20000 in
theorem b_X9_parseNumber_107 {Z : Zt} {d : Nat} {p : Program} {e : Env} {R : Room} {s : State} {m : MethodId} {args : Array Value} {below : List Frame} {meth : Method} {c : Code} {Rp : RT} (C : Cx Z (d + 1) jX9_parseNumber RX9 p R s m args meth c) : Sd Z jX9_parseNumber p e R s m args below meth c (MQ below (QcS Z Rp) args s 0 0 (fun a => Z.2.2.1 < a)) 107 (w_X9_parseNumber_107 (MS Z (d + 1)) (Gw Z 3 p e R s m args below meth c (MQ below (QcS Z Rp) args s 0 0 (fun a => Z.2.2.1 < a))) Rp) := by
  unfold w_X9_parseNumber_107
  refine s_aload_n (k := 0) C (by decide +kernel) ?_
  refine s_getI C w_2_174 (by decide +kernel) rfl ?_
  refine s_iload_n (k := 1) C (by decide +kernel) ?_
  refine s_isub C (by decide +kernel) ?_
  refine s_iconst (n := 3) C (by decide +kernel) (by decide) ?_
  refine s_icmp_le (off := 9) (tgt := 123) C (by decide +kernel) (by decide) (b_X9_parseNumber_123 C) ?_
  refine s_aload_n (k := 0) C (by decide +kernel) ?_
  refine s_iconst (n := 2) C (by decide +kernel) (by decide) ?_
  refine s_iload_n (k := 1) C (by decide +kernel) ?_
  refine s_fnV C (j2 := jX9_fail) (cl := 9) (nf := 7) rfl rfl (by decide +kernel) rfl w_5_21 w_5_23 w_p2_13 w_1_11 w_5_24 (by decide +kernel) (fun _ _ _ _ _ h => f_X9_fail h) (fun _ _ _ _ _ h => r_X9_fail h) ?_
  exact (b_X9_parseNumber_123 C)
set_option maxRecDepth 20000 in
theorem b_X9_parseNumber_87 {Z : Zt} {d : Nat} {p : Program} {e : Env} {R : Room} {s : State} {m : MethodId} {args : Array Value} {below : List Frame} {meth : Method} {c : Code} {Rp : RT} (C : Cx Z (d + 1) jX9_parseNumber RX9 p R s m args meth c) : Sd Z jX9_parseNumber p e R s m args below meth c (MQ below (QcS Z Rp) args s 0 0 (fun a => Z.2.2.1 < a)) 87 (w_X9_parseNumber_87 (MS Z (d + 1)) (Gw Z 3 p e R s m args below meth c (MQ below (QcS Z Rp) args s 0 0 (fun a => Z.2.2.1 < a))) Rp) := by
  unfold w_X9_parseNumber_87
  refine s_aload_n (k := 0) C (by decide +kernel) ?_
  refine s_getI C w_2_174 (by decide +kernel) rfl ?_
  refine s_iload_n (k := 1) C (by decide +kernel) ?_
  refine s_icmp_ne (off := 15) (tgt := 107) C (by decide +kernel) (by decide) (b_X9_parseNumber_107 C) ?_
  refine s_aload_n (k := 0) C (by decide +kernel) ?_
  refine s_iconst (n := 1) C (by decide +kernel) (by decide) ?_
  refine s_aload_n (k := 0) C (by decide +kernel) ?_
  refine s_getI C w_2_174 (by decide +kernel) rfl ?_
  refine s_fnV C (j2 := jX9_fail) (cl := 9) (nf := 7) rfl rfl (by decide +kernel) rfl w_5_21 w_5_23 w_p2_13 w_1_11 w_5_24 (by decide +kernel) (fun _ _ _ _ _ h => f_X9_fail h) (fun _ _ _ _ _ h => r_X9_fail h) ?_
  exact s_goto (off := 19) (tgt := 123) C (by decide +kernel) (by decide) (b_X9_parseNumber_123 C)
set_option maxRecDepth 20000 in
theorem b_X9_parseNumber_74 {Z : Zt} {d : Nat} {p : Program} {e : Env} {R : Room} {s : State} {m : MethodId} {args : Array Value} {below : List Frame} {meth : Method} {c : Code} {Rp : RT} (C : Cx Z (d + 1) jX9_parseNumber RX9 p R s m args meth c) : Sd Z jX9_parseNumber p e R s m args below meth c (MQ below (QcS Z Rp) args s 0 0 (fun a => Z.2.2.1 < a)) 74 (w_X9_parseNumber_74 (MS Z (d + 1)) (Gw Z 3 p e R s m args below meth c (MQ below (QcS Z Rp) args s 0 0 (fun a => Z.2.2.1 < a))) Rp) := by
  unfold w_X9_parseNumber_74
  refine s_aload_n (k := 0) C (by decide +kernel) ?_
  refine s_dup C (by decide +kernel) ?_
  refine s_getI C w_2_174 (by decide +kernel) rfl ?_
  refine s_iconst (n := 1) C (by decide +kernel) (by decide) ?_
  refine s_iadd C (by decide +kernel) ?_
  refine s_putI C w_2_174 (by decide +kernel) rfl (Or.inl rfl) ?_
  exact s_goto (off := (-77)) (tgt := 7) C (by decide +kernel) (by decide) (fun _ _ _ _ _ _ h => h)
set_option maxRecDepth 20000 in
theorem b_X9_parseNumber_7 {Z : Zt} {d : Nat} {p : Program} {e : Env} {R : Room} {s : State} {m : MethodId} {args : Array Value} {below : List Frame} {meth : Method} {c : Code} {Rp : RT} (C : Cx Z (d + 1) jX9_parseNumber RX9 p R s m args meth c) : Sd Z jX9_parseNumber p e R s m args below meth c (MQ below (QcS Z Rp) args s 0 0 (fun a => Z.2.2.1 < a)) 7 (w_X9_parseNumber_7 (MS Z (d + 1)) (Gw Z 3 p e R s m args below meth c (MQ below (QcS Z Rp) args s 0 0 (fun a => Z.2.2.1 < a))) Rp) := by
  unfold w_X9_parseNumber_7
  refine s_aload_n (k := 0) C (by decide +kernel) ?_
  refine s_getI C w_2_174 (by decide +kernel) rfl ?_
  refine s_aload_n (k := 0) C (by decide +kernel) ?_
  refine s_getI C w_2_173 (by decide +kernel) rfl ?_
  refine s_icmp_ge (off := 72) (tgt := 87) C (by decide +kernel) (by decide) (b_X9_parseNumber_87 C) ?_
  refine s_aload_n (k := 0) C (by decide +kernel) ?_
  refine s_getR C w_2_165 (by decide +kernel) rfl ?_
  refine s_aload_n (k := 0) C (by decide +kernel) ?_
  refine s_getI C w_2_174 (by decide +kernel) rfl ?_
  refine s_iald C (by decide +kernel) ?_
  refine s_bipush (n := 48) C (by decide +kernel) (by decide) ?_
  refine s_icmp_lt (off := 58) (tgt := 87) C (by decide +kernel) (by decide) (b_X9_parseNumber_87 C) ?_
  refine s_aload_n (k := 0) C (by decide +kernel) ?_
  refine s_getR C w_2_165 (by decide +kernel) rfl ?_
  refine s_aload_n (k := 0) C (by decide +kernel) ?_
  refine s_getI C w_2_174 (by decide +kernel) rfl ?_
  refine s_iald C (by decide +kernel) ?_
  refine s_bipush (n := 57) C (by decide +kernel) (by decide) ?_
  refine s_icmp_gt (off := 44) (tgt := 87) C (by decide +kernel) (by decide) (b_X9_parseNumber_87 C) ?_
  refine s_aload_n (k := 0) C (by decide +kernel) ?_
  refine s_getI C w_2_174 (by decide +kernel) rfl ?_
  refine s_iload_n (k := 1) C (by decide +kernel) ?_
  refine s_isub C (by decide +kernel) ?_
  refine s_iconst (n := 3) C (by decide +kernel) (by decide) ?_
  refine s_icmp_ge (off := 21) (tgt := 74) C (by decide +kernel) (by decide) (b_X9_parseNumber_74 C) ?_
  refine s_iload_n (k := 2) C (by decide +kernel) ?_
  refine s_bipush (n := 10) C (by decide +kernel) (by decide) ?_
  refine s_imul C (by decide +kernel) ?_
  refine s_aload_n (k := 0) C (by decide +kernel) ?_
  refine s_getR C w_2_165 (by decide +kernel) rfl ?_
  refine s_aload_n (k := 0) C (by decide +kernel) ?_
  refine s_getI C w_2_174 (by decide +kernel) rfl ?_
  refine s_iald C (by decide +kernel) ?_
  refine s_iadd C (by decide +kernel) ?_
  refine s_bipush (n := 48) C (by decide +kernel) (by decide) ?_
  refine s_isub C (by decide +kernel) ?_
  refine s_istore_n (k := 2) C (by decide +kernel) ?_
  exact (b_X9_parseNumber_74 C)
set_option maxRecDepth 20000 in
theorem b_X9_parseNumber_0 {Z : Zt} {d : Nat} {p : Program} {e : Env} {R : Room} {s : State} {m : MethodId} {args : Array Value} {below : List Frame} {meth : Method} {c : Code} {Rp : RT} (C : Cx Z (d + 1) jX9_parseNumber RX9 p R s m args meth c) : Sd Z jX9_parseNumber p e R s m args below meth c (MQ below (QcS Z Rp) args s 0 0 (fun a => Z.2.2.1 < a)) 0 (w_X9_parseNumber_0 (MS Z (d + 1)) (Gw Z 3 p e R s m args below meth c (MQ below (QcS Z Rp) args s 0 0 (fun a => Z.2.2.1 < a))) Rp) := by
  unfold w_X9_parseNumber_0
  refine s_aload_n (k := 0) C (by decide +kernel) ?_
  refine s_getI C w_2_174 (by decide +kernel) rfl ?_
  refine s_istore_n (k := 1) C (by decide +kernel) ?_
  refine s_iconst (n := 0) C (by decide +kernel) (by decide) ?_
  refine s_istore_n (k := 2) C (by decide +kernel) ?_
  exact (fun _ _ _ _ _ _ h => h)
theorem ms_X9_parseNumber {Z : Zt} {d : Nat} {S : Sh} {μ : Mi} {ρ : Mr} {Rp : RT} (a0 : Nat) (h : ∀ G : Nat → PT, (∀ (L st : List Value) (S : Sh) (q : Nat × Nat) (μ : Mi) (ρ : Mr), w_X9_parseNumber_7 (MS Z (d + 1)) G Rp L st S q μ ρ → G 7 L st S q μ ρ) → w_X9_parseNumber_0 (MS Z (d + 1)) G Rp [.ref a0, .null, .null] [] S (0, 0) μ ρ) : MS Z (d + 2) jX9_parseNumber [.ref a0] S μ ρ Rp :=
  MS_of [.ref a0, .null, .null] (by decide +kernel) rfl rfl (Nat.le_of_ble_eq_true rfl) rfl (fun p e R s m args below meth c C => b_X9_parseNumber_0 C _ _ _ _ _ _ (h _ (b_X9_parseNumber_7 C)))
def F_X9_parseNumber : FT := fun As S μ ρ k => match As with
  | [.ref a] => S.2 a = (9, 7) ∧ a = 856 ∧ ∃ (T : Rw) (n p : Nat), TpR T n p S μ ρ ∧ p ≤ n ∧ ∀ v : Int32, ((dg T n p 0).1 ≤ p + 3 → v = (dg T n p 0).2) → k (some (.int v)) (let ν := upI μ 856 6 (nI (dg T n p 0).1); if (dg T n p 0).1 = p then upI (upI ν 856 3 1) 856 4 (nI p) else if p + 3 < (dg T n p 0).1 then upI (upI ν 856 3 2) 856 4 (nI p) else ν)
  | _ => False
theorem r_X9_parseNumber {As S μ ρ k} (h : F_X9_parseNumber As S μ ρ k) : ∃ a As', As = Value.ref a :: As' ∧ S.2 a = (9, 7) := by
  unfold F_X9_parseNumber at h
  split at h
  · exact ⟨_, _, rfl, h.1⟩
  · exact h.elim
set_option maxHeartbeats 1000000 in
theorem f_X9_parseNumber {Z : Zt} {d : Nat} {As : List Value} {S : Sh} {μ : Mi} {ρ : Mr} {Rp : RT} (h : F_X9_parseNumber As S μ ρ (fun r μ' => Rp r S μ' ρ)) : MS Z (d + 2) jX9_parseNumber As S μ ρ Rp := by
  unfold F_X9_parseNumber at h
  split at h
  · rename_i a
    obtain ⟨h1, rfl, T, n, p, ⟨⟨t1, t2, t3, t4, t5⟩, en, hn, ep, hp, hb⟩, hpn, h⟩ := h
    refine ms_X9_parseNumber _ (fun G g7 => ?_)
    have done : ∀ (q : Nat) (v : Int32) (ν : Mi), q = (dg T n p 0).1 → p ≤ q → q ≤ n → (q ≤ p + 3 → v = (dg T n p 0).2) → ν = upI μ 856 6 (nI q) → w_X9_parseNumber_87 (MS Z (d + 1)) G Rp [.ref 856, .int (nI p), .int v] [] S (0, 0) ν ρ := by
      intro q v ν hq hpq hqn hv hν
      have h' := h v (fun z => hv (by omega))
      rw [← hq] at h'
      simp only [← hν] at h'
      have e6 : ν 856 6 = nI q := by rw [hν, upI_at]
      simp only [w_X9_parseNumber_87, w_X9_parseNumber_107, w_X9_parseNumber_123, tAload, tIload, nth, tGetI, tGetR, tConst, tLconst, tBin, tUn, tI2l, tAld, tAldR, tAlen, tIast, tBast, tZast, tAast, tIret, tZret, tVret, tAret, tIf, tIf2, tGoto, tIstore, tAstore, sset, tIinc, tDup, tDup2, tPop, tPutI, tPutZ, tPutR, tCallV, tCallS, popN, tFn, tCopy, tMax, tMin, tSw, swc, tRem, tObjI, Option.toList, List.nil_append, List.cons_append, okR, true_and, and_true, true_or, or_true, Nat.zero_le, ne_eq, not_false_eq_true, Nat.reduceEqDiff, F_X9_fail, h1, e6]
      rw [nI_eq (by omega) (by omega), pk_sub (by omega), show (3 : Int32) = nI 3 from rfl, nI_leI (by omega) (by decide)]
      refine ⟨fun c => ⟨fun c2 => ?_, fun c2 => ?_⟩, fun c => ?_⟩
      · rw [if_neg c, if_neg (by omega)] at h'; exact h'
      · rw [if_neg c, if_pos (by omega)] at h'; exact h'
      · have c' := Classical.not_not.mp c
        rw [if_pos c'] at h'
        rw [c']; exact h'
    have loop : ∀ (m q x : Nat) (v : Int32) (ν : Mi), q + m = n → p ≤ q → (dg T n p 0).1 = (dg T n q 0).1 → (q ≤ p + 3 → v = nI x ∧ x < 10 ^ (q - p) ∧ dg T n p 0 = dg T n q (nI x)) → ν = upI μ 856 6 (nI q) → G 7 [.ref 856, .int (nI p), .int v] [] S (0, 0) ν ρ := by
      intro m
      induction m with
      | zero =>
        intro q x v ν hm hpq hd hv hν
        have e6 : ν 856 6 = nI q := by rw [hν, upI_at]
        have e5 : ν 856 5 = nI n := by rw [hν, upI_k (by omega)]; exact en
        have hs : ∀ w, dg T n q w = (q, w) := fun w => dg_e (by rw [seeT_hi (by omega)]; decide)
        apply g7
        simp only [w_X9_parseNumber_7, tAload, tIload, nth, tGetI, tGetR, tConst, tLconst, tBin, tUn, tI2l, tAld, tAldR, tAlen, tIast, tBast, tZast, tAast, tIret, tZret, tVret, tAret, tIf, tIf2, tGoto, tIstore, tAstore, sset, tIinc, tDup, tDup2, tPop, tPutI, tPutZ, tPutR, tCallV, tCallS, popN, tFn, tCopy, tMax, tMin, tSw, swc, tRem, tObjI, Option.toList, List.nil_append, List.cons_append, okR, true_and, and_true, true_or, or_true, Nat.zero_le, ne_eq, not_false_eq_true, Nat.reduceEqDiff, h1, e5, e6]
        refine ⟨fun _ => done q v ν (by rw [hd, hs]) hpq (by omega) (fun z => ?_) hν, fun c => absurd (by rw [nI_leI (by omega) (by omega)]; omega) c⟩
        obtain ⟨z1, z2, z3⟩ := hv z
        rw [z3, hs, z1]
      | succ m ih =>
        intro q x v ν hm hpq hd hv hν
        have hqn : q < n := by omega
        have e6 : ν 856 6 = nI q := by rw [hν, upI_at]
        have e5 : ν 856 5 = nI n := by rw [hν, upI_k (by omega)]; exact en
        have hvv : ν 857 q = seeT T n q := by rw [hν, upI_ne (by omega), hb q hqn]; unfold seeT; rw [if_pos hqn]
        have e := rg_05 (x := seeT T n q) (lo := 48) (hi := 57) (l := 48) (h := 57) (by decide) (by decide)
        have stop : ¬ rgd (seeT T n q) 48 57 → w_X9_parseNumber_87 (MS Z (d + 1)) G Rp [.ref 856, .int (nI p), .int v] [] S (0, 0) ν ρ := by
          intro c
          have hs : ∀ w, dg T n q w = (q, w) := fun w => dg_e c
          refine done q v ν (by rw [hd, hs]) hpq (by omega) (fun z => ?_) hν
          obtain ⟨z1, z2, z3⟩ := hv z
          rw [z3, hs, z1]
        have next : rgd (seeT T n q) 48 57 → ∀ (v' : Int32) (x' : Nat), (q + 1 ≤ p + 3 → v' = nI x' ∧ x' < 10 ^ (q + 1 - p) ∧ dg T n p 0 = dg T n (q + 1) (nI x')) → w_X9_parseNumber_74 (MS Z (d + 1)) G Rp [.ref 856, .int (nI p), .int v'] [] S (0, 0) ν ρ := by
          intro c v' x' hx
          simp only [w_X9_parseNumber_74, tAload, tIload, nth, tGetI, tGetR, tConst, tLconst, tBin, tUn, tI2l, tAld, tAldR, tAlen, tIast, tBast, tZast, tAast, tIret, tZret, tVret, tAret, tIf, tIf2, tGoto, tIstore, tAstore, sset, tIinc, tDup, tDup2, tPop, tPutI, tPutZ, tPutR, tCallV, tCallS, popN, tFn, tCopy, tMax, tMin, tSw, swc, tRem, tObjI, Option.toList, List.nil_append, List.cons_append, okR, true_and, and_true, true_or, or_true, Nat.zero_le, ne_eq, not_false_eq_true, Nat.reduceEqDiff, h1, e6, nI_s1]
          refine ih (q + 1) x' v' _ (by omega) (by omega) ?_ hx (by rw [hν, upI_6])
          rw [hd, dg_s c]
          exact dg_1 _ _ _ _
        apply g7
        simp only [w_X9_parseNumber_7, tAload, tIload, nth, tGetI, tGetR, tConst, tLconst, tBin, tUn, tI2l, tAld, tAldR, tAlen, tIast, tBast, tZast, tAast, tIret, tZret, tVret, tAret, tIf, tIf2, tGoto, tIstore, tAstore, sset, tIinc, tDup, tDup2, tPop, tPutI, tPutZ, tPutR, tCallV, tCallS, popN, tFn, tCopy, tMax, tMin, tSw, swc, tRem, tObjI, Option.toList, List.nil_append, List.cons_append, okR, true_and, and_true, true_or, or_true, Nat.zero_le, ne_eq, not_false_eq_true, Nat.reduceEqDiff, h1, t2, t4, e5, e6]
        rw [nI_leI (by omega) (by omega), nI_clamp (by omega), hvv, pk_sub (by omega), show (3 : Int32) = nI 3 from rfl, nI_leI (by decide) (by omega)]
        have hin : inb (nI q) 300 := inb_nI (by omega) (by decide)
        refine ⟨fun c => absurd c (by omega), fun _ => ⟨hin, fun c => stop (fun z => (e.mpr z).1 c), fun c => ⟨hin, fun c2 => stop (fun z => absurd (e.mpr z).2 (Int32.not_le.mpr c2)), fun c2 => ⟨fun c3 => ?_, fun c3 => ⟨hin, ?_⟩⟩⟩⟩⟩
        · exact next (e.mp ⟨c, Int32.not_lt.mp c2⟩) v 0 (fun z => by omega)
        · have cd := e.mp ⟨c, Int32.not_lt.mp c2⟩
          obtain ⟨z1, z2, z3⟩ := hv (by omega)
          obtain ⟨g, g1, g2, g3, g4⟩ := rg_ex cd
          have hpow : 10 ^ (q + 1 - p) = 10 * 10 ^ (q - p) := by rw [show q + 1 - p = (q - p) + 1 by omega, Nat.pow_succ, Nat.mul_comm]
          have hx3 : x < 1000 := by
            have : 10 ^ (q - p) ≤ 10 ^ 3 := Nat.pow_le_pow_right (by decide) (by omega)
            omega
          have ev : v * 10 + seeT T n q - 48 = nI (10 * x + (g - 48)) := by
            rw [z1, g1, Int32.mul_comm, show (10 : Int32) = nI 10 from rfl, show (48 : Int32) = nI 48 from rfl, pk_mul, nI_add, pk_sub (by omega)]
            congr 1
            omega
          have ev2 : (if 999 < nI x then nI x else 10 * nI x + seeT T n q - 48) = nI (10 * x + (g - 48)) := by
            rw [if_neg (by rw [show (999 : Int32) = nI 999 from rfl, nI_ltI (by decide) (by omega)]; omega), g1, show (10 : Int32) = nI 10 from rfl, show (48 : Int32) = nI 48 from rfl, pk_mul, nI_add, pk_sub (by omega)]
            congr 1
            omega
          rw [ev]
          refine next cd _ (10 * x + (g - 48)) (fun z => ⟨rfl, by omega, ?_⟩)
          rw [z3, dg_s cd, ev2]
    simp only [w_X9_parseNumber_0, tAload, tIload, nth, tGetI, tGetR, tConst, tLconst, tBin, tUn, tI2l, tAld, tAldR, tAlen, tIast, tBast, tZast, tAast, tIret, tZret, tVret, tAret, tIf, tIf2, tGoto, tIstore, tAstore, sset, tIinc, tDup, tDup2, tPop, tPutI, tPutZ, tPutR, tCallV, tCallS, popN, tFn, tCopy, tMax, tMin, tSw, swc, tRem, tObjI, Option.toList, List.nil_append, List.cons_append, okR, true_and, and_true, true_or, or_true, Nat.zero_le, ne_eq, not_false_eq_true, Nat.reduceEqDiff, h1, ep]
    exact loop (n - p) p 0 0 μ (by omega) (Nat.le_refl _) rfl (fun _ => ⟨rfl, by rw [Nat.sub_self]; decide, rfl⟩) (by rw [← ep, upI_self])
  · exact h.elim
