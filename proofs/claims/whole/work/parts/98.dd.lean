/-! ===== the class: acts ===== -/
theorem rg_04 {x : Int32} {lo hi : Int} {l h : Int32} (hl : l.toInt = lo) (hh : h.toInt = hi + 1) : (¬ x < l ∧ x < h) ↔ rgd x lo hi := by
  rw [Int32.lt_iff_toInt_lt, Int32.lt_iff_toInt_lt, hl, hh]
  unfold rgd
  omega
theorem rg_05 {x : Int32} {lo hi : Int} {l h : Int32} (hl : l.toInt = lo) (hh : h.toInt = hi) : (¬ x < l ∧ x ≤ h) ↔ rgd x lo hi := by
  rw [Int32.lt_iff_toInt_lt, Int32.le_iff_toInt_le, hl, hh]
  unfold rgd
  omega
def w_X11_isNoStore_14 (M : CT) (G : Nat → PT) (Rp : RT) : PT := tZret Rp
def w_X11_isNoStore_13 (M : CT) (G : Nat → PT) (Rp : RT) : PT := tConst 0 <| w_X11_isNoStore_14 M G Rp
def w_X11_isNoStore_9 (M : CT) (G : Nat → PT) (Rp : RT) : PT := tConst 1 <| tGoto (w_X11_isNoStore_14 M G Rp)
def w_X11_isNoStore_0 (M : CT) (G : Nat → PT) (Rp : RT) : PT := tIload 0 <| tIf (fun x => x < 0) (w_X11_isNoStore_9 M G Rp) <| tIload 0 <| tConst 5 <| tIf2 (fun x y => x < y) (w_X11_isNoStore_13 M G Rp) <| w_X11_isNoStore_9 M G Rp
set_option maxRecDepth 20000 in
theorem b_X11_isNoStore_14 {Z : Zt} {d : Nat} {p : Program} {e : Env} {R : Room} {s : State} {m : MethodId} {args : Array Value} {below : List Frame} {meth : Method} {c : Code} {Rp : RT} (C : Cx Z d jX11_isNoStore RX11 p R s m args meth c) : Sd Z jX11_isNoStore p e R s m args below meth c (MQ below (QcS Z Rp) args s 0 0 (fun a => Z.2.2.1 < a)) 14 (w_X11_isNoStore_14 (MS Z d) (Gw Z 1 p e R s m args below meth c (MQ below (QcS Z Rp) args s 0 0 (fun a => Z.2.2.1 < a))) Rp) := by
  unfold w_X11_isNoStore_14
  exact s_zret C rfl (by decide +kernel)
set_option maxRecDepth 20000 in
theorem b_X11_isNoStore_13 {Z : Zt} {d : Nat} {p : Program} {e : Env} {R : Room} {s : State} {m : MethodId} {args : Array Value} {below : List Frame} {meth : Method} {c : Code} {Rp : RT} (C : Cx Z d jX11_isNoStore RX11 p R s m args meth c) : Sd Z jX11_isNoStore p e R s m args below meth c (MQ below (QcS Z Rp) args s 0 0 (fun a => Z.2.2.1 < a)) 13 (w_X11_isNoStore_13 (MS Z d) (Gw Z 1 p e R s m args below meth c (MQ below (QcS Z Rp) args s 0 0 (fun a => Z.2.2.1 < a))) Rp) := by
  unfold w_X11_isNoStore_13
  refine s_iconst (n := 0) C (by decide +kernel) (by decide) ?_
  exact (b_X11_isNoStore_14 C)
set_option maxRecDepth 20000 in
theorem b_X11_isNoStore_9 {Z : Zt} {d : Nat} {p : Program} {e : Env} {R : Room} {s : State} {m : MethodId} {args : Array Value} {below : List Frame} {meth : Method} {c : Code} {Rp : RT} (C : Cx Z d jX11_isNoStore RX11 p R s m args meth c) : Sd Z jX11_isNoStore p e R s m args below meth c (MQ below (QcS Z Rp) args s 0 0 (fun a => Z.2.2.1 < a)) 9 (w_X11_isNoStore_9 (MS Z d) (Gw Z 1 p e R s m args below meth c (MQ below (QcS Z Rp) args s 0 0 (fun a => Z.2.2.1 < a))) Rp) := by
  unfold w_X11_isNoStore_9
  refine s_iconst (n := 1) C (by decide +kernel) (by decide) ?_
  exact s_goto (off := 4) (tgt := 14) C (by decide +kernel) (by decide) (b_X11_isNoStore_14 C)
set_option maxRecDepth 20000 in
theorem b_X11_isNoStore_0 {Z : Zt} {d : Nat} {p : Program} {e : Env} {R : Room} {s : State} {m : MethodId} {args : Array Value} {below : List Frame} {meth : Method} {c : Code} {Rp : RT} (C : Cx Z d jX11_isNoStore RX11 p R s m args meth c) : Sd Z jX11_isNoStore p e R s m args below meth c (MQ below (QcS Z Rp) args s 0 0 (fun a => Z.2.2.1 < a)) 0 (w_X11_isNoStore_0 (MS Z d) (Gw Z 1 p e R s m args below meth c (MQ below (QcS Z Rp) args s 0 0 (fun a => Z.2.2.1 < a))) Rp) := by
  unfold w_X11_isNoStore_0
  refine s_iload_n (k := 0) C (by decide +kernel) ?_
  refine s_if_lt (off := 8) (tgt := 9) C (by decide +kernel) (by decide) (b_X11_isNoStore_9 C) ?_
  refine s_iload_n (k := 0) C (by decide +kernel) ?_
  refine s_iconst (n := 5) C (by decide +kernel) (by decide) ?_
  refine s_icmp_lt (off := 7) (tgt := 13) C (by decide +kernel) (by decide) (b_X11_isNoStore_13 C) ?_
  exact (b_X11_isNoStore_9 C)
theorem ms_X11_isNoStore {Z : Zt} {d : Nat} {S : Sh} {μ : Mi} {ρ : Mr} {Rp : RT} (x1 : Int32) (h : ∀ G : Nat → PT, w_X11_isNoStore_0 (MS Z d) G Rp [.int x1] [] S (0, 0) μ ρ) : MS Z (d + 1) jX11_isNoStore [.int x1] S μ ρ Rp :=
  MS_of [.int x1] (by decide +kernel) rfl rfl (Nat.le_of_ble_eq_true rfl) rfl (fun p e R s m args below meth c C => b_X11_isNoStore_0 C _ _ _ _ _ _ (h _ ))
def F_X11_isNoStore : FT := fun As S μ ρ k => match As with
  | [.int s] => k (some (.int (b2 (¬ rgd s 0 4)))) μ
  | _ => False
set_option maxHeartbeats 1000000 in
theorem f_X11_isNoStore {Z : Zt} {d : Nat} {As : List Value} {S : Sh} {μ : Mi} {ρ : Mr} {Rp : RT} (h : F_X11_isNoStore As S μ ρ (fun r μ' => Rp r S μ' ρ)) : MS Z (d + 1) jX11_isNoStore As S μ ρ Rp := by
  unfold F_X11_isNoStore at h
  split at h
  · rename_i s
    refine ms_X11_isNoStore _ (fun G => ?_)
    have e := rg_04 (x := s) (lo := 0) (hi := 4) (l := 0) (h := 5) (by decide) (by decide)
    unfold b2 at h
    simp only [w_X11_isNoStore_0, w_X11_isNoStore_9, w_X11_isNoStore_13, w_X11_isNoStore_14, tAload, tIload, nth, tGetI, tGetR, tConst, tLconst, tBin, tUn, tI2l, tAld, tAldR, tAlen, tIast, tBast, tZast, tAast, tIret, tZret, tVret, tAret, tIf, tIf2, tGoto, tIstore, tAstore, sset, tIinc, tDup, tDup2, tPop, tPutI, tPutZ, tPutR, tCallV, tCallS, popN, tFn, tCopy, tMax, tMin, tSw, swc, tRem, tObjI, Option.toList, List.nil_append, List.cons_append, okR, true_and, and_true, true_or, or_true, Nat.zero_le, ne_eq, not_false_eq_true, Nat.reduceEqDiff]
    refine ⟨fun c => ?_, fun c => ⟨fun c2 => ?_, fun c2 => ?_⟩⟩
    · rw [if_pos (fun z => (e.mpr z).1 c)] at h; exact h
    · rw [if_neg (not_not_intro (e.mp ⟨c, c2⟩))] at h; exact h
    · rw [if_pos (fun z => c2 (e.mpr z).2)] at h; exact h
  · exact h.elim
def w_X11_isNoCell_14 (M : CT) (G : Nat → PT) (Rp : RT) : PT := tZret Rp
def w_X11_isNoCell_13 (M : CT) (G : Nat → PT) (Rp : RT) : PT := tConst 0 <| w_X11_isNoCell_14 M G Rp
def w_X11_isNoCell_9 (M : CT) (G : Nat → PT) (Rp : RT) : PT := tConst 1 <| tGoto (w_X11_isNoCell_14 M G Rp)
def w_X11_isNoCell_0 (M : CT) (G : Nat → PT) (Rp : RT) : PT := tIload 0 <| tIf (fun x => x < 0) (w_X11_isNoCell_9 M G Rp) <| tIload 0 <| tConst 4 <| tIf2 (fun x y => x < y) (w_X11_isNoCell_13 M G Rp) <| w_X11_isNoCell_9 M G Rp
set_option maxRecDepth 20000 in
theorem b_X11_isNoCell_14 {Z : Zt} {d : Nat} {p : Program} {e : Env} {R : Room} {s : State} {m : MethodId} {args : Array Value} {below : List Frame} {meth : Method} {c : Code} {Rp : RT} (C : Cx Z d jX11_isNoCell RX11 p R s m args meth c) : Sd Z jX11_isNoCell p e R s m args below meth c (MQ below (QcS Z Rp) args s 0 0 (fun a => Z.2.2.1 < a)) 14 (w_X11_isNoCell_14 (MS Z d) (Gw Z 1 p e R s m args below meth c (MQ below (QcS Z Rp) args s 0 0 (fun a => Z.2.2.1 < a))) Rp) := by
  unfold w_X11_isNoCell_14
  exact s_zret C rfl (by decide +kernel)
set_option maxRecDepth 20000 in
theorem b_X11_isNoCell_13 {Z : Zt} {d : Nat} {p : Program} {e : Env} {R : Room} {s : State} {m : MethodId} {args : Array Value} {below : List Frame} {meth : Method} {c : Code} {Rp : RT} (C : Cx Z d jX11_isNoCell RX11 p R s m args meth c) : Sd Z jX11_isNoCell p e R s m args below meth c (MQ below (QcS Z Rp) args s 0 0 (fun a => Z.2.2.1 < a)) 13 (w_X11_isNoCell_13 (MS Z d) (Gw Z 1 p e R s m args below meth c (MQ below (QcS Z Rp) args s 0 0 (fun a => Z.2.2.1 < a))) Rp) := by
  unfold w_X11_isNoCell_13
  refine s_iconst (n := 0) C (by decide +kernel) (by decide) ?_
  exact (b_X11_isNoCell_14 C)
set_option maxRecDepth 20000 in
theorem b_X11_isNoCell_9 {Z : Zt} {d : Nat} {p : Program} {e : Env} {R : Room} {s : State} {m : MethodId} {args : Array Value} {below : List Frame} {meth : Method} {c : Code} {Rp : RT} (C : Cx Z d jX11_isNoCell RX11 p R s m args meth c) : Sd Z jX11_isNoCell p e R s m args below meth c (MQ below (QcS Z Rp) args s 0 0 (fun a => Z.2.2.1 < a)) 9 (w_X11_isNoCell_9 (MS Z d) (Gw Z 1 p e R s m args below meth c (MQ below (QcS Z Rp) args s 0 0 (fun a => Z.2.2.1 < a))) Rp) := by
  unfold w_X11_isNoCell_9
  refine s_iconst (n := 1) C (by decide +kernel) (by decide) ?_
  exact s_goto (off := 4) (tgt := 14) C (by decide +kernel) (by decide) (b_X11_isNoCell_14 C)
set_option maxRecDepth 20000 in
theorem b_X11_isNoCell_0 {Z : Zt} {d : Nat} {p : Program} {e : Env} {R : Room} {s : State} {m : MethodId} {args : Array Value} {below : List Frame} {meth : Method} {c : Code} {Rp : RT} (C : Cx Z d jX11_isNoCell RX11 p R s m args meth c) : Sd Z jX11_isNoCell p e R s m args below meth c (MQ below (QcS Z Rp) args s 0 0 (fun a => Z.2.2.1 < a)) 0 (w_X11_isNoCell_0 (MS Z d) (Gw Z 1 p e R s m args below meth c (MQ below (QcS Z Rp) args s 0 0 (fun a => Z.2.2.1 < a))) Rp) := by
  unfold w_X11_isNoCell_0
  refine s_iload_n (k := 0) C (by decide +kernel) ?_
  refine s_if_lt (off := 8) (tgt := 9) C (by decide +kernel) (by decide) (b_X11_isNoCell_9 C) ?_
  refine s_iload_n (k := 0) C (by decide +kernel) ?_
  refine s_iconst (n := 4) C (by decide +kernel) (by decide) ?_
  refine s_icmp_lt (off := 7) (tgt := 13) C (by decide +kernel) (by decide) (b_X11_isNoCell_13 C) ?_
  exact (b_X11_isNoCell_9 C)
theorem ms_X11_isNoCell {Z : Zt} {d : Nat} {S : Sh} {μ : Mi} {ρ : Mr} {Rp : RT} (x1 : Int32) (h : ∀ G : Nat → PT, w_X11_isNoCell_0 (MS Z d) G Rp [.int x1] [] S (0, 0) μ ρ) : MS Z (d + 1) jX11_isNoCell [.int x1] S μ ρ Rp :=
  MS_of [.int x1] (by decide +kernel) rfl rfl (Nat.le_of_ble_eq_true rfl) rfl (fun p e R s m args below meth c C => b_X11_isNoCell_0 C _ _ _ _ _ _ (h _ ))
def F_X11_isNoCell : FT := fun As S μ ρ k => match As with
  | [.int s] => k (some (.int (b2 (¬ rgd s 0 3)))) μ
  | _ => False
set_option maxHeartbeats 1000000 in
theorem f_X11_isNoCell {Z : Zt} {d : Nat} {As : List Value} {S : Sh} {μ : Mi} {ρ : Mr} {Rp : RT} (h : F_X11_isNoCell As S μ ρ (fun r μ' => Rp r S μ' ρ)) : MS Z (d + 1) jX11_isNoCell As S μ ρ Rp := by
  unfold F_X11_isNoCell at h
  split at h
  · rename_i s
    refine ms_X11_isNoCell _ (fun G => ?_)
    have e := rg_04 (x := s) (lo := 0) (hi := 3) (l := 0) (h := 4) (by decide) (by decide)
    unfold b2 at h
    simp only [w_X11_isNoCell_0, w_X11_isNoCell_9, w_X11_isNoCell_13, w_X11_isNoCell_14, tAload, tIload, nth, tGetI, tGetR, tConst, tLconst, tBin, tUn, tI2l, tAld, tAldR, tAlen, tIast, tBast, tZast, tAast, tIret, tZret, tVret, tAret, tIf, tIf2, tGoto, tIstore, tAstore, sset, tIinc, tDup, tDup2, tPop, tPutI, tPutZ, tPutR, tCallV, tCallS, popN, tFn, tCopy, tMax, tMin, tSw, swc, tRem, tObjI, Option.toList, List.nil_append, List.cons_append, okR, true_and, and_true, true_or, or_true, Nat.zero_le, ne_eq, not_false_eq_true, Nat.reduceEqDiff]
    refine ⟨fun c => ?_, fun c => ⟨fun c2 => ?_, fun c2 => ?_⟩⟩
    · rw [if_pos (fun z => (e.mpr z).1 c)] at h; exact h
    · rw [if_neg (not_not_intro (e.mp ⟨c, c2⟩))] at h; exact h
    · rw [if_pos (fun z => c2 (e.mpr z).2)] at h; exact h
  · exact h.elim
def w_X11_isNoSet_16 (M : CT) (G : Nat → PT) (Rp : RT) : PT := tZret Rp
def w_X11_isNoSet_15 (M : CT) (G : Nat → PT) (Rp : RT) : PT := tConst 0 <| w_X11_isNoSet_16 M G Rp
def w_X11_isNoSet_11 (M : CT) (G : Nat → PT) (Rp : RT) : PT := tConst 1 <| tGoto (w_X11_isNoSet_16 M G Rp)
def w_X11_isNoSet_0 (M : CT) (G : Nat → PT) (Rp : RT) : PT := tIload 0 <| tConst 1 <| tIf2 (fun x y => x < y) (w_X11_isNoSet_11 M G Rp) <| tIload 0 <| tConst 31 <| tIf2 (fun x y => x ≤ y) (w_X11_isNoSet_15 M G Rp) <| w_X11_isNoSet_11 M G Rp
set_option maxRecDepth 20000 in
theorem b_X11_isNoSet_16 {Z : Zt} {d : Nat} {p : Program} {e : Env} {R : Room} {s : State} {m : MethodId} {args : Array Value} {below : List Frame} {meth : Method} {c : Code} {Rp : RT} (C : Cx Z d jX11_isNoSet RX11 p R s m args meth c) : Sd Z jX11_isNoSet p e R s m args below meth c (MQ below (QcS Z Rp) args s 0 0 (fun a => Z.2.2.1 < a)) 16 (w_X11_isNoSet_16 (MS Z d) (Gw Z 1 p e R s m args below meth c (MQ below (QcS Z Rp) args s 0 0 (fun a => Z.2.2.1 < a))) Rp) := by
  unfold w_X11_isNoSet_16
  exact s_zret C rfl (by decide +kernel)
set_option maxRecDepth 20000 in
theorem b_X11_isNoSet_15 {Z : Zt} {d : Nat} {p : Program} {e : Env} {R : Room} {s : State} {m : MethodId} {args : Array Value} {below : List Frame} {meth : Method} {c : Code} {Rp : RT} (C : Cx Z d jX11_isNoSet RX11 p R s m args meth c) : Sd Z jX11_isNoSet p e R s m args below meth c (MQ below (QcS Z Rp) args s 0 0 (fun a => Z.2.2.1 < a)) 15 (w_X11_isNoSet_15 (MS Z d) (Gw Z 1 p e R s m args below meth c (MQ below (QcS Z Rp) args s 0 0 (fun a => Z.2.2.1 < a))) Rp) := by
  unfold w_X11_isNoSet_15
  refine s_iconst (n := 0) C (by decide +kernel) (by decide) ?_
  exact (b_X11_isNoSet_16 C)
set_option maxRecDepth 20000 in
theorem b_X11_isNoSet_11 {Z : Zt} {d : Nat} {p : Program} {e : Env} {R : Room} {s : State} {m : MethodId} {args : Array Value} {below : List Frame} {meth : Method} {c : Code} {Rp : RT} (C : Cx Z d jX11_isNoSet RX11 p R s m args meth c) : Sd Z jX11_isNoSet p e R s m args below meth c (MQ below (QcS Z Rp) args s 0 0 (fun a => Z.2.2.1 < a)) 11 (w_X11_isNoSet_11 (MS Z d) (Gw Z 1 p e R s m args below meth c (MQ below (QcS Z Rp) args s 0 0 (fun a => Z.2.2.1 < a))) Rp) := by
  unfold w_X11_isNoSet_11
  refine s_iconst (n := 1) C (by decide +kernel) (by decide) ?_
  exact s_goto (off := 4) (tgt := 16) C (by decide +kernel) (by decide) (b_X11_isNoSet_16 C)
set_option maxRecDepth 20000 in
theorem b_X11_isNoSet_0 {Z : Zt} {d : Nat} {p : Program} {e : Env} {R : Room} {s : State} {m : MethodId} {args : Array Value} {below : List Frame} {meth : Method} {c : Code} {Rp : RT} (C : Cx Z d jX11_isNoSet RX11 p R s m args meth c) : Sd Z jX11_isNoSet p e R s m args below meth c (MQ below (QcS Z Rp) args s 0 0 (fun a => Z.2.2.1 < a)) 0 (w_X11_isNoSet_0 (MS Z d) (Gw Z 1 p e R s m args below meth c (MQ below (QcS Z Rp) args s 0 0 (fun a => Z.2.2.1 < a))) Rp) := by
  unfold w_X11_isNoSet_0
  refine s_iload_n (k := 0) C (by decide +kernel) ?_
  refine s_iconst (n := 1) C (by decide +kernel) (by decide) ?_
  refine s_icmp_lt (off := 9) (tgt := 11) C (by decide +kernel) (by decide) (b_X11_isNoSet_11 C) ?_
  refine s_iload_n (k := 0) C (by decide +kernel) ?_
  refine s_bipush (n := 31) C (by decide +kernel) (by decide) ?_
  refine s_icmp_le (off := 7) (tgt := 15) C (by decide +kernel) (by decide) (b_X11_isNoSet_15 C) ?_
  exact (b_X11_isNoSet_11 C)
theorem ms_X11_isNoSet {Z : Zt} {d : Nat} {S : Sh} {μ : Mi} {ρ : Mr} {Rp : RT} (x1 : Int32) (h : ∀ G : Nat → PT, w_X11_isNoSet_0 (MS Z d) G Rp [.int x1] [] S (0, 0) μ ρ) : MS Z (d + 1) jX11_isNoSet [.int x1] S μ ρ Rp :=
  MS_of [.int x1] (by decide +kernel) rfl rfl (Nat.le_of_ble_eq_true rfl) rfl (fun p e R s m args below meth c C => b_X11_isNoSet_0 C _ _ _ _ _ _ (h _ ))
def F_X11_isNoSet : FT := fun As S μ ρ k => match As with
  | [.int s] => k (some (.int (b2 (¬ rgd s 1 31)))) μ
  | _ => False
set_option maxHeartbeats 1000000 in
theorem f_X11_isNoSet {Z : Zt} {d : Nat} {As : List Value} {S : Sh} {μ : Mi} {ρ : Mr} {Rp : RT} (h : F_X11_isNoSet As S μ ρ (fun r μ' => Rp r S μ' ρ)) : MS Z (d + 1) jX11_isNoSet As S μ ρ Rp := by
  unfold F_X11_isNoSet at h
  split at h
  · rename_i s
    refine ms_X11_isNoSet _ (fun G => ?_)
    have e := rg_05 (x := s) (lo := 1) (hi := 31) (l := 1) (h := 31) (by decide) (by decide)
    unfold b2 at h
    simp only [w_X11_isNoSet_0, w_X11_isNoSet_11, w_X11_isNoSet_15, w_X11_isNoSet_16, tAload, tIload, nth, tGetI, tGetR, tConst, tLconst, tBin, tUn, tI2l, tAld, tAldR, tAlen, tIast, tBast, tZast, tAast, tIret, tZret, tVret, tAret, tIf, tIf2, tGoto, tIstore, tAstore, sset, tIinc, tDup, tDup2, tPop, tPutI, tPutZ, tPutR, tCallV, tCallS, popN, tFn, tCopy, tMax, tMin, tSw, swc, tRem, tObjI, Option.toList, List.nil_append, List.cons_append, okR, true_and, and_true, true_or, or_true, Nat.zero_le, ne_eq, not_false_eq_true, Nat.reduceEqDiff]
    refine ⟨fun c => ?_, fun c => ⟨fun c2 => ?_, fun c2 => ?_⟩⟩
    · rw [if_pos (fun z => (e.mpr z).1 c)] at h; exact h
    · rw [if_neg (not_not_intro (e.mp ⟨c, c2⟩))] at h; exact h
    · rw [if_pos (fun z => c2 (e.mpr z).2)] at h; exact h
  · exact h.elim
def w_X10_isNoLeader_18 (M : CT) (G : Nat → PT) (Rp : RT) : PT := tZret Rp
def w_X10_isNoLeader_17 (M : CT) (G : Nat → PT) (Rp : RT) : PT := tConst 0 <| w_X10_isNoLeader_18 M G Rp
def w_X10_isNoLeader_0 (M : CT) (G : Nat → PT) (Rp : RT) : PT := tAload 0 <| tGetR 10 6 0 <| tIload 1 <| tAldR 37 <| tGetI 7 18 4 <| tConst 2 <| tIf2 (fun x y => x = y) (w_X10_isNoLeader_17 M G Rp) <| tConst 1 <| tGoto (w_X10_isNoLeader_18 M G Rp)
set_option maxRecDepth 20000 in
theorem b_X10_isNoLeader_18 {Z : Zt} {d : Nat} {p : Program} {e : Env} {R : Room} {s : State} {m : MethodId} {args : Array Value} {below : List Frame} {meth : Method} {c : Code} {Rp : RT} (C : Cx Z d jX10_isNoLeader RX10 p R s m args meth c) : Sd Z jX10_isNoLeader p e R s m args below meth c (MQ below (QcS Z Rp) args s 0 0 (fun a => Z.2.2.1 < a)) 18 (w_X10_isNoLeader_18 (MS Z d) (Gw Z 2 p e R s m args below meth c (MQ below (QcS Z Rp) args s 0 0 (fun a => Z.2.2.1 < a))) Rp) := by
  unfold w_X10_isNoLeader_18
  exact s_zret C rfl (by decide +kernel)
set_option maxRecDepth 20000 in
theorem b_X10_isNoLeader_17 {Z : Zt} {d : Nat} {p : Program} {e : Env} {R : Room} {s : State} {m : MethodId} {args : Array Value} {below : List Frame} {meth : Method} {c : Code} {Rp : RT} (C : Cx Z d jX10_isNoLeader RX10 p R s m args meth c) : Sd Z jX10_isNoLeader p e R s m args below meth c (MQ below (QcS Z Rp) args s 0 0 (fun a => Z.2.2.1 < a)) 17 (w_X10_isNoLeader_17 (MS Z d) (Gw Z 2 p e R s m args below meth c (MQ below (QcS Z Rp) args s 0 0 (fun a => Z.2.2.1 < a))) Rp) := by
  unfold w_X10_isNoLeader_17
  refine s_iconst (n := 0) C (by decide +kernel) (by decide) ?_
  exact (b_X10_isNoLeader_18 C)
set_option maxRecDepth 20000 in
theorem b_X10_isNoLeader_0 {Z : Zt} {d : Nat} {p : Program} {e : Env} {R : Room} {s : State} {m : MethodId} {args : Array Value} {below : List Frame} {meth : Method} {c : Code} {Rp : RT} (C : Cx Z d jX10_isNoLeader RX10 p R s m args meth c) : Sd Z jX10_isNoLeader p e R s m args below meth c (MQ below (QcS Z Rp) args s 0 0 (fun a => Z.2.2.1 < a)) 0 (w_X10_isNoLeader_0 (MS Z d) (Gw Z 2 p e R s m args below meth c (MQ below (QcS Z Rp) args s 0 0 (fun a => Z.2.2.1 < a))) Rp) := by
  unfold w_X10_isNoLeader_0
  refine s_aload_n (k := 0) C (by decide +kernel) ?_
  refine s_getR C w_2_113 (by decide +kernel) rfl ?_
  refine s_iload_n (k := 1) C (by decide +kernel) ?_
  refine s_aald C rfl (by decide +kernel) ?_
  refine s_getI C w_1_234 (by decide +kernel) rfl ?_
  refine s_iconst (n := 2) C (by decide +kernel) (by decide) ?_
  refine s_icmp_eq (off := 7) (tgt := 17) C (by decide +kernel) (by decide) (b_X10_isNoLeader_17 C) ?_
  refine s_iconst (n := 1) C (by decide +kernel) (by decide) ?_
  exact s_goto (off := 4) (tgt := 18) C (by decide +kernel) (by decide) (b_X10_isNoLeader_18 C)
theorem ms_X10_isNoLeader {Z : Zt} {d : Nat} {S : Sh} {μ : Mi} {ρ : Mr} {Rp : RT} (a0 : Nat) (x1 : Int32) (h : ∀ G : Nat → PT, w_X10_isNoLeader_0 (MS Z d) G Rp [.ref a0, .int x1] [] S (0, 0) μ ρ) : MS Z (d + 1) jX10_isNoLeader [.ref a0, .int x1] S μ ρ Rp :=
  MS_of [.ref a0, .int x1] (by decide +kernel) rfl rfl (Nat.le_of_ble_eq_true rfl) rfl (fun p e R s m args below meth c C => b_X10_isNoLeader_0 C _ _ _ _ _ _ (h _ ))
def F_X10_isNoLeader : FT := fun As S μ ρ k => match As with
  | [.ref a, .int n] => S.2 a = (10, 6) ∧ ∃ (s : Nat) (A : Rw), RR A a S μ ρ ∧ n = nI s ∧ s < 5 ∧ k (some (.int (b2 (¬ A (514 * s + 3) = 2)))) μ
  | _ => False
theorem r_X10_isNoLeader {As S μ ρ k} (h : F_X10_isNoLeader As S μ ρ k) : ∃ a As', As = Value.ref a :: As' ∧ S.2 a = (10, 6) := by
  unfold F_X10_isNoLeader at h
  split at h
  · exact ⟨_, _, rfl, h.1⟩
  · exact h.elim
set_option maxHeartbeats 1000000 in
theorem f_X10_isNoLeader {Z : Zt} {d : Nat} {As : List Value} {S : Sh} {μ : Mi} {ρ : Mr} {Rp : RT} (h : F_X10_isNoLeader As S μ ρ (fun r μ' => Rp r S μ' ρ)) : MS Z (d + 1) jX10_isNoLeader As S μ ρ Rp := by
  unfold F_X10_isNoLeader at h
  split at h
  · rename_i a n
    obtain ⟨a, hNa⟩ : ∃ n : Nat, n = a := ⟨a, rfl⟩
    subst hNa
    obtain ⟨h1, s, A, hR, rfl, hs, h⟩ := h
    refine ms_X10_isNoLeader _ _ (fun G => ?_)
    have hW := RR_W hR
    obtain ⟨x1, x2, x3⟩ := W_st hW hs
    have e4 : μ (a + 130 + 8 * s) 4 = A (514 * s + 3) := (RR_st hR hs).1.2.2.2.2.1
    unfold b2 at h
    simp only [w_X10_isNoLeader_0, w_X10_isNoLeader_17, w_X10_isNoLeader_18, tAload, tIload, nth, tGetI, tGetR, tConst, tLconst, tBin, tUn, tI2l, tAld, tAldR, tAlen, tIast, tBast, tZast, tAast, tIret, tZret, tVret, tAret, tIf, tIf2, tGoto, tIstore, tAstore, sset, tIinc, tDup, tDup2, tPop, tPutI, tPutZ, tPutR, tCallV, tCallS, popN, tFn, tCopy, tMax, tMin, tSw, swc, tRem, tObjI, Option.toList, List.nil_append, List.cons_append, okR, true_and, and_true, true_or, or_true, Nat.zero_le, ne_eq, not_false_eq_true, Nat.reduceEqDiff, h1, hW.2.2.2.2.1, hW.2.1, nI_clamp (show s < 2 ^ 31 by omega), x3, x1, e4, inb_nI hs (show (5 : Nat) < 2 ^ 31 by decide)]
    refine ⟨by omega, fun c => ?_, fun c => ?_⟩
    · rw [if_neg (not_not_intro c)] at h; exact h
    · rw [if_pos c] at h; exact h
  · exact h.elim
def w_X10_isNoMessage_20 (M : CT) (G : Nat → PT) (Rp : RT) : PT := tZret Rp
def w_X10_isNoMessage_19 (M : CT) (G : Nat → PT) (Rp : RT) : PT := tConst 0 <| w_X10_isNoMessage_20 M G Rp
def w_X10_isNoMessage_15 (M : CT) (G : Nat → PT) (Rp : RT) : PT := tConst 1 <| tGoto (w_X10_isNoMessage_20 M G Rp)
def w_X10_isNoMessage_0 (M : CT) (G : Nat → PT) (Rp : RT) : PT := tIload 1 <| tIf (fun x => x < 0) (w_X10_isNoMessage_15 M G Rp) <| tIload 1 <| tAload 0 <| tGetR 10 6 1 <| tGetI 1 6 2 <| tIf2 (fun x y => x < y) (w_X10_isNoMessage_19 M G Rp) <| w_X10_isNoMessage_15 M G Rp
set_option maxRecDepth 20000 in
theorem b_X10_isNoMessage_20 {Z : Zt} {d : Nat} {p : Program} {e : Env} {R : Room} {s : State} {m : MethodId} {args : Array Value} {below : List Frame} {meth : Method} {c : Code} {Rp : RT} (C : Cx Z d jX10_isNoMessage RX10 p R s m args meth c) : Sd Z jX10_isNoMessage p e R s m args below meth c (MQ below (QcS Z Rp) args s 0 0 (fun a => Z.2.2.1 < a)) 20 (w_X10_isNoMessage_20 (MS Z d) (Gw Z 2 p e R s m args below meth c (MQ below (QcS Z Rp) args s 0 0 (fun a => Z.2.2.1 < a))) Rp) := by
  unfold w_X10_isNoMessage_20
  exact s_zret C rfl (by decide +kernel)
set_option maxRecDepth 20000 in
theorem b_X10_isNoMessage_19 {Z : Zt} {d : Nat} {p : Program} {e : Env} {R : Room} {s : State} {m : MethodId} {args : Array Value} {below : List Frame} {meth : Method} {c : Code} {Rp : RT} (C : Cx Z d jX10_isNoMessage RX10 p R s m args meth c) : Sd Z jX10_isNoMessage p e R s m args below meth c (MQ below (QcS Z Rp) args s 0 0 (fun a => Z.2.2.1 < a)) 19 (w_X10_isNoMessage_19 (MS Z d) (Gw Z 2 p e R s m args below meth c (MQ below (QcS Z Rp) args s 0 0 (fun a => Z.2.2.1 < a))) Rp) := by
  unfold w_X10_isNoMessage_19
  refine s_iconst (n := 0) C (by decide +kernel) (by decide) ?_
  exact (b_X10_isNoMessage_20 C)
set_option maxRecDepth 20000 in
theorem b_X10_isNoMessage_15 {Z : Zt} {d : Nat} {p : Program} {e : Env} {R : Room} {s : State} {m : MethodId} {args : Array Value} {below : List Frame} {meth : Method} {c : Code} {Rp : RT} (C : Cx Z d jX10_isNoMessage RX10 p R s m args meth c) : Sd Z jX10_isNoMessage p e R s m args below meth c (MQ below (QcS Z Rp) args s 0 0 (fun a => Z.2.2.1 < a)) 15 (w_X10_isNoMessage_15 (MS Z d) (Gw Z 2 p e R s m args below meth c (MQ below (QcS Z Rp) args s 0 0 (fun a => Z.2.2.1 < a))) Rp) := by
  unfold w_X10_isNoMessage_15
  refine s_iconst (n := 1) C (by decide +kernel) (by decide) ?_
  exact s_goto (off := 4) (tgt := 20) C (by decide +kernel) (by decide) (b_X10_isNoMessage_20 C)
set_option maxRecDepth 20000 in
theorem b_X10_isNoMessage_0 {Z : Zt} {d : Nat} {p : Program} {e : Env} {R : Room} {s : State} {m : MethodId} {args : Array Value} {below : List Frame} {meth : Method} {c : Code} {Rp : RT} (C : Cx Z d jX10_isNoMessage RX10 p R s m args meth c) : Sd Z jX10_isNoMessage p e R s m args below meth c (MQ below (QcS Z Rp) args s 0 0 (fun a => Z.2.2.1 < a)) 0 (w_X10_isNoMessage_0 (MS Z d) (Gw Z 2 p e R s m args below meth c (MQ below (QcS Z Rp) args s 0 0 (fun a => Z.2.2.1 < a))) Rp) := by
  unfold w_X10_isNoMessage_0
  refine s_iload_n (k := 1) C (by decide +kernel) ?_
  refine s_if_lt (off := 14) (tgt := 15) C (by decide +kernel) (by decide) (b_X10_isNoMessage_15 C) ?_
  refine s_iload_n (k := 1) C (by decide +kernel) ?_
  refine s_aload_n (k := 0) C (by decide +kernel) ?_
  refine s_getR C w_2_117 (by decide +kernel) rfl ?_
  refine s_getI C w_1_126 (by decide +kernel) rfl ?_
  refine s_icmp_lt (off := 7) (tgt := 19) C (by decide +kernel) (by decide) (b_X10_isNoMessage_19 C) ?_
  exact (b_X10_isNoMessage_15 C)
theorem ms_X10_isNoMessage {Z : Zt} {d : Nat} {S : Sh} {μ : Mi} {ρ : Mr} {Rp : RT} (a0 : Nat) (x1 : Int32) (h : ∀ G : Nat → PT, w_X10_isNoMessage_0 (MS Z d) G Rp [.ref a0, .int x1] [] S (0, 0) μ ρ) : MS Z (d + 1) jX10_isNoMessage [.ref a0, .int x1] S μ ρ Rp :=
  MS_of [.ref a0, .int x1] (by decide +kernel) rfl rfl (Nat.le_of_ble_eq_true rfl) rfl (fun p e R s m args below meth c C => b_X10_isNoMessage_0 C _ _ _ _ _ _ (h _ ))
def F_X10_isNoMessage : FT := fun As S μ ρ k => match As with
  | [.ref a, .int n] => S.2 a = (10, 6) ∧ ∃ (A : Rw), RR A a S μ ρ ∧ k (some (.int (b2 (¬ isMsg A n)))) μ
  | _ => False
theorem r_X10_isNoMessage {As S μ ρ k} (h : F_X10_isNoMessage As S μ ρ k) : ∃ a As', As = Value.ref a :: As' ∧ S.2 a = (10, 6) := by
  unfold F_X10_isNoMessage at h
  split at h
  · exact ⟨_, _, rfl, h.1⟩
  · exact h.elim
set_option maxHeartbeats 1000000 in
theorem f_X10_isNoMessage {Z : Zt} {d : Nat} {As : List Value} {S : Sh} {μ : Mi} {ρ : Mr} {Rp : RT} (h : F_X10_isNoMessage As S μ ρ (fun r μ' => Rp r S μ' ρ)) : MS Z (d + 1) jX10_isNoMessage As S μ ρ Rp := by
  unfold F_X10_isNoMessage at h
  split at h
  · rename_i a n
    obtain ⟨a, hNa⟩ : ∃ n : Nat, n = a := ⟨a, rfl⟩
    subst hNa
    obtain ⟨h1, A, hR, h⟩ := h
    refine ms_X10_isNoMessage _ _ (fun G => ?_)
    have hW := RR_W hR
    have e2 : μ (a + 2) 2 = A 4510 := hR.1.2.2.1.1.1
    have e : (¬ n < 0 ∧ n < A 4510) ↔ isMsg A n := by
      rw [Int32.lt_iff_toInt_lt, Int32.lt_iff_toInt_lt]
      have : Int32.toInt 0 = 0 := by decide
      unfold isMsg
      omega
    unfold b2 at h
    simp only [w_X10_isNoMessage_0, w_X10_isNoMessage_15, w_X10_isNoMessage_19, w_X10_isNoMessage_20, tAload, tIload, nth, tGetI, tGetR, tConst, tLconst, tBin, tUn, tI2l, tAld, tAldR, tAlen, tIast, tBast, tZast, tAast, tIret, tZret, tVret, tAret, tIf, tIf2, tGoto, tIstore, tAstore, sset, tIinc, tDup, tDup2, tPop, tPutI, tPutZ, tPutR, tCallV, tCallS, popN, tFn, tCopy, tMax, tMin, tSw, swc, tRem, tObjI, Option.toList, List.nil_append, List.cons_append, okR, true_and, and_true, true_or, or_true, Nat.zero_le, ne_eq, not_false_eq_true, Nat.reduceEqDiff, h1, hW.2.2.2.2.1, hW.2.1, e2]
    refine ⟨fun c => ?_, fun c => ⟨fun c2 => ?_, fun c2 => ?_⟩⟩
    · rw [if_pos (fun z => (e.mpr z).1 c)] at h; exact h
    · rw [if_neg (not_not_intro (e.mp ⟨c, c2⟩))] at h; exact h
    · rw [if_pos (fun z => c2 (e.mpr z).2)] at h; exact h
  · exact h.elim
def w_X10_canTimeOut_45 (M : CT) (G : Nat → PT) (Rp : RT) : PT := tZret Rp
def w_X10_canTimeOut_44 (M : CT) (G : Nat → PT) (Rp : RT) : PT := tConst 0 <| w_X10_canTimeOut_45 M G Rp
def w_X10_canTimeOut_0 (M : CT) (G : Nat → PT) (Rp : RT) : PT := tAload 0 <| tGetR 10 6 0 <| tIload 1 <| tAldR 37 <| tAstore 2 <| tAload 2 <| tGetI 7 18 1 <| tIf (fun x => x = 0) (w_X10_canTimeOut_44 M G Rp) <| tAload 2 <| tGetI 7 18 4 <| tConst 2 <| tIf2 (fun x y => x = y) (w_X10_canTimeOut_44 M G Rp) <| tAload 2 <| tIload 1 <| tFn 2 F_X7_isMember <| tIf (fun x => x = 0) (w_X10_canTimeOut_44 M G Rp) <| tAload 2 <| tGetI 7 18 2 <| tConst 200 <| tIf2 (fun x y => y ≤ x) (w_X10_canTimeOut_44 M G Rp) <| tConst 1 <| tGoto (w_X10_canTimeOut_45 M G Rp)
set_option maxRecDepth 20000 in
theorem b_X10_canTimeOut_45 {Z : Zt} {d : Nat} {p : Program} {e : Env} {R : Room} {s : State} {m : MethodId} {args : Array Value} {below : List Frame} {meth : Method} {c : Code} {Rp : RT} (C : Cx Z (d + 1) jX10_canTimeOut RX10 p R s m args meth c) : Sd Z jX10_canTimeOut p e R s m args below meth c (MQ below (QcS Z Rp) args s 0 0 (fun a => Z.2.2.1 < a)) 45 (w_X10_canTimeOut_45 (MS Z (d + 1)) (Gw Z 3 p e R s m args below meth c (MQ below (QcS Z Rp) args s 0 0 (fun a => Z.2.2.1 < a))) Rp) := by
  unfold w_X10_canTimeOut_45
  exact s_zret C rfl (by decide +kernel)
set_option maxRecDepth 20000 in
theorem b_X10_canTimeOut_44 {Z : Zt} {d : Nat} {p : Program} {e : Env} {R : Room} {s : State} {m : MethodId} {args : Array Value} {below : List Frame} {meth : Method} {c : Code} {Rp : RT} (C : Cx Z (d + 1) jX10_canTimeOut RX10 p R s m args meth c) : Sd Z jX10_canTimeOut p e R s m args below meth c (MQ below (QcS Z Rp) args s 0 0 (fun a => Z.2.2.1 < a)) 44 (w_X10_canTimeOut_44 (MS Z (d + 1)) (Gw Z 3 p e R s m args below meth c (MQ below (QcS Z Rp) args s 0 0 (fun a => Z.2.2.1 < a))) Rp) := by
  unfold w_X10_canTimeOut_44
  refine s_iconst (n := 0) C (by decide +kernel) (by decide) ?_
  exact (b_X10_canTimeOut_45 C)
set_option maxRecDepth 20000 in
theorem b_X10_canTimeOut_0 {Z : Zt} {d : Nat} {p : Program} {e : Env} {R : Room} {s : State} {m : MethodId} {args : Array Value} {below : List Frame} {meth : Method} {c : Code} {Rp : RT} (C : Cx Z (d + 1) jX10_canTimeOut RX10 p R s m args meth c) : Sd Z jX10_canTimeOut p e R s m args below meth c (MQ below (QcS Z Rp) args s 0 0 (fun a => Z.2.2.1 < a)) 0 (w_X10_canTimeOut_0 (MS Z (d + 1)) (Gw Z 3 p e R s m args below meth c (MQ below (QcS Z Rp) args s 0 0 (fun a => Z.2.2.1 < a))) Rp) := by
  unfold w_X10_canTimeOut_0
  refine s_aload_n (k := 0) C (by decide +kernel) ?_
  refine s_getR C w_2_113 (by decide +kernel) rfl ?_
  refine s_iload_n (k := 1) C (by decide +kernel) ?_
  refine s_aald C rfl (by decide +kernel) ?_
  refine s_astore_n (k := 2) C (by decide +kernel) ?_
  refine s_aload_n (k := 2) C (by decide +kernel) ?_
  refine s_getI C w_1_224 (by decide +kernel) rfl ?_
  refine s_if_eq (off := 33) (tgt := 44) C (by decide +kernel) (by decide) (b_X10_canTimeOut_44 C) ?_
  refine s_aload_n (k := 2) C (by decide +kernel) ?_
  refine s_getI C w_1_234 (by decide +kernel) rfl ?_
  refine s_iconst (n := 2) C (by decide +kernel) (by decide) ?_
  refine s_icmp_eq (off := 25) (tgt := 44) C (by decide +kernel) (by decide) (b_X10_canTimeOut_44 C) ?_
  refine s_aload_n (k := 2) C (by decide +kernel) ?_
  refine s_iload_n (k := 1) C (by decide +kernel) ?_
  refine s_fnV C (j2 := jX7_isMember) (cl := 7) (nf := 18) rfl rfl (by decide +kernel) rfl w_3_109 w_3_110 w_3_111 w_1_5 w_3_112 (by decide +kernel) (fun _ _ _ _ _ h => f_X7_isMember h) (fun _ _ _ _ _ h => r_X7_isMember h) ?_
  refine s_if_eq (off := 17) (tgt := 44) C (by decide +kernel) (by decide) (b_X10_canTimeOut_44 C) ?_
  refine s_aload_n (k := 2) C (by decide +kernel) ?_
  refine s_getI C w_1_227 (by decide +kernel) rfl ?_
  refine s_sipush (n := 200) C (by decide +kernel) (by decide) ?_
  refine s_icmp_ge (off := 7) (tgt := 44) C (by decide +kernel) (by decide) (b_X10_canTimeOut_44 C) ?_
  refine s_iconst (n := 1) C (by decide +kernel) (by decide) ?_
  exact s_goto (off := 4) (tgt := 45) C (by decide +kernel) (by decide) (b_X10_canTimeOut_45 C)
theorem ms_X10_canTimeOut {Z : Zt} {d : Nat} {S : Sh} {μ : Mi} {ρ : Mr} {Rp : RT} (a0 : Nat) (x1 : Int32) (h : ∀ G : Nat → PT, w_X10_canTimeOut_0 (MS Z (d + 1)) G Rp [.ref a0, .int x1, .null] [] S (0, 0) μ ρ) : MS Z (d + 2) jX10_canTimeOut [.ref a0, .int x1] S μ ρ Rp :=
  MS_of [.ref a0, .int x1, .null] (by decide +kernel) rfl rfl (Nat.le_of_ble_eq_true rfl) rfl (fun p e R s m args below meth c C => b_X10_canTimeOut_0 C _ _ _ _ _ _ (h _ ))
def F_X10_canTimeOut : FT := fun As S μ ρ k => match As with
  | [.ref a, .int n] => S.2 a = (10, 6) ∧ ∃ (s : Nat) (A : Rw), RR A a S μ ρ ∧ n = nI s ∧ s < 5 ∧ rg (A (514 * s + 1)) 0 200 ∧ k (some (.int (b2 (canT A s)))) μ
  | _ => False
theorem r_X10_canTimeOut {As S μ ρ k} (h : F_X10_canTimeOut As S μ ρ k) : ∃ a As', As = Value.ref a :: As' ∧ S.2 a = (10, 6) := by
  unfold F_X10_canTimeOut at h
  split at h
  · exact ⟨_, _, rfl, h.1⟩
  · exact h.elim
set_option maxHeartbeats 1000000 in
theorem f_X10_canTimeOut {Z : Zt} {d : Nat} {As : List Value} {S : Sh} {μ : Mi} {ρ : Mr} {Rp : RT} (h : F_X10_canTimeOut As S μ ρ (fun r μ' => Rp r S μ' ρ)) : MS Z (d + 2) jX10_canTimeOut As S μ ρ Rp := by
  unfold F_X10_canTimeOut at h
  split at h
  · rename_i a n
    obtain ⟨a, hNa⟩ : ∃ n : Nat, n = a := ⟨a, rfl⟩
    subst hNa
    obtain ⟨h1, s, A, hR, rfl, hs, ht, h⟩ := h
    refine ms_X10_canTimeOut _ _ (fun G => ?_)
    have hW := RR_W hR
    obtain ⟨x1, x2, x3⟩ := W_st hW hs
    have hSt := RR_st hR hs
    have hA := hSt.1
    unfold StA at hA
    have u01 := hSt.2.1.1
    have c200 : (200 : Int32) ≤ A (514 * s + 1) ↔ A (514 * s + 1) = 200 := by
      obtain ⟨t, t1, t2, -, t3⟩ := rg_ex ht
      rw [t1, show (200 : Int32) = nI 200 from rfl, nI_leI (by decide) t2, nI_eq t2 (by decide)]
      omega
    unfold b2 at h
    simp only [w_X10_canTimeOut_0, w_X10_canTimeOut_44, w_X10_canTimeOut_45, tAload, tIload, nth, tGetI, tGetR, tConst, tLconst, tBin, tUn, tI2l, tAld, tAldR, tAlen, tIast, tBast, tZast, tAast, tIret, tZret, tVret, tAret, tIf, tIf2, tGoto, tIstore, tAstore, sset, tIinc, tDup, tDup2, tPop, tPutI, tPutZ, tPutR, tCallV, tCallS, popN, tFn, tCopy, tMax, tMin, tSw, swc, tRem, tObjI, Option.toList, List.nil_append, List.cons_append, okR, true_and, and_true, true_or, or_true, Nat.zero_le, ne_eq, not_false_eq_true, Nat.reduceEqDiff, F_X7_isMember, b2_z, h1, hW.2.2.2.2.1, hW.2.1, nI_clamp (show s < 2 ^ 31 by omega), x3, x1, hA, hSt.2.2.2.2.2.1, hSt.2.2.2.2.2.2, inb_nI hs (show (5 : Nat) < 2 ^ 31 by decide), c200]
    refine ⟨by omega, fun c => ?_, fun c => ⟨fun c2 => ?_, fun c2 => ⟨fun c3 => ?_, fun c3 => ⟨fun c4 => ?_, fun c4 => ?_⟩⟩⟩⟩
    · rw [if_neg (fun z => by rw [z.1] at c; exact absurd c (by decide))] at h; exact h
    · rw [if_neg (fun z => z.2.1 c2)] at h; exact h
    · rw [if_neg (fun z => c3 z.2.2.1)] at h; exact h
    · rw [if_neg (fun z => z.2.2.2 c4)] at h; exact h
    · rw [if_pos ⟨u01.elim (fun z => absurd z c) id, c2, Decidable.not_not.mp c3, c4⟩] at h; exact h
  · exact h.elim
def w_X10_timesOut_46 (M : CT) (G : Nat → PT) (Rp : RT) : PT := tIload 1 <| tFn 4 F_X10_finish <| tAload 2 <| tGetI 7 18 2 <| tIret Rp
def w_X10_timesOut_45 (M : CT) (G : Nat → PT) (Rp : RT) : PT := tConst 1 <| w_X10_timesOut_46 M G Rp
def w_X10_timesOut_21 (M : CT) (G : Nat → PT) (Rp : RT) : PT := tAload 0 <| tGetR 10 6 0 <| tIload 1 <| tAldR 37 <| tAstore 2 <| tAload 0 <| tAload 2 <| tAload 0 <| tGetI 10 6 5 <| tIf (fun x => x = 0) (w_X10_timesOut_45 M G Rp) <| tAload 0 <| tAload 2 <| tFn 2 F_X10_askFirst <| tGoto (w_X10_timesOut_46 M G Rp)
def w_X10_timesOut_10 (M : CT) (G : Nat → PT) (Rp : RT) : PT := tAload 0 <| tIload 1 <| tFn 2 F_X10_canTimeOut <| tIf (fun x => x ≠ 0) (w_X10_timesOut_21 M G Rp) <| tConst (-5) <| tIret Rp
def w_X10_timesOut_0 (M : CT) (G : Nat → PT) (Rp : RT) : PT := tIload 1 <| tFn 1 F_X11_isNoStore <| tIf (fun x => x = 0) (w_X10_timesOut_10 M G Rp) <| tConst (-2) <| tIret Rp
set_option maxRecDepth 20000 in
theorem b_X10_timesOut_46 {Z : Zt} {d : Nat} {p : Program} {e : Env} {R : Room} {s : State} {m : MethodId} {args : Array Value} {below : List Frame} {meth : Method} {c : Code} {Rp : RT} (C : Cx Z (d + 4) jX10_timesOut RX10 p R s m args meth c) : Sd Z jX10_timesOut p e R s m args below meth c (MQ below (QcS Z Rp) args s 0 0 (fun a => Z.2.2.1 < a)) 46 (w_X10_timesOut_46 (MS Z (d + 4)) (Gw Z 3 p e R s m args below meth c (MQ below (QcS Z Rp) args s 0 0 (fun a => Z.2.2.1 < a))) Rp) := by
  unfold w_X10_timesOut_46
  refine s_iload_n (k := 1) C (by decide +kernel) ?_
  refine s_fnV C (j2 := jX10_finish) (cl := 10) (nf := 6) rfl rfl (by decide +kernel) rfl w_3_138 w_3_140 w_p1_5 w_1_2 w_3_141 (by decide +kernel) (fun _ _ _ _ _ h => f_X10_finish h) (fun _ _ _ _ _ h => r_X10_finish h) ?_
  refine s_aload_n (k := 2) C (by decide +kernel) ?_
  refine s_getI C w_1_227 (by decide +kernel) rfl ?_
  exact s_iret C rfl (by decide +kernel)
set_option maxRecDepth 20000 in
theorem b_X10_timesOut_45 {Z : Zt} {d : Nat} {p : Program} {e : Env} {R : Room} {s : State} {m : MethodId} {args : Array Value} {below : List Frame} {meth : Method} {c : Code} {Rp : RT} (C : Cx Z (d + 4) jX10_timesOut RX10 p R s m args meth c) : Sd Z jX10_timesOut p e R s m args below meth c (MQ below (QcS Z Rp) args s 0 0 (fun a => Z.2.2.1 < a)) 45 (w_X10_timesOut_45 (MS Z (d + 4)) (Gw Z 3 p e R s m args below meth c (MQ below (QcS Z Rp) args s 0 0 (fun a => Z.2.2.1 < a))) Rp) := by
  unfold w_X10_timesOut_45
  refine s_iconst (n := 1) C (by decide +kernel) (by decide) ?_
  exact (b_X10_timesOut_46 C)
set_option maxRecDepth 20000 in
theorem b_X10_timesOut_21 {Z : Zt} {d : Nat} {p : Program} {e : Env} {R : Room} {s : State} {m : MethodId} {args : Array Value} {below : List Frame} {meth : Method} {c : Code} {Rp : RT} (C : Cx Z (d + 4) jX10_timesOut RX10 p R s m args meth c) : Sd Z jX10_timesOut p e R s m args below meth c (MQ below (QcS Z Rp) args s 0 0 (fun a => Z.2.2.1 < a)) 21 (w_X10_timesOut_21 (MS Z (d + 4)) (Gw Z 3 p e R s m args below meth c (MQ below (QcS Z Rp) args s 0 0 (fun a => Z.2.2.1 < a))) Rp) := by
  unfold w_X10_timesOut_21
  refine s_aload_n (k := 0) C (by decide +kernel) ?_
  refine s_getR C w_2_113 (by decide +kernel) rfl ?_
  refine s_iload_n (k := 1) C (by decide +kernel) ?_
  refine s_aald C rfl (by decide +kernel) ?_
  refine s_astore_n (k := 2) C (by decide +kernel) ?_
  refine s_aload_n (k := 0) C (by decide +kernel) ?_
  refine s_aload_n (k := 2) C (by decide +kernel) ?_
  refine s_aload_n (k := 0) C (by decide +kernel) ?_
  refine s_getI C w_2_128 (by decide +kernel) rfl ?_
  refine s_if_eq (off := 11) (tgt := 45) C (by decide +kernel) (by decide) (b_X10_timesOut_45 C) ?_
  refine s_aload_n (k := 0) C (by decide +kernel) ?_
  refine s_aload_n (k := 2) C (by decide +kernel) ?_
  refine s_fnV C (j2 := jX10_askFirst) (cl := 10) (nf := 6) rfl rfl (by decide +kernel) rfl w_3_113 w_3_115 w_p1_3 w_1_2 w_3_116 (by decide +kernel) (fun _ _ _ _ _ h => f_X10_askFirst h) (fun _ _ _ _ _ h => r_X10_askFirst h) ?_
  exact s_goto (off := 4) (tgt := 46) C (by decide +kernel) (by decide) (b_X10_timesOut_46 C)
set_option maxRecDepth 20000 in
theorem b_X10_timesOut_10 {Z : Zt} {d : Nat} {p : Program} {e : Env} {R : Room} {s : State} {m : MethodId} {args : Array Value} {below : List Frame} {meth : Method} {c : Code} {Rp : RT} (C : Cx Z (d + 4) jX10_timesOut RX10 p R s m args meth c) : Sd Z jX10_timesOut p e R s m args below meth c (MQ below (QcS Z Rp) args s 0 0 (fun a => Z.2.2.1 < a)) 10 (w_X10_timesOut_10 (MS Z (d + 4)) (Gw Z 3 p e R s m args below meth c (MQ below (QcS Z Rp) args s 0 0 (fun a => Z.2.2.1 < a))) Rp) := by
  unfold w_X10_timesOut_10
  refine s_aload_n (k := 0) C (by decide +kernel) ?_
  refine s_iload_n (k := 1) C (by decide +kernel) ?_
  refine s_fnV C (j2 := jX10_canTimeOut) (cl := 10) (nf := 6) rfl rfl (by decide +kernel) rfl w_3_105 w_3_106 w_3_107 w_1_2 w_3_108 (by decide +kernel) (fun _ _ _ _ _ h => f_X10_canTimeOut h) (fun _ _ _ _ _ h => r_X10_canTimeOut h) ?_
  refine s_if_ne (off := 6) (tgt := 21) C (by decide +kernel) (by decide) (b_X10_timesOut_21 C) ?_
  refine s_bipush (n := (-5)) C (by decide +kernel) (by decide) ?_
  exact s_iret C rfl (by decide +kernel)
set_option maxRecDepth 20000 in
theorem b_X10_timesOut_0 {Z : Zt} {d : Nat} {p : Program} {e : Env} {R : Room} {s : State} {m : MethodId} {args : Array Value} {below : List Frame} {meth : Method} {c : Code} {Rp : RT} (C : Cx Z (d + 4) jX10_timesOut RX10 p R s m args meth c) : Sd Z jX10_timesOut p e R s m args below meth c (MQ below (QcS Z Rp) args s 0 0 (fun a => Z.2.2.1 < a)) 0 (w_X10_timesOut_0 (MS Z (d + 4)) (Gw Z 3 p e R s m args below meth c (MQ below (QcS Z Rp) args s 0 0 (fun a => Z.2.2.1 < a))) Rp) := by
  unfold w_X10_timesOut_0
  refine s_iload_n (k := 1) C (by decide +kernel) ?_
  refine s_fnSN C (j2 := jX11_isNoStore) (by decide +kernel) rfl w_3_102 w_3_103 w_1_1 w_3_104 (by decide +kernel) (fun _ _ _ _ _ h => f_X11_isNoStore h) ?_
  refine s_if_eq (off := 6) (tgt := 10) C (by decide +kernel) (by decide) (b_X10_timesOut_10 C) ?_
  refine s_bipush (n := (-2)) C (by decide +kernel) (by decide) ?_
  exact s_iret C rfl (by decide +kernel)
theorem ms_X10_timesOut {Z : Zt} {d : Nat} {S : Sh} {μ : Mi} {ρ : Mr} {Rp : RT} (a0 : Nat) (x1 : Int32) (h : ∀ G : Nat → PT, w_X10_timesOut_0 (MS Z (d + 4)) G Rp [.ref a0, .int x1, .null] [] S (0, 0) μ ρ) : MS Z (d + 5) jX10_timesOut [.ref a0, .int x1] S μ ρ Rp :=
  MS_of [.ref a0, .int x1, .null] (by decide +kernel) rfl rfl (Nat.le_of_ble_eq_true rfl) rfl (fun p e R s m args below meth c C => b_X10_timesOut_0 C _ _ _ _ _ _ (h _ ))
def F_X10_timesOut : FT := fun As S μ ρ k => match As with
  | [.ref a, .int n] => S.2 a = (10, 6) ∧ ∃ (A : Rw), RR A a S μ ρ ∧ Gd A ∧ ∀ μ', RR (aTimeout A n).2 a S μ' ρ → Ot a μ μ' → k (some (.int (aTimeout A n).1)) μ'
  | _ => False
theorem r_X10_timesOut {As S μ ρ k} (h : F_X10_timesOut As S μ ρ k) : ∃ a As', As = Value.ref a :: As' ∧ S.2 a = (10, 6) := by
  unfold F_X10_timesOut at h
  split at h
  · exact ⟨_, _, rfl, h.1⟩
  · exact h.elim
set_option maxHeartbeats 1000000 in
theorem f_X10_timesOut {Z : Zt} {d : Nat} {As : List Value} {S : Sh} {μ : Mi} {ρ : Mr} {Rp : RT} (h : F_X10_timesOut As S μ ρ (fun r μ' => Rp r S μ' ρ)) : MS Z (d + 5) jX10_timesOut As S μ ρ Rp := by
  unfold F_X10_timesOut at h
  split at h
  · rename_i a n
    obtain ⟨a, hNa⟩ : ∃ n : Nat, n = a := ⟨a, rfl⟩
    subst hNa
    obtain ⟨h1, A, hR, hG, h⟩ := h
    refine ms_X10_timesOut _ _ (fun G => ?_)
    have hW := RR_W hR
    have hcm := good_cm (Gd_good hG)
    have hext := Gd_ext hG
    unfold aTimeout at h
    simp only [w_X10_timesOut_0, w_X10_timesOut_10, tAload, tIload, nth, tGetI, tGetR, tConst, tLconst, tBin, tUn, tI2l, tAld, tAldR, tAlen, tIast, tBast, tZast, tAast, tIret, tZret, tVret, tAret, tIf, tIf2, tGoto, tIstore, tAstore, sset, tIinc, tDup, tDup2, tPop, tPutI, tPutZ, tPutR, tCallV, tCallS, popN, tFn, tCopy, tMax, tMin, tSw, swc, tRem, tObjI, Option.toList, List.nil_append, List.cons_append, okR, true_and, and_true, true_or, or_true, Nat.zero_le, ne_eq, not_false_eq_true, Nat.reduceEqDiff, F_X11_isNoStore, F_X10_canTimeOut, b2_z, h1, Decidable.not_not]
    refine ⟨fun c => ?_, fun c => ?_⟩
    rotate_left
    · rw [if_pos c] at h
      exact h μ hR (fun _ _ => rfl)
    rw [if_neg (not_not_intro c)] at h
    obtain ⟨s, rfl, s0, -, s5⟩ := rg_ex (lo := 0) (hi := 4) c
    have hs : s < 5 := by omega
    rw [nI_clamp s0] at h
    obtain ⟨x1, x2, x3⟩ := W_st hW hs
    have hSt := RR_st hR hs
    have hA := hSt.1
    unfold StA at hA
    have hst := hcm.1 s hs
    have hag : agR A s := (hext.1 s hs).1
    have hi5 := inb_nI hs (show (5 : Nat) < 2 ^ 31 by decide)
    refine ⟨s, A, hR, rfl, hs, hst.2.2.1, fun c2 => ?_, fun c2 => ?_⟩
    rotate_left
    · rw [if_pos c2] at h
      exact h μ hR (fun _ _ => rfl)
    rw [if_neg (not_not_intro c2)] at h
    have hsu : suOK A s := ⟨hst.1, hst.2.1, hst.2.2.1.1, by
      have := c2.2.2.2
      obtain ⟨t, t1, t2, -, t3⟩ := rg_ex hst.2.2.1
      rw [t1, show (200 : Int32) = nI 200 from rfl, nI_eq t2 (by decide)] at this
      rw [t1, nI_toInt t2]
      omega⟩
    have e5 : μ a 5 = A 4515 := hR.1.2.2.2.2.2.1
    have fin : ∀ (C : Rw) (ν : Mi) (td : Int32), RR C a S ν ρ → Ot a μ ν → finQ C s s (nI s) td (qAsks A s) → w_X10_timesOut_46 (MS Z (d + 4)) G Rp [.ref a, .int (nI s), .ref (a + 130 + 8 * s)] [.int td, .ref (a + 130 + 8 * s), .ref a] S (0, 0) ν ρ := by
      intro C ν td r o hQ
      simp only [w_X10_timesOut_46, tAload, tIload, nth, tGetI, tGetR, tConst, tLconst, tBin, tUn, tI2l, tAld, tAldR, tAlen, tIast, tBast, tZast, tAast, tIret, tZret, tVret, tAret, tIf, tIf2, tGoto, tIstore, tAstore, sset, tIinc, tDup, tDup2, tPop, tPutI, tPutZ, tPutR, tCallV, tCallS, popN, tFn, tCopy, tMax, tMin, tSw, swc, tRem, tObjI, Option.toList, List.nil_append, List.cons_append, okR, true_and, and_true, true_or, or_true, Nat.zero_le, ne_eq, not_false_eq_true, Nat.reduceEqDiff, F_X10_finish, h1, x1]
      refine ⟨s, s, C, qAsks A s, hs, rfl, r, hQ, fun μ' r' o' => ?_⟩
      rw [(RR_st r' hs).1.2.2.1]
      exact h μ' r' (ot_trans o o')
    simp only [w_X10_timesOut_21, w_X10_timesOut_45, tAload, tIload, nth, tGetI, tGetR, tConst, tLconst, tBin, tUn, tI2l, tAld, tAldR, tAlen, tIast, tBast, tZast, tAast, tIret, tZret, tVret, tAret, tIf, tIf2, tGoto, tIstore, tAstore, sset, tIinc, tDup, tDup2, tPop, tPutI, tPutZ, tPutR, tCallV, tCallS, popN, tFn, tCopy, tMax, tMin, tSw, swc, tRem, tObjI, Option.toList, List.nil_append, List.cons_append, okR, true_and, and_true, true_or, or_true, Nat.zero_le, ne_eq, not_false_eq_true, Nat.reduceEqDiff, F_X10_askFirst, h1, hW.2.2.2.2.1, hW.2.1, nI_clamp s0, x3, x1, e5, hi5]
    refine ⟨by omega, fun c3 => fin A μ 1 hR (fun _ _ => rfl) (Or.inr (Or.inl ⟨rfl, ?_, hst.1, hag, hsu.2.2⟩)), fun c3 => ⟨s, A, hs, rfl, hR, fun c4 μ' r' o' => fin _ μ' 1 r' o' (Or.inr (Or.inl ⟨rfl, ?_, (ask1_ok hs hsu).1, agR_of hag ?_ ?_ ?_, (ask1_ok hs hsu).2.2⟩)), fun c4 μ' r' o' => fin _ μ' 0 r' o' (Or.inl ⟨rfl, ?_⟩)⟩⟩
    · unfold qAsks; rw [if_pos c3]
    · unfold qAsks; rw [if_neg c3, if_pos c4]
    · rw [qAsksAll_lo (by omega), qAsk1_out (by omega)]
    · rw [qAsksAll_lo (by omega), qAsk1_out (by omega)]
    · rw [qAsksAll_lo (by omega), qAsk1_out (by omega)]
    · unfold qAsks; rw [if_neg c3, if_neg c4]
  · exact h.elim
def w_X10_beats_21 (M : CT) (G : Nat → PT) (Rp : RT) : PT := tAload 0 <| tAload 0 <| tGetR 10 6 0 <| tIload 1 <| tAldR 37 <| tFn 2 F_X10_sendToAll <| tAload 0 <| tGetR 10 6 1 <| tGetI 1 6 2 <| tIret Rp
def w_X10_beats_10 (M : CT) (G : Nat → PT) (Rp : RT) : PT := tAload 0 <| tIload 1 <| tFn 2 F_X10_isNoLeader <| tIf (fun x => x = 0) (w_X10_beats_21 M G Rp) <| tConst (-5) <| tIret Rp
def w_X10_beats_0 (M : CT) (G : Nat → PT) (Rp : RT) : PT := tIload 1 <| tFn 1 F_X11_isNoStore <| tIf (fun x => x = 0) (w_X10_beats_10 M G Rp) <| tConst (-2) <| tIret Rp
set_option maxRecDepth 20000 in
theorem b_X10_beats_21 {Z : Zt} {d : Nat} {p : Program} {e : Env} {R : Room} {s : State} {m : MethodId} {args : Array Value} {below : List Frame} {meth : Method} {c : Code} {Rp : RT} (C : Cx Z (d + 3) jX10_beats RX10 p R s m args meth c) : Sd Z jX10_beats p e R s m args below meth c (MQ below (QcS Z Rp) args s 0 0 (fun a => Z.2.2.1 < a)) 21 (w_X10_beats_21 (MS Z (d + 3)) (Gw Z 2 p e R s m args below meth c (MQ below (QcS Z Rp) args s 0 0 (fun a => Z.2.2.1 < a))) Rp) := by
  unfold w_X10_beats_21
  refine s_aload_n (k := 0) C (by decide +kernel) ?_
  refine s_aload_n (k := 0) C (by decide +kernel) ?_
  refine s_getR C w_2_113 (by decide +kernel) rfl ?_
  refine s_iload_n (k := 1) C (by decide +kernel) ?_
  refine s_aald C rfl (by decide +kernel) ?_
  refine s_fnV C (j2 := jX10_sendToAll) (cl := 10) (nf := 6) rfl rfl (by decide +kernel) rfl w_3_158 w_3_159 w_3_160 w_1_2 w_3_161 (by decide +kernel) (fun _ _ _ _ _ h => f_X10_sendToAll h) (fun _ _ _ _ _ h => r_X10_sendToAll h) ?_
  refine s_aload_n (k := 0) C (by decide +kernel) ?_
  refine s_getR C w_2_117 (by decide +kernel) rfl ?_
  refine s_getI C w_1_126 (by decide +kernel) rfl ?_
  exact s_iret C rfl (by decide +kernel)
set_option maxRecDepth 20000 in
theorem b_X10_beats_10 {Z : Zt} {d : Nat} {p : Program} {e : Env} {R : Room} {s : State} {m : MethodId} {args : Array Value} {below : List Frame} {meth : Method} {c : Code} {Rp : RT} (C : Cx Z (d + 3) jX10_beats RX10 p R s m args meth c) : Sd Z jX10_beats p e R s m args below meth c (MQ below (QcS Z Rp) args s 0 0 (fun a => Z.2.2.1 < a)) 10 (w_X10_beats_10 (MS Z (d + 3)) (Gw Z 2 p e R s m args below meth c (MQ below (QcS Z Rp) args s 0 0 (fun a => Z.2.2.1 < a))) Rp) := by
  unfold w_X10_beats_10
  refine s_aload_n (k := 0) C (by decide +kernel) ?_
  refine s_iload_n (k := 1) C (by decide +kernel) ?_
  refine s_fnV C (j2 := jX10_isNoLeader) (cl := 10) (nf := 6) rfl rfl (by decide +kernel) rfl w_3_198 w_3_200 w_p1_11 w_1_2 w_3_201 (by decide +kernel) (fun _ _ _ _ _ h => f_X10_isNoLeader h) (fun _ _ _ _ _ h => r_X10_isNoLeader h) ?_
  refine s_if_eq (off := 6) (tgt := 21) C (by decide +kernel) (by decide) (b_X10_beats_21 C) ?_
  refine s_bipush (n := (-5)) C (by decide +kernel) (by decide) ?_
  exact s_iret C rfl (by decide +kernel)
set_option maxRecDepth 20000 in
theorem b_X10_beats_0 {Z : Zt} {d : Nat} {p : Program} {e : Env} {R : Room} {s : State} {m : MethodId} {args : Array Value} {below : List Frame} {meth : Method} {c : Code} {Rp : RT} (C : Cx Z (d + 3) jX10_beats RX10 p R s m args meth c) : Sd Z jX10_beats p e R s m args below meth c (MQ below (QcS Z Rp) args s 0 0 (fun a => Z.2.2.1 < a)) 0 (w_X10_beats_0 (MS Z (d + 3)) (Gw Z 2 p e R s m args below meth c (MQ below (QcS Z Rp) args s 0 0 (fun a => Z.2.2.1 < a))) Rp) := by
  unfold w_X10_beats_0
  refine s_iload_n (k := 1) C (by decide +kernel) ?_
  refine s_fnSN C (j2 := jX11_isNoStore) (by decide +kernel) rfl w_3_102 w_3_103 w_1_1 w_3_104 (by decide +kernel) (fun _ _ _ _ _ h => f_X11_isNoStore h) ?_
  refine s_if_eq (off := 6) (tgt := 10) C (by decide +kernel) (by decide) (b_X10_beats_10 C) ?_
  refine s_bipush (n := (-2)) C (by decide +kernel) (by decide) ?_
  exact s_iret C rfl (by decide +kernel)
theorem ms_X10_beats {Z : Zt} {d : Nat} {S : Sh} {μ : Mi} {ρ : Mr} {Rp : RT} (a0 : Nat) (x1 : Int32) (h : ∀ G : Nat → PT, w_X10_beats_0 (MS Z (d + 3)) G Rp [.ref a0, .int x1] [] S (0, 0) μ ρ) : MS Z (d + 4) jX10_beats [.ref a0, .int x1] S μ ρ Rp :=
  MS_of [.ref a0, .int x1] (by decide +kernel) rfl rfl (Nat.le_of_ble_eq_true rfl) rfl (fun p e R s m args below meth c C => b_X10_beats_0 C _ _ _ _ _ _ (h _ ))
def F_X10_beats : FT := fun As S μ ρ k => match As with
  | [.ref a, .int n] => S.2 a = (10, 6) ∧ ∃ (A : Rw), RR A a S μ ρ ∧ Gd A ∧ ∀ μ', RR (aBeat A n).2 a S μ' ρ → Ot a μ μ' → k (some (.int (aBeat A n).1)) μ'
  | _ => False
theorem r_X10_beats {As S μ ρ k} (h : F_X10_beats As S μ ρ k) : ∃ a As', As = Value.ref a :: As' ∧ S.2 a = (10, 6) := by
  unfold F_X10_beats at h
  split at h
  · exact ⟨_, _, rfl, h.1⟩
  · exact h.elim
set_option maxHeartbeats 1000000 in
theorem f_X10_beats {Z : Zt} {d : Nat} {As : List Value} {S : Sh} {μ : Mi} {ρ : Mr} {Rp : RT} (h : F_X10_beats As S μ ρ (fun r μ' => Rp r S μ' ρ)) : MS Z (d + 4) jX10_beats As S μ ρ Rp := by
  unfold F_X10_beats at h
  split at h
  · rename_i a n
    obtain ⟨a, hNa⟩ : ∃ n : Nat, n = a := ⟨a, rfl⟩
    subst hNa
    obtain ⟨h1, A, hR, hG, h⟩ := h
    refine ms_X10_beats _ _ (fun G => ?_)
    have hW := RR_W hR
    have hcm := good_cm (Gd_good hG)
    have hext := Gd_ext hG
    unfold aBeat at h
    simp only [w_X10_beats_0, w_X10_beats_10, tAload, tIload, nth, tGetI, tGetR, tConst, tLconst, tBin, tUn, tI2l, tAld, tAldR, tAlen, tIast, tBast, tZast, tAast, tIret, tZret, tVret, tAret, tIf, tIf2, tGoto, tIstore, tAstore, sset, tIinc, tDup, tDup2, tPop, tPutI, tPutZ, tPutR, tCallV, tCallS, popN, tFn, tCopy, tMax, tMin, tSw, swc, tRem, tObjI, Option.toList, List.nil_append, List.cons_append, okR, true_and, and_true, true_or, or_true, Nat.zero_le, ne_eq, not_false_eq_true, Nat.reduceEqDiff, F_X11_isNoStore, F_X10_isNoLeader, b2_z, h1, Decidable.not_not]
    refine ⟨fun c => ?_, fun c => ?_⟩
    rotate_left
    · rw [if_pos c] at h
      exact h μ hR (fun _ _ => rfl)
    rw [if_neg (not_not_intro c)] at h
    obtain ⟨s, rfl, s0, -, s5⟩ := rg_ex (lo := 0) (hi := 4) c
    have hs : s < 5 := by omega
    rw [nI_clamp s0] at h
    obtain ⟨x1, x2, x3⟩ := W_st hW hs
    have hSt := RR_st hR hs
    have hA := hSt.1
    unfold StA at hA
    have hst := hcm.1 s hs
    have hag : agR A s := (hext.1 s hs).1
    have hi5 := inb_nI hs (show (5 : Nat) < 2 ^ 31 by decide)
    refine ⟨s, A, hR, rfl, hs, fun c2 => ?_, fun c2 => ?_⟩
    rotate_left
    · rw [if_pos c2] at h
      exact h μ hR (fun _ _ => rfl)
    rw [if_neg (not_not_intro c2)] at h
    simp only [w_X10_beats_21, tAload, tIload, nth, tGetI, tGetR, tConst, tLconst, tBin, tUn, tI2l, tAld, tAldR, tAlen, tIast, tBast, tZast, tAast, tIret, tZret, tVret, tAret, tIf, tIf2, tGoto, tIstore, tAstore, sset, tIinc, tDup, tDup2, tPop, tPutI, tPutZ, tPutR, tCallV, tCallS, popN, tFn, tCopy, tMax, tMin, tSw, swc, tRem, tObjI, Option.toList, List.nil_append, List.cons_append, okR, true_and, and_true, true_or, or_true, Nat.zero_le, ne_eq, not_false_eq_true, Nat.reduceEqDiff, F_X10_sendToAll, h1, hW.2.2.2.2.1, hW.2.1, nI_clamp s0, x3, hi5]
    refine ⟨by omega, s, A, hs, rfl, hR, c2, hst.1.1.2.2.2, fun μ' r' o' => ?_⟩
    rw [r'.1.2.2.1.1.1]
    exact h μ' r' (Fm_Ot o')
  · exact h.elim
def w_X10_stops_27 (M : CT) (G : Nat → PT) (Rp : RT) : PT := tAload 2 <| tGetI 7 18 4 <| tIstore 3 <| tAload 2 <| tFn 1 F_X7_goesDown <| tIload 3 <| tIret Rp
def w_X10_stops_10 (M : CT) (G : Nat → PT) (Rp : RT) : PT := tAload 0 <| tGetR 10 6 0 <| tIload 1 <| tAldR 37 <| tAstore 2 <| tAload 2 <| tGetI 7 18 1 <| tIf (fun x => x ≠ 0) (w_X10_stops_27 M G Rp) <| tConst (-5) <| tIret Rp
def w_X10_stops_0 (M : CT) (G : Nat → PT) (Rp : RT) : PT := tIload 1 <| tFn 1 F_X11_isNoStore <| tIf (fun x => x = 0) (w_X10_stops_10 M G Rp) <| tConst (-2) <| tIret Rp
set_option maxRecDepth 20000 in
theorem b_X10_stops_27 {Z : Zt} {d : Nat} {p : Program} {e : Env} {R : Room} {s : State} {m : MethodId} {args : Array Value} {below : List Frame} {meth : Method} {c : Code} {Rp : RT} (C : Cx Z (d + 3) jX10_stops RX10 p R s m args meth c) : Sd Z jX10_stops p e R s m args below meth c (MQ below (QcS Z Rp) args s 0 0 (fun a => Z.2.2.1 < a)) 27 (w_X10_stops_27 (MS Z (d + 3)) (Gw Z 4 p e R s m args below meth c (MQ below (QcS Z Rp) args s 0 0 (fun a => Z.2.2.1 < a))) Rp) := by
  unfold w_X10_stops_27
  refine s_aload_n (k := 2) C (by decide +kernel) ?_
  refine s_getI C w_1_234 (by decide +kernel) rfl ?_
  refine s_istore_n (k := 3) C (by decide +kernel) ?_
  refine s_aload_n (k := 2) C (by decide +kernel) ?_
  refine s_fnV C (j2 := jX7_goesDown) (cl := 7) (nf := 18) rfl rfl (by decide +kernel) rfl w_4_26 w_4_27 w_4_28 w_1_5 w_4_29 (by decide +kernel) (fun _ _ _ _ _ h => f_X7_goesDown h) (fun _ _ _ _ _ h => r_X7_goesDown h) ?_
  refine s_iload_n (k := 3) C (by decide +kernel) ?_
  exact s_iret C rfl (by decide +kernel)
set_option maxRecDepth 20000 in
theorem b_X10_stops_10 {Z : Zt} {d : Nat} {p : Program} {e : Env} {R : Room} {s : State} {m : MethodId} {args : Array Value} {below : List Frame} {meth : Method} {c : Code} {Rp : RT} (C : Cx Z (d + 3) jX10_stops RX10 p R s m args meth c) : Sd Z jX10_stops p e R s m args below meth c (MQ below (QcS Z Rp) args s 0 0 (fun a => Z.2.2.1 < a)) 10 (w_X10_stops_10 (MS Z (d + 3)) (Gw Z 4 p e R s m args below meth c (MQ below (QcS Z Rp) args s 0 0 (fun a => Z.2.2.1 < a))) Rp) := by
  unfold w_X10_stops_10
  refine s_aload_n (k := 0) C (by decide +kernel) ?_
  refine s_getR C w_2_113 (by decide +kernel) rfl ?_
  refine s_iload_n (k := 1) C (by decide +kernel) ?_
  refine s_aald C rfl (by decide +kernel) ?_
  refine s_astore_n (k := 2) C (by decide +kernel) ?_
  refine s_aload_n (k := 2) C (by decide +kernel) ?_
  refine s_getI C w_1_224 (by decide +kernel) rfl ?_
  refine s_if_ne (off := 6) (tgt := 27) C (by decide +kernel) (by decide) (b_X10_stops_27 C) ?_
  refine s_bipush (n := (-5)) C (by decide +kernel) (by decide) ?_
  exact s_iret C rfl (by decide +kernel)
set_option maxRecDepth 20000 in
theorem b_X10_stops_0 {Z : Zt} {d : Nat} {p : Program} {e : Env} {R : Room} {s : State} {m : MethodId} {args : Array Value} {below : List Frame} {meth : Method} {c : Code} {Rp : RT} (C : Cx Z (d + 3) jX10_stops RX10 p R s m args meth c) : Sd Z jX10_stops p e R s m args below meth c (MQ below (QcS Z Rp) args s 0 0 (fun a => Z.2.2.1 < a)) 0 (w_X10_stops_0 (MS Z (d + 3)) (Gw Z 4 p e R s m args below meth c (MQ below (QcS Z Rp) args s 0 0 (fun a => Z.2.2.1 < a))) Rp) := by
  unfold w_X10_stops_0
  refine s_iload_n (k := 1) C (by decide +kernel) ?_
  refine s_fnSN C (j2 := jX11_isNoStore) (by decide +kernel) rfl w_3_102 w_3_103 w_1_1 w_3_104 (by decide +kernel) (fun _ _ _ _ _ h => f_X11_isNoStore h) ?_
  refine s_if_eq (off := 6) (tgt := 10) C (by decide +kernel) (by decide) (b_X10_stops_10 C) ?_
  refine s_bipush (n := (-2)) C (by decide +kernel) (by decide) ?_
  exact s_iret C rfl (by decide +kernel)
theorem ms_X10_stops {Z : Zt} {d : Nat} {S : Sh} {μ : Mi} {ρ : Mr} {Rp : RT} (a0 : Nat) (x1 : Int32) (h : ∀ G : Nat → PT, w_X10_stops_0 (MS Z (d + 3)) G Rp [.ref a0, .int x1, .null, .null] [] S (0, 0) μ ρ) : MS Z (d + 4) jX10_stops [.ref a0, .int x1] S μ ρ Rp :=
  MS_of [.ref a0, .int x1, .null, .null] (by decide +kernel) rfl rfl (Nat.le_of_ble_eq_true rfl) rfl (fun p e R s m args below meth c C => b_X10_stops_0 C _ _ _ _ _ _ (h _ ))
def F_X10_stops : FT := fun As S μ ρ k => match As with
  | [.ref a, .int n] => S.2 a = (10, 6) ∧ ∃ (A : Rw), RR A a S μ ρ ∧ Gd A ∧ ∀ μ', RR (aStop A n).2 a S μ' ρ → Ot a μ μ' → k (some (.int (aStop A n).1)) μ'
  | _ => False
theorem r_X10_stops {As S μ ρ k} (h : F_X10_stops As S μ ρ k) : ∃ a As', As = Value.ref a :: As' ∧ S.2 a = (10, 6) := by
  unfold F_X10_stops at h
  split at h
  · exact ⟨_, _, rfl, h.1⟩
  · exact h.elim
set_option maxHeartbeats 1000000 in
theorem f_X10_stops {Z : Zt} {d : Nat} {As : List Value} {S : Sh} {μ : Mi} {ρ : Mr} {Rp : RT} (h : F_X10_stops As S μ ρ (fun r μ' => Rp r S μ' ρ)) : MS Z (d + 4) jX10_stops As S μ ρ Rp := by
  unfold F_X10_stops at h
  split at h
  · rename_i a n
    obtain ⟨a, hNa⟩ : ∃ n : Nat, n = a := ⟨a, rfl⟩
    subst hNa
    obtain ⟨h1, A, hR, hG, h⟩ := h
    refine ms_X10_stops _ _ (fun G => ?_)
    have hW := RR_W hR
    have hcm := good_cm (Gd_good hG)
    have hext := Gd_ext hG
    unfold aStop at h
    simp only [w_X10_stops_0, tAload, tIload, nth, tGetI, tGetR, tConst, tLconst, tBin, tUn, tI2l, tAld, tAldR, tAlen, tIast, tBast, tZast, tAast, tIret, tZret, tVret, tAret, tIf, tIf2, tGoto, tIstore, tAstore, sset, tIinc, tDup, tDup2, tPop, tPutI, tPutZ, tPutR, tCallV, tCallS, popN, tFn, tCopy, tMax, tMin, tSw, swc, tRem, tObjI, Option.toList, List.nil_append, List.cons_append, okR, true_and, and_true, true_or, or_true, Nat.zero_le, ne_eq, not_false_eq_true, Nat.reduceEqDiff, F_X11_isNoStore, b2_z, h1, Decidable.not_not]
    refine ⟨fun c => ?_, fun c => ?_⟩
    rotate_left
    · rw [if_pos c] at h
      exact h μ hR (fun _ _ => rfl)
    rw [if_neg (not_not_intro c)] at h
    obtain ⟨s, rfl, s0, -, s5⟩ := rg_ex (lo := 0) (hi := 4) c
    have hs : s < 5 := by omega
    rw [nI_clamp s0] at h
    obtain ⟨x1, x2, x3⟩ := W_st hW hs
    have hSt := RR_st hR hs
    have hA := hSt.1
    unfold StA at hA
    have hst := hcm.1 s hs
    have hag : agR A s := (hext.1 s hs).1
    have hi5 := inb_nI hs (show (5 : Nat) < 2 ^ 31 by decide)
    simp only [w_X10_stops_10, w_X10_stops_27, tAload, tIload, nth, tGetI, tGetR, tConst, tLconst, tBin, tUn, tI2l, tAld, tAldR, tAlen, tIast, tBast, tZast, tAast, tIret, tZret, tVret, tAret, tIf, tIf2, tGoto, tIstore, tAstore, sset, tIinc, tDup, tDup2, tPop, tPutI, tPutZ, tPutR, tCallV, tCallS, popN, tFn, tCopy, tMax, tMin, tSw, swc, tRem, tObjI, Option.toList, List.nil_append, List.cons_append, okR, true_and, and_true, true_or, or_true, Nat.zero_le, ne_eq, not_false_eq_true, Nat.reduceEqDiff, F_X7_goesDown, h1, hW.2.2.2.2.1, hW.2.1, nI_clamp s0, x3, x1, x2, hA, hi5]
    refine ⟨by omega, fun c2 => ?_, fun c2 => ?_⟩
    · rw [if_neg (not_not_intro (hSt.2.1.1.elim (fun z => absurd z c2) id))] at h
      have o1 : ∀ i, (i < 514 * s ∨ 514 * s + 514 ≤ i) → qStop A s i = A i := by
        intro i hi
        unfold qStop qStop0
        simp only []
        rw [cpF_out (by omega), up_ne (by omega), qRN_out (by omega), qPlays_out (by omega), up_ne (by omega)]
      refine h _ ⟨R0_store hs hR.1 o1 (fun y hy => cDown_ne (by omega) (by omega) (by omega)) (St_stop hs hSt), Nx_other hs hR.2 ?_ o1 (fun y hy => cDown_ne (by omega) (by omega) (by omega))⟩ (fun y hy => cDown_ne (by omega) (by omega) (by omega))
      unfold qStop qStop0
      simp only []
      rw [cpF_out (by omega), up_ne (by omega), qRN_out (by omega), qPlays_3]
      decide
    · have c3 := Classical.not_not.mp c2
      rw [if_pos (fun z => by rw [z] at c3; exact absurd c3 (by decide))] at h
      exact h μ hR (fun _ _ => rfl)
  · exact h.elim
def w_X10_starts_27 (M : CT) (G : Nat → PT) (Rp : RT) : PT := tAload 2 <| tConst 1 <| tPutZ 7 18 1 <| tAload 2 <| tGetI 7 18 7 <| tIret Rp
def w_X10_starts_10 (M : CT) (G : Nat → PT) (Rp : RT) : PT := tAload 0 <| tGetR 10 6 0 <| tIload 1 <| tAldR 37 <| tAstore 2 <| tAload 2 <| tGetI 7 18 1 <| tIf (fun x => x = 0) (w_X10_starts_27 M G Rp) <| tConst (-5) <| tIret Rp
def w_X10_starts_0 (M : CT) (G : Nat → PT) (Rp : RT) : PT := tIload 1 <| tFn 1 F_X11_isNoStore <| tIf (fun x => x = 0) (w_X10_starts_10 M G Rp) <| tConst (-2) <| tIret Rp
set_option maxRecDepth 20000 in
theorem b_X10_starts_27 {Z : Zt} {d : Nat} {p : Program} {e : Env} {R : Room} {s : State} {m : MethodId} {args : Array Value} {below : List Frame} {meth : Method} {c : Code} {Rp : RT} (C : Cx Z (d + 1) jX10_starts RX10 p R s m args meth c) : Sd Z jX10_starts p e R s m args below meth c (MQ below (QcS Z Rp) args s 0 0 (fun a => Z.2.2.1 < a)) 27 (w_X10_starts_27 (MS Z (d + 1)) (Gw Z 3 p e R s m args below meth c (MQ below (QcS Z Rp) args s 0 0 (fun a => Z.2.2.1 < a))) Rp) := by
  unfold w_X10_starts_27
  refine s_aload_n (k := 2) C (by decide +kernel) ?_
  refine s_iconst (n := 1) C (by decide +kernel) (by decide) ?_
  refine s_putZ C w_1_224 (by decide +kernel) rfl (Or.inl rfl) ?_
  refine s_aload_n (k := 2) C (by decide +kernel) ?_
  refine s_getI C w_2_5 (by decide +kernel) rfl ?_
  exact s_iret C rfl (by decide +kernel)
set_option maxRecDepth 20000 in
theorem b_X10_starts_10 {Z : Zt} {d : Nat} {p : Program} {e : Env} {R : Room} {s : State} {m : MethodId} {args : Array Value} {below : List Frame} {meth : Method} {c : Code} {Rp : RT} (C : Cx Z (d + 1) jX10_starts RX10 p R s m args meth c) : Sd Z jX10_starts p e R s m args below meth c (MQ below (QcS Z Rp) args s 0 0 (fun a => Z.2.2.1 < a)) 10 (w_X10_starts_10 (MS Z (d + 1)) (Gw Z 3 p e R s m args below meth c (MQ below (QcS Z Rp) args s 0 0 (fun a => Z.2.2.1 < a))) Rp) := by
  unfold w_X10_starts_10
  refine s_aload_n (k := 0) C (by decide +kernel) ?_
  refine s_getR C w_2_113 (by decide +kernel) rfl ?_
  refine s_iload_n (k := 1) C (by decide +kernel) ?_
  refine s_aald C rfl (by decide +kernel) ?_
  refine s_astore_n (k := 2) C (by decide +kernel) ?_
  refine s_aload_n (k := 2) C (by decide +kernel) ?_
  refine s_getI C w_1_224 (by decide +kernel) rfl ?_
  refine s_if_eq (off := 6) (tgt := 27) C (by decide +kernel) (by decide) (b_X10_starts_27 C) ?_
  refine s_bipush (n := (-5)) C (by decide +kernel) (by decide) ?_
  exact s_iret C rfl (by decide +kernel)
set_option maxRecDepth 20000 in
theorem b_X10_starts_0 {Z : Zt} {d : Nat} {p : Program} {e : Env} {R : Room} {s : State} {m : MethodId} {args : Array Value} {below : List Frame} {meth : Method} {c : Code} {Rp : RT} (C : Cx Z (d + 1) jX10_starts RX10 p R s m args meth c) : Sd Z jX10_starts p e R s m args below meth c (MQ below (QcS Z Rp) args s 0 0 (fun a => Z.2.2.1 < a)) 0 (w_X10_starts_0 (MS Z (d + 1)) (Gw Z 3 p e R s m args below meth c (MQ below (QcS Z Rp) args s 0 0 (fun a => Z.2.2.1 < a))) Rp) := by
  unfold w_X10_starts_0
  refine s_iload_n (k := 1) C (by decide +kernel) ?_
  refine s_fnSN C (j2 := jX11_isNoStore) (by decide +kernel) rfl w_3_102 w_3_103 w_1_1 w_3_104 (by decide +kernel) (fun _ _ _ _ _ h => f_X11_isNoStore h) ?_
  refine s_if_eq (off := 6) (tgt := 10) C (by decide +kernel) (by decide) (b_X10_starts_10 C) ?_
  refine s_bipush (n := (-2)) C (by decide +kernel) (by decide) ?_
  exact s_iret C rfl (by decide +kernel)
theorem ms_X10_starts {Z : Zt} {d : Nat} {S : Sh} {μ : Mi} {ρ : Mr} {Rp : RT} (a0 : Nat) (x1 : Int32) (h : ∀ G : Nat → PT, w_X10_starts_0 (MS Z (d + 1)) G Rp [.ref a0, .int x1, .null] [] S (0, 0) μ ρ) : MS Z (d + 2) jX10_starts [.ref a0, .int x1] S μ ρ Rp :=
  MS_of [.ref a0, .int x1, .null] (by decide +kernel) rfl rfl (Nat.le_of_ble_eq_true rfl) rfl (fun p e R s m args below meth c C => b_X10_starts_0 C _ _ _ _ _ _ (h _ ))
def F_X10_starts : FT := fun As S μ ρ k => match As with
  | [.ref a, .int n] => S.2 a = (10, 6) ∧ ∃ (A : Rw), RR A a S μ ρ ∧ Gd A ∧ ∀ μ', RR (aStart A n).2 a S μ' ρ → Ot a μ μ' → k (some (.int (aStart A n).1)) μ'
  | _ => False
theorem r_X10_starts {As S μ ρ k} (h : F_X10_starts As S μ ρ k) : ∃ a As', As = Value.ref a :: As' ∧ S.2 a = (10, 6) := by
  unfold F_X10_starts at h
  split at h
  · exact ⟨_, _, rfl, h.1⟩
  · exact h.elim
set_option maxHeartbeats 1000000 in
theorem f_X10_starts {Z : Zt} {d : Nat} {As : List Value} {S : Sh} {μ : Mi} {ρ : Mr} {Rp : RT} (h : F_X10_starts As S μ ρ (fun r μ' => Rp r S μ' ρ)) : MS Z (d + 2) jX10_starts As S μ ρ Rp := by
  unfold F_X10_starts at h
  split at h
  · rename_i a n
    obtain ⟨a, hNa⟩ : ∃ n : Nat, n = a := ⟨a, rfl⟩
    subst hNa
    obtain ⟨h1, A, hR, hG, h⟩ := h
    refine ms_X10_starts _ _ (fun G => ?_)
    have hW := RR_W hR
    have hcm := good_cm (Gd_good hG)
    have hext := Gd_ext hG
    unfold aStart at h
    simp only [w_X10_starts_0, tAload, tIload, nth, tGetI, tGetR, tConst, tLconst, tBin, tUn, tI2l, tAld, tAldR, tAlen, tIast, tBast, tZast, tAast, tIret, tZret, tVret, tAret, tIf, tIf2, tGoto, tIstore, tAstore, sset, tIinc, tDup, tDup2, tPop, tPutI, tPutZ, tPutR, tCallV, tCallS, popN, tFn, tCopy, tMax, tMin, tSw, swc, tRem, tObjI, Option.toList, List.nil_append, List.cons_append, okR, true_and, and_true, true_or, or_true, Nat.zero_le, ne_eq, not_false_eq_true, Nat.reduceEqDiff, F_X11_isNoStore, b2_z, h1, Decidable.not_not]
    refine ⟨fun c => ?_, fun c => ?_⟩
    rotate_left
    · rw [if_pos c] at h
      exact h μ hR (fun _ _ => rfl)
    rw [if_neg (not_not_intro c)] at h
    obtain ⟨s, rfl, s0, -, s5⟩ := rg_ex (lo := 0) (hi := 4) c
    have hs : s < 5 := by omega
    rw [nI_clamp s0] at h
    obtain ⟨x1, x2, x3⟩ := W_st hW hs
    have hSt := RR_st hR hs
    have hA := hSt.1
    unfold StA at hA
    have hst := hcm.1 s hs
    have hag : agR A s := (hext.1 s hs).1
    have hi5 := inb_nI hs (show (5 : Nat) < 2 ^ 31 by decide)
    simp only [w_X10_starts_10, w_X10_starts_27, tAload, tIload, nth, tGetI, tGetR, tConst, tLconst, tBin, tUn, tI2l, tAld, tAldR, tAlen, tIast, tBast, tZast, tAast, tIret, tZret, tVret, tAret, tIf, tIf2, tGoto, tIstore, tAstore, sset, tIinc, tDup, tDup2, tPop, tPutI, tPutZ, tPutR, tCallV, tCallS, popN, tFn, tCopy, tMax, tMin, tSw, swc, tRem, tObjI, Option.toList, List.nil_append, List.cons_append, okR, true_and, and_true, true_or, or_true, Nat.zero_le, ne_eq, not_false_eq_true, Nat.reduceEqDiff, h1, hW.2.2.2.2.1, hW.2.1, nI_clamp s0, x3, x1, hA, hi5]
    refine ⟨by omega, fun c2 => ?_, fun c2 => ?_⟩
    · rw [if_neg (fun z => by rw [z] at c2; exact absurd c2 (by decide))] at h
      rw [upI_k (by omega), hA.2.2.2.2.2.2.2.1]
      exact h _ ⟨R0_store hs hR.1 (fun i hi => up_ne (by omega)) (fun y hy => upI_ne (by omega)) (St_up hs hSt (Or.inr rfl)), Nx_keep hR.2 (fun r i hr hi => up_ne (by omega)) (fun r hr => ⟨upI_ne (by omega), upI_ne (by omega)⟩)⟩ (fun y hy => upI_ne (by omega))
    · rw [if_pos (hSt.2.1.1.elim (fun z => absurd z c2) id)] at h
      exact h μ hR (fun _ _ => rfl)
  · exact h.elim
