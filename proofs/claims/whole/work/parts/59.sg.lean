/-! ===== the reference: words ===== -/
def wrL : List Nat := [116, 105, 109, 101, 111, 117, 116, 0, 98, 101, 97, 116, 0, 115, 101, 116, 0, 97, 100, 100, 0, 114, 101, 97, 100, 0, 104, 97, 110, 100, 0, 99, 104, 97, 110, 103, 101, 0, 99, 111, 109, 112, 97, 99, 116, 0, 115, 116, 111, 112, 0, 115, 116, 97, 114, 116, 0, 99, 117, 116, 0, 106, 111, 105, 110, 0, 99, 111, 109, 101, 0, 108, 111, 115, 101, 0, 116, 119, 105, 99, 101, 0, 115, 101, 116, 116, 108, 101, 0, 99, 97, 114, 101, 102, 117, 108, 0, 116, 105, 109, 101, 115, 0]
def frL : List Nat := [0, 8, 13, 17, 21, 26, 31, 38, 46, 51, 57, 61, 66, 71, 76, 82, 89, 97]
def lnL : List Nat := [7, 4, 3, 3, 4, 4, 6, 7, 4, 5, 3, 4, 4, 4, 5, 6, 7, 5]
def wr (i : Nat) : Int32 := nI (wrL.getD i 0)
def frW (j : Nat) : Nat := frL.getD j 0
def lnW (j : Nat) : Nat := lnL.getD j 0
/-- the words lie in the row -/
def wdOK (W : Rw) : Prop := ∀ i, i < 103 → W i = wr i
theorem wr_nz : ∀ j, j < 18 → ∀ i, i < lnW j → ¬ wr (frW j + i) = 0 := by decide
theorem wr_z : ∀ j, j < 18 → wr (frW j + lnW j) = 0 := by decide
theorem fr_b : ∀ j, j < 18 → frW j + lnW j < 103 ∧ lnW j ≤ 7 := by decide
theorem fr_s : ∀ j, j < 17 → frW (j + 1) = frW j + lnW j + 1 := by decide
def eqB (T : Rw) (f b : Nat) : Nat → Nat → Prop := fun m i => match m with
  | 0 => True
  | m + 1 => wr (f + i) = T (b + i) ∧ eqB T f b m (i + 1)
def isW (T : Rw) (b p j : Nat) : Prop := lnW j = p - b ∧ eqB T (frW j) b (lnW j) 0
/-- whether the bytes are the word's: as 0 or 1, from an answer so far -/
def eqI (T : Rw) (f b : Nat) : Nat → Nat → Int32 → Int32 := fun m i r => match m with
  | 0 => r
  | m + 1 => if r = 0 then 0 else eqI T f b m (i + 1) (if ¬ wr (f + i) = T (b + i) then 0 else 1)
theorem eqI_s {T : Rw} {f b m i : Nat} {r : Int32} : eqI T f b (m + 1) i r = if r = 0 then 0 else eqI T f b m (i + 1) (if ¬ wr (f + i) = T (b + i) then 0 else 1) := rfl
def mtW (T : Rw) (b p j : Nat) : Int32 := eqI T (frW j) b (lnW j) 0 (if ¬ lnW j = p - b then 0 else 1)
def wfF (T : Rw) (b p : Nat) : Nat → Nat → Int32 := fun m j => match m with
  | 0 => -1
  | m + 1 => if mtW T b p j = 0 then wfF T b p m (j + 1) else nI j
theorem wfF_s {T : Rw} {b p m j : Nat} : wfF T b p (m + 1) j = if mtW T b p j = 0 then wfF T b p m (j + 1) else nI j := rfl
def qWordFrom (T : Rw) (b p : Nat) : Int32 := wfF T b p 18 0
def w_X12_wordFrom_116 (M : CT) (G : Nat → PT) (Rp : RT) : PT := tConst (-1) <| tIret Rp
def w_X12_wordFrom_107 (M : CT) (G : Nat → PT) (Rp : RT) : PT := tIinc 2 1 <| tIinc 3 1 <| tGoto (G 4)
def w_X12_wordFrom_100 (M : CT) (G : Nat → PT) (Rp : RT) : PT := tIload 5 <| tIf (fun x => x = 0) (w_X12_wordFrom_107 M G Rp) <| tIload 3 <| tIret Rp
def w_X12_wordFrom_92 (M : CT) (G : Nat → PT) (Rp : RT) : PT := tIstore 5 <| tIinc 6 1 <| tGoto (G 51)
def w_X12_wordFrom_91 (M : CT) (G : Nat → PT) (Rp : RT) : PT := tConst 0 <| w_X12_wordFrom_92 M G Rp
def w_X12_wordFrom_51 (M : CT) (G : Nat → PT) (Rp : RT) : PT := tIload 6 <| tIload 2 <| tIload 4 <| tBin (fun x y => x - y) <| tIf2 (fun x y => y ≤ x) (w_X12_wordFrom_100 M G Rp) <| tIload 5 <| tIf (fun x => x = 0) (w_X12_wordFrom_100 M G Rp) <| tAload 0 <| tGetR 12 27 22 <| tIload 4 <| tIload 6 <| tBin (fun x y => x + y) <| tAld 21 <| tAload 0 <| tGetR 12 27 13 <| tIload 1 <| tIload 6 <| tBin (fun x y => x + y) <| tAld 21 <| tIf2 (fun x y => x ≠ y) (w_X12_wordFrom_91 M G Rp) <| tConst 1 <| tGoto (w_X12_wordFrom_92 M G Rp)
def w_X12_wordFrom_46 (M : CT) (G : Nat → PT) (Rp : RT) : PT := tIstore 5 <| tConst 0 <| tIstore 6 <| G 51
def w_X12_wordFrom_45 (M : CT) (G : Nat → PT) (Rp : RT) : PT := tConst 0 <| w_X12_wordFrom_46 M G Rp
def w_X12_wordFrom_28 (M : CT) (G : Nat → PT) (Rp : RT) : PT := tIload 2 <| tIload 4 <| tBin (fun x y => x - y) <| tAload 0 <| tGetI 12 27 16 <| tIload 1 <| tBin (fun x y => x - y) <| tIf2 (fun x y => x ≠ y) (w_X12_wordFrom_45 M G Rp) <| tConst 1 <| tGoto (w_X12_wordFrom_46 M G Rp)
def w_X12_wordFrom_13 (M : CT) (G : Nat → PT) (Rp : RT) : PT := tAload 0 <| tGetR 12 27 22 <| tIload 2 <| tAld 21 <| tIf (fun x => x = 0) (w_X12_wordFrom_28 M G Rp) <| tIinc 2 1 <| tGoto (G 13)
def w_X12_wordFrom_4 (M : CT) (G : Nat → PT) (Rp : RT) : PT := tIload 3 <| tConst 17 <| tIf2 (fun x y => y < x) (w_X12_wordFrom_116 M G Rp) <| tIload 2 <| tIstore 4 <| G 13
def w_X12_wordFrom_0 (M : CT) (G : Nat → PT) (Rp : RT) : PT := tConst 0 <| tIstore 2 <| tConst 0 <| tIstore 3 <| G 4
set_option maxRecDepth 20000 in
theorem b_X12_wordFrom_116 {Z : Zt} {d : Nat} {p : Program} {e : Env} {R : Room} {s : State} {m : MethodId} {args : Array Value} {below : List Frame} {meth : Method} {c : Code} {Rp : RT} (C : Cx Z d jX12_wordFrom RX12 p R s m args meth c) : Sd Z jX12_wordFrom p e R s m args below meth c (MQ below (QcS Z Rp) args s 0 0 (fun a => Z.2.2.1 < a)) 116 (w_X12_wordFrom_116 (MS Z d) (Gw Z 7 p e R s m args below meth c (MQ below (QcS Z Rp) args s 0 0 (fun a => Z.2.2.1 < a))) Rp) := by
  unfold w_X12_wordFrom_116
  refine s_iconst (n := (-1)) C (by decide +kernel) (by decide) ?_
  exact s_iret C rfl (by decide +kernel)
set_option maxRecDepth 20000 in
theorem b_X12_wordFrom_107 {Z : Zt} {d : Nat} {p : Program} {e : Env} {R : Room} {s : State} {m : MethodId} {args : Array Value} {below : List Frame} {meth : Method} {c : Code} {Rp : RT} (C : Cx Z d jX12_wordFrom RX12 p R s m args meth c) : Sd Z jX12_wordFrom p e R s m args below meth c (MQ below (QcS Z Rp) args s 0 0 (fun a => Z.2.2.1 < a)) 107 (w_X12_wordFrom_107 (MS Z d) (Gw Z 7 p e R s m args below meth c (MQ below (QcS Z Rp) args s 0 0 (fun a => Z.2.2.1 < a))) Rp) := by
  unfold w_X12_wordFrom_107
  refine s_iinc (n := 1) C (by decide +kernel) (by decide) ?_
  refine s_iinc (n := 1) C (by decide +kernel) (by decide) ?_
  exact s_goto (off := (-109)) (tgt := 4) C (by decide +kernel) (by decide) (fun _ _ _ _ _ _ h => h)
set_option maxRecDepth 20000 in
theorem b_X12_wordFrom_100 {Z : Zt} {d : Nat} {p : Program} {e : Env} {R : Room} {s : State} {m : MethodId} {args : Array Value} {below : List Frame} {meth : Method} {c : Code} {Rp : RT} (C : Cx Z d jX12_wordFrom RX12 p R s m args meth c) : Sd Z jX12_wordFrom p e R s m args below meth c (MQ below (QcS Z Rp) args s 0 0 (fun a => Z.2.2.1 < a)) 100 (w_X12_wordFrom_100 (MS Z d) (Gw Z 7 p e R s m args below meth c (MQ below (QcS Z Rp) args s 0 0 (fun a => Z.2.2.1 < a))) Rp) := by
  unfold w_X12_wordFrom_100
  refine s_iload (k := 5) C (by decide +kernel) ?_
  refine s_if_eq (off := 5) (tgt := 107) C (by decide +kernel) (by decide) (b_X12_wordFrom_107 C) ?_
  refine s_iload_n (k := 3) C (by decide +kernel) ?_
  exact s_iret C rfl (by decide +kernel)
set_option maxRecDepth 20000 in
theorem b_X12_wordFrom_92 {Z : Zt} {d : Nat} {p : Program} {e : Env} {R : Room} {s : State} {m : MethodId} {args : Array Value} {below : List Frame} {meth : Method} {c : Code} {Rp : RT} (C : Cx Z d jX12_wordFrom RX12 p R s m args meth c) : Sd Z jX12_wordFrom p e R s m args below meth c (MQ below (QcS Z Rp) args s 0 0 (fun a => Z.2.2.1 < a)) 92 (w_X12_wordFrom_92 (MS Z d) (Gw Z 7 p e R s m args below meth c (MQ below (QcS Z Rp) args s 0 0 (fun a => Z.2.2.1 < a))) Rp) := by
  unfold w_X12_wordFrom_92
  refine s_istore (k := 5) C (by decide +kernel) ?_
  refine s_iinc (n := 1) C (by decide +kernel) (by decide) ?_
  exact s_goto (off := (-46)) (tgt := 51) C (by decide +kernel) (by decide) (fun _ _ _ _ _ _ h => h)
set_option maxRecDepth 20000 in
theorem b_X12_wordFrom_91 {Z : Zt} {d : Nat} {p : Program} {e : Env} {R : Room} {s : State} {m : MethodId} {args : Array Value} {below : List Frame} {meth : Method} {c : Code} {Rp : RT} (C : Cx Z d jX12_wordFrom RX12 p R s m args meth c) : Sd Z jX12_wordFrom p e R s m args below meth c (MQ below (QcS Z Rp) args s 0 0 (fun a => Z.2.2.1 < a)) 91 (w_X12_wordFrom_91 (MS Z d) (Gw Z 7 p e R s m args below meth c (MQ below (QcS Z Rp) args s 0 0 (fun a => Z.2.2.1 < a))) Rp) := by
  unfold w_X12_wordFrom_91
  refine s_iconst (n := 0) C (by decide +kernel) (by decide) ?_
  exact (b_X12_wordFrom_92 C)
set_option maxRecDepth 20000 in
theorem b_X12_wordFrom_51 {Z : Zt} {d : Nat} {p : Program} {e : Env} {R : Room} {s : State} {m : MethodId} {args : Array Value} {below : List Frame} {meth : Method} {c : Code} {Rp : RT} (C : Cx Z d jX12_wordFrom RX12 p R s m args meth c) : Sd Z jX12_wordFrom p e R s m args below meth c (MQ below (QcS Z Rp) args s 0 0 (fun a => Z.2.2.1 < a)) 51 (w_X12_wordFrom_51 (MS Z d) (Gw Z 7 p e R s m args below meth c (MQ below (QcS Z Rp) args s 0 0 (fun a => Z.2.2.1 < a))) Rp) := by
  unfold w_X12_wordFrom_51
  refine s_iload (k := 6) C (by decide +kernel) ?_
  refine s_iload_n (k := 2) C (by decide +kernel) ?_
  refine s_iload (k := 4) C (by decide +kernel) ?_
  refine s_isub C (by decide +kernel) ?_
  refine s_icmp_ge (off := 43) (tgt := 100) C (by decide +kernel) (by decide) (b_X12_wordFrom_100 C) ?_
  refine s_iload (k := 5) C (by decide +kernel) ?_
  refine s_if_eq (off := 38) (tgt := 100) C (by decide +kernel) (by decide) (b_X12_wordFrom_100 C) ?_
  refine s_aload_n (k := 0) C (by decide +kernel) ?_
  refine s_getR C w_6_109 (by decide +kernel) rfl ?_
  refine s_iload (k := 4) C (by decide +kernel) ?_
  refine s_iload (k := 6) C (by decide +kernel) ?_
  refine s_iadd C (by decide +kernel) ?_
  refine s_bald C (by decide +kernel) ?_
  refine s_aload_n (k := 0) C (by decide +kernel) ?_
  refine s_getR C w_6_100 (by decide +kernel) rfl ?_
  refine s_iload_n (k := 1) C (by decide +kernel) ?_
  refine s_iload (k := 6) C (by decide +kernel) ?_
  refine s_iadd C (by decide +kernel) ?_
  refine s_bald C (by decide +kernel) ?_
  refine s_icmp_ne (off := 7) (tgt := 91) C (by decide +kernel) (by decide) (b_X12_wordFrom_91 C) ?_
  refine s_iconst (n := 1) C (by decide +kernel) (by decide) ?_
  exact s_goto (off := 4) (tgt := 92) C (by decide +kernel) (by decide) (b_X12_wordFrom_92 C)
set_option maxRecDepth 20000 in
theorem b_X12_wordFrom_46 {Z : Zt} {d : Nat} {p : Program} {e : Env} {R : Room} {s : State} {m : MethodId} {args : Array Value} {below : List Frame} {meth : Method} {c : Code} {Rp : RT} (C : Cx Z d jX12_wordFrom RX12 p R s m args meth c) : Sd Z jX12_wordFrom p e R s m args below meth c (MQ below (QcS Z Rp) args s 0 0 (fun a => Z.2.2.1 < a)) 46 (w_X12_wordFrom_46 (MS Z d) (Gw Z 7 p e R s m args below meth c (MQ below (QcS Z Rp) args s 0 0 (fun a => Z.2.2.1 < a))) Rp) := by
  unfold w_X12_wordFrom_46
  refine s_istore (k := 5) C (by decide +kernel) ?_
  refine s_iconst (n := 0) C (by decide +kernel) (by decide) ?_
  refine s_istore (k := 6) C (by decide +kernel) ?_
  exact (fun _ _ _ _ _ _ h => h)
set_option maxRecDepth 20000 in
theorem b_X12_wordFrom_45 {Z : Zt} {d : Nat} {p : Program} {e : Env} {R : Room} {s : State} {m : MethodId} {args : Array Value} {below : List Frame} {meth : Method} {c : Code} {Rp : RT} (C : Cx Z d jX12_wordFrom RX12 p R s m args meth c) : Sd Z jX12_wordFrom p e R s m args below meth c (MQ below (QcS Z Rp) args s 0 0 (fun a => Z.2.2.1 < a)) 45 (w_X12_wordFrom_45 (MS Z d) (Gw Z 7 p e R s m args below meth c (MQ below (QcS Z Rp) args s 0 0 (fun a => Z.2.2.1 < a))) Rp) := by
  unfold w_X12_wordFrom_45
  refine s_iconst (n := 0) C (by decide +kernel) (by decide) ?_
  exact (b_X12_wordFrom_46 C)
set_option maxRecDepth 20000 in
theorem b_X12_wordFrom_28 {Z : Zt} {d : Nat} {p : Program} {e : Env} {R : Room} {s : State} {m : MethodId} {args : Array Value} {below : List Frame} {meth : Method} {c : Code} {Rp : RT} (C : Cx Z d jX12_wordFrom RX12 p R s m args meth c) : Sd Z jX12_wordFrom p e R s m args below meth c (MQ below (QcS Z Rp) args s 0 0 (fun a => Z.2.2.1 < a)) 28 (w_X12_wordFrom_28 (MS Z d) (Gw Z 7 p e R s m args below meth c (MQ below (QcS Z Rp) args s 0 0 (fun a => Z.2.2.1 < a))) Rp) := by
  unfold w_X12_wordFrom_28
  refine s_iload_n (k := 2) C (by decide +kernel) ?_
  refine s_iload (k := 4) C (by decide +kernel) ?_
  refine s_isub C (by decide +kernel) ?_
  refine s_aload_n (k := 0) C (by decide +kernel) ?_
  refine s_getI C w_6_103 (by decide +kernel) rfl ?_
  refine s_iload_n (k := 1) C (by decide +kernel) ?_
  refine s_isub C (by decide +kernel) ?_
  refine s_icmp_ne (off := 7) (tgt := 45) C (by decide +kernel) (by decide) (b_X12_wordFrom_45 C) ?_
  refine s_iconst (n := 1) C (by decide +kernel) (by decide) ?_
  exact s_goto (off := 4) (tgt := 46) C (by decide +kernel) (by decide) (b_X12_wordFrom_46 C)
set_option maxRecDepth 20000 in
theorem b_X12_wordFrom_13 {Z : Zt} {d : Nat} {p : Program} {e : Env} {R : Room} {s : State} {m : MethodId} {args : Array Value} {below : List Frame} {meth : Method} {c : Code} {Rp : RT} (C : Cx Z d jX12_wordFrom RX12 p R s m args meth c) : Sd Z jX12_wordFrom p e R s m args below meth c (MQ below (QcS Z Rp) args s 0 0 (fun a => Z.2.2.1 < a)) 13 (w_X12_wordFrom_13 (MS Z d) (Gw Z 7 p e R s m args below meth c (MQ below (QcS Z Rp) args s 0 0 (fun a => Z.2.2.1 < a))) Rp) := by
  unfold w_X12_wordFrom_13
  refine s_aload_n (k := 0) C (by decide +kernel) ?_
  refine s_getR C w_6_109 (by decide +kernel) rfl ?_
  refine s_iload_n (k := 2) C (by decide +kernel) ?_
  refine s_bald C (by decide +kernel) ?_
  refine s_if_eq (off := 9) (tgt := 28) C (by decide +kernel) (by decide) (b_X12_wordFrom_28 C) ?_
  refine s_iinc (n := 1) C (by decide +kernel) (by decide) ?_
  exact s_goto (off := (-12)) (tgt := 13) C (by decide +kernel) (by decide) (fun _ _ _ _ _ _ h => h)
set_option maxRecDepth 20000 in
theorem b_X12_wordFrom_4 {Z : Zt} {d : Nat} {p : Program} {e : Env} {R : Room} {s : State} {m : MethodId} {args : Array Value} {below : List Frame} {meth : Method} {c : Code} {Rp : RT} (C : Cx Z d jX12_wordFrom RX12 p R s m args meth c) : Sd Z jX12_wordFrom p e R s m args below meth c (MQ below (QcS Z Rp) args s 0 0 (fun a => Z.2.2.1 < a)) 4 (w_X12_wordFrom_4 (MS Z d) (Gw Z 7 p e R s m args below meth c (MQ below (QcS Z Rp) args s 0 0 (fun a => Z.2.2.1 < a))) Rp) := by
  unfold w_X12_wordFrom_4
  refine s_iload_n (k := 3) C (by decide +kernel) ?_
  refine s_bipush (n := 17) C (by decide +kernel) (by decide) ?_
  refine s_icmp_gt (off := 109) (tgt := 116) C (by decide +kernel) (by decide) (b_X12_wordFrom_116 C) ?_
  refine s_iload_n (k := 2) C (by decide +kernel) ?_
  refine s_istore (k := 4) C (by decide +kernel) ?_
  exact (fun _ _ _ _ _ _ h => h)
set_option maxRecDepth 20000 in
theorem b_X12_wordFrom_0 {Z : Zt} {d : Nat} {p : Program} {e : Env} {R : Room} {s : State} {m : MethodId} {args : Array Value} {below : List Frame} {meth : Method} {c : Code} {Rp : RT} (C : Cx Z d jX12_wordFrom RX12 p R s m args meth c) : Sd Z jX12_wordFrom p e R s m args below meth c (MQ below (QcS Z Rp) args s 0 0 (fun a => Z.2.2.1 < a)) 0 (w_X12_wordFrom_0 (MS Z d) (Gw Z 7 p e R s m args below meth c (MQ below (QcS Z Rp) args s 0 0 (fun a => Z.2.2.1 < a))) Rp) := by
  unfold w_X12_wordFrom_0
  refine s_iconst (n := 0) C (by decide +kernel) (by decide) ?_
  refine s_istore_n (k := 2) C (by decide +kernel) ?_
  refine s_iconst (n := 0) C (by decide +kernel) (by decide) ?_
  refine s_istore_n (k := 3) C (by decide +kernel) ?_
  exact (fun _ _ _ _ _ _ h => h)
theorem ms_X12_wordFrom {Z : Zt} {d : Nat} {S : Sh} {μ : Mi} {ρ : Mr} {Rp : RT} (a0 : Nat) (x1 : Int32) (h : ∀ G : Nat → PT, (∀ (L st : List Value) (S : Sh) (q : Nat × Nat) (μ : Mi) (ρ : Mr), w_X12_wordFrom_4 (MS Z d) G Rp L st S q μ ρ → G 4 L st S q μ ρ) → (∀ (L st : List Value) (S : Sh) (q : Nat × Nat) (μ : Mi) (ρ : Mr), w_X12_wordFrom_13 (MS Z d) G Rp L st S q μ ρ → G 13 L st S q μ ρ) → (∀ (L st : List Value) (S : Sh) (q : Nat × Nat) (μ : Mi) (ρ : Mr), w_X12_wordFrom_51 (MS Z d) G Rp L st S q μ ρ → G 51 L st S q μ ρ) → w_X12_wordFrom_0 (MS Z d) G Rp [.ref a0, .int x1, .null, .null, .null, .null, .null] [] S (0, 0) μ ρ) : MS Z (d + 1) jX12_wordFrom [.ref a0, .int x1] S μ ρ Rp :=
  MS_of [.ref a0, .int x1, .null, .null, .null, .null, .null] (by decide +kernel) rfl rfl (Nat.le_of_ble_eq_true rfl) rfl (fun p e R s m args below meth c C => b_X12_wordFrom_0 C _ _ _ _ _ _ (h _ (b_X12_wordFrom_4 C) (b_X12_wordFrom_13 C) (b_X12_wordFrom_51 C)))
def F_X12_wordFrom : FT := fun As S μ ρ k => match As with
  | [.ref a, .int b] => a = 2737 ∧ RS S ρ ∧ rg b 0 300 ∧ rg (μ 2737 16) 0 300 ∧ b.toInt ≤ (μ 2737 16).toInt ∧ wdOK (μ 2746) ∧ k (some (.int (qWordFrom (μ 2745) b.toNatClampNeg (μ 2737 16).toNatClampNeg))) μ
  | _ => False
theorem r_X12_wordFrom {As S μ ρ k} (h : F_X12_wordFrom As S μ ρ k) : ∃ a As', As = Value.ref a :: As' ∧ S.2 a = (12, 27) := by
  unfold F_X12_wordFrom at h
  split at h
  · exact ⟨_, _, rfl, by rw [h.1]; exact h.2.1.1⟩
  · exact h.elim
set_option maxHeartbeats 1000000 in
theorem f_X12_wordFrom {Z : Zt} {d : Nat} {As : List Value} {S : Sh} {μ : Mi} {ρ : Mr} {Rp : RT} (h : F_X12_wordFrom As S μ ρ (fun r μ' => Rp r S μ' ρ)) : MS Z (d + 1) jX12_wordFrom As S μ ρ Rp := by
  unfold F_X12_wordFrom at h
  split at h
  · rename_i a b
    obtain ⟨rfl, hS, h⟩ := h
    have hS0 := hS
    unfold RS at hS
    obtain ⟨h1, h2, h3, hw, h⟩ := h
    obtain ⟨b, rfl, hb0, -, hb1⟩ := rg_ex h1
    obtain ⟨p, ep, ep0, -, ep1⟩ := rg_ex h2
    rw [ep, nI_toInt hb0, nI_toInt ep0] at h3
    rw [ep, nI_clamp hb0, nI_clamp ep0] at h
    unfold qWordFrom at h
    refine ms_X12_wordFrom _ _ (fun G g4 g13 g51 => ?_)
    simp only [w_X12_wordFrom_0, tAload, tIload, nth, tGetI, tGetR, tConst, tLconst, tBin, tUn, tI2l, tAld, tAldR, tAlen, tIast, tBast, tZast, tAast, tIret, tZret, tVret, tAret, tIf, tIf2, tGoto, tIstore, tAstore, sset, tIinc, tDup, tDup2, tPop, tPutI, tPutZ, tPutR, tCallV, tCallS, popN, tFn, tCopy, tMax, tMin, tSw, swc, tRem, tObjI, Option.toList, List.nil_append, List.cons_append, okR, true_and, and_true, true_or, or_true, Nat.zero_le, ne_eq, not_false_eq_true, Nat.reduceEqDiff]
    have outer : ∀ (m j : Nat) (v4 v5 v6 : Value), m + j = 18 → Rp (some (.int (wfF (μ 2745) b p m j))) S μ ρ → G 4 [.ref 2737, .int (nI b), .int (nI (if j < 18 then frW j else 103)), .int (nI j), v4, v5, v6] [] S (0, 0) μ ρ := by
      intro m
      induction m with
      | zero =>
        intro j v4 v5 v6 hj hq
        obtain rfl : j = 18 := by omega
        refine g4 _ _ _ _ _ _ ?_
        simp only [w_X12_wordFrom_4, w_X12_wordFrom_116, tAload, tIload, nth, tGetI, tGetR, tConst, tLconst, tBin, tUn, tI2l, tAld, tAldR, tAlen, tIast, tBast, tZast, tAast, tIret, tZret, tVret, tAret, tIf, tIf2, tGoto, tIstore, tAstore, sset, tIinc, tDup, tDup2, tPop, tPutI, tPutZ, tPutR, tCallV, tCallS, popN, tFn, tCopy, tMax, tMin, tSw, swc, tRem, tObjI, Option.toList, List.nil_append, List.cons_append, okR, true_and, and_true, true_or, or_true, Nat.zero_le, ne_eq, not_false_eq_true, Nat.reduceEqDiff]
        exact ⟨fun _ => hq, fun z => absurd (by decide) z⟩
      | succ m ih =>
        intro j v4 v5 v6 hj hq
        have hj18 : j < 18 := by omega
        rw [if_pos hj18]
        rw [wfF_s] at hq
        have hfb := fr_b j hj18
        have lt : ¬ (17 : Int32) < nI j := by rw [show (17 : Int32) = nI 17 from rfl, nI_ltI (by decide) (by omega)]; omega
        -- the answer of this word
        have ans : ∀ (r : Int32) (v6 : Value), r = mtW (μ 2745) b p j → w_X12_wordFrom_100 (MS Z d) G Rp [.ref 2737, .int (nI b), .int (nI (frW j + lnW j)), .int (nI j), .int (nI (frW j)), .int r, v6] [] S (0, 0) μ ρ := by
          intro r v6 hr
          simp only [w_X12_wordFrom_100, w_X12_wordFrom_107, tAload, tIload, nth, tGetI, tGetR, tConst, tLconst, tBin, tUn, tI2l, tAld, tAldR, tAlen, tIast, tBast, tZast, tAast, tIret, tZret, tVret, tAret, tIf, tIf2, tGoto, tIstore, tAstore, sset, tIinc, tDup, tDup2, tPop, tPutI, tPutZ, tPutR, tCallV, tCallS, popN, tFn, tCopy, tMax, tMin, tSw, swc, tRem, tObjI, Option.toList, List.nil_append, List.cons_append, okR, true_and, and_true, true_or, or_true, Nat.zero_le, ne_eq, not_false_eq_true, Nat.reduceEqDiff, nI_1]
          refine ⟨fun c => ?_, fun c => ?_⟩
          · rw [← hr, if_pos c] at hq
            have := ih (j + 1) (.int (nI (frW j))) (.int r) v6 (by omega) hq
            by_cases hj17 : j < 17
            · rw [if_pos (by omega), fr_s j hj17] at this; exact this
            · obtain rfl : j = 17 := by omega
              exact this
          · rw [← hr, if_neg c] at hq; exact hq
        have cmp : ∀ (m i : Nat) (r : Int32), m + i = lnW j → (i = 0 ∨ ¬ r = 0 ∨ ¬ r = 0 ∨ r = 0) → lnW j ≤ 300 → (¬ r = 0 → b + lnW j ≤ 300) → eqI (μ 2745) (frW j) b m i r = mtW (μ 2745) b p j → G 51 [.ref 2737, .int (nI b), .int (nI (frW j + lnW j)), .int (nI j), .int (nI (frW j)), .int r, .int (nI i)] [] S (0, 0) μ ρ := by
          intro m
          induction m with
          | zero =>
            intro i r hi _ _ _ he
            refine g51 _ _ _ _ _ _ ?_
            obtain rfl : i = lnW j := by omega
            have e1 : nI (frW j + lnW j) - nI (frW j) = nI (lnW j) := by rw [pk_sub (by omega), Nat.add_sub_cancel_left]
            simp only [w_X12_wordFrom_51, tAload, tIload, nth, tGetI, tGetR, tConst, tLconst, tBin, tUn, tI2l, tAld, tAldR, tAlen, tIast, tBast, tZast, tAast, tIret, tZret, tVret, tAret, tIf, tIf2, tGoto, tIstore, tAstore, sset, tIinc, tDup, tDup2, tPop, tPutI, tPutZ, tPutR, tCallV, tCallS, popN, tFn, tCopy, tMax, tMin, tSw, swc, tRem, tObjI, Option.toList, List.nil_append, List.cons_append, okR, true_and, and_true, true_or, or_true, Nat.zero_le, ne_eq, not_false_eq_true, Nat.reduceEqDiff, e1]
            exact ⟨fun _ => ans _ _ he, fun z => absurd (Int32.le_refl _) z⟩
          | succ m ihm =>
            intro i r hi hd hl hb he
            refine g51 _ _ _ _ _ _ ?_
            rw [eqI_s] at he
            have e1 : nI (frW j + lnW j) - nI (frW j) = nI (lnW j) := by rw [pk_sub (by omega), Nat.add_sub_cancel_left]
            have lt2 : ¬ nI (lnW j) ≤ nI i := by rw [nI_leI (by omega) (by omega)]; omega
            simp only [w_X12_wordFrom_51, w_X12_wordFrom_91, w_X12_wordFrom_92, tAload, tIload, nth, tGetI, tGetR, tConst, tLconst, tBin, tUn, tI2l, tAld, tAldR, tAlen, tIast, tBast, tZast, tAast, tIret, tZret, tVret, tAret, tIf, tIf2, tGoto, tIstore, tAstore, sset, tIinc, tDup, tDup2, tPop, tPutI, tPutZ, tPutR, tCallV, tCallS, popN, tFn, tCopy, tMax, tMin, tSw, swc, tRem, tObjI, Option.toList, List.nil_append, List.cons_append, okR, true_and, and_true, true_or, or_true, Nat.zero_le, ne_eq, not_false_eq_true, Nat.reduceEqDiff, hS, e1, nI_add, nI_1]
            simp (disch := omega) only [nI_clamp, nI_inb]
            rw [hw _ (by omega)]
            refine ⟨fun z => absurd z lt2, fun _ => ⟨fun c => ?_, fun c => ⟨by omega, by have := hb c; omega, fun c2 => ?_, fun c2 => ?_⟩⟩⟩
            · rw [if_pos c] at he
              exact ans _ _ (by rw [c]; exact he)
            · rw [if_neg c, if_pos c2] at he
              exact ihm (i + 1) 0 (by omega) (by simp) hl (fun z => absurd rfl z) he
            · rw [if_neg c, if_neg c2] at he
              exact ihm (i + 1) 1 (by omega) (by simp) hl (fun _ => hb c) he
        have len : ∀ (m i : Nat), m + i = lnW j → G 13 [.ref 2737, .int (nI b), .int (nI (frW j + i)), .int (nI j), .int (nI (frW j)), v5, v6] [] S (0, 0) μ ρ := by
          intro m
          induction m with
          | zero =>
            intro i hi
            obtain rfl : i = lnW j := by omega
            refine g13 _ _ _ _ _ _ ?_
            have e1 : nI (frW j + lnW j) - nI (frW j) = nI (lnW j) := by rw [pk_sub (by omega), Nat.add_sub_cancel_left]
            have e2 : nI p - nI b = nI (p - b) := pk_sub (by omega)
            simp only [w_X12_wordFrom_13, w_X12_wordFrom_28, w_X12_wordFrom_45, w_X12_wordFrom_46, tAload, tIload, nth, tGetI, tGetR, tConst, tLconst, tBin, tUn, tI2l, tAld, tAldR, tAlen, tIast, tBast, tZast, tAast, tIret, tZret, tVret, tAret, tIf, tIf2, tGoto, tIstore, tAstore, sset, tIinc, tDup, tDup2, tPop, tPutI, tPutZ, tPutR, tCallV, tCallS, popN, tFn, tCopy, tMax, tMin, tSw, swc, tRem, tObjI, Option.toList, List.nil_append, List.cons_append, okR, true_and, and_true, true_or, or_true, Nat.zero_le, ne_eq, not_false_eq_true, Nat.reduceEqDiff, hS, ep, e1, e2]
            simp (disch := omega) only [nI_clamp, nI_inb, nI_eq]
            rw [hw _ (by omega), wr_z j hj18]
            refine ⟨by omega, fun _ => ⟨fun c => ?_, fun c => ?_⟩, fun z => absurd rfl z⟩
            · exact cmp (lnW j) 0 0 rfl (Or.inl rfl) (by omega) (fun z => absurd rfl z) (by unfold mtW; rw [if_pos c])
            · exact cmp (lnW j) 0 1 rfl (Or.inl rfl) (by omega) (fun _ => by have := Decidable.not_not.mp c; omega) (by unfold mtW; rw [if_neg c])
          | succ m ihm =>
            intro i hi
            refine g13 _ _ _ _ _ _ ?_
            simp only [w_X12_wordFrom_13, tAload, tIload, nth, tGetI, tGetR, tConst, tLconst, tBin, tUn, tI2l, tAld, tAldR, tAlen, tIast, tBast, tZast, tAast, tIret, tZret, tVret, tAret, tIf, tIf2, tGoto, tIstore, tAstore, sset, tIinc, tDup, tDup2, tPop, tPutI, tPutZ, tPutR, tCallV, tCallS, popN, tFn, tCopy, tMax, tMin, tSw, swc, tRem, tObjI, Option.toList, List.nil_append, List.cons_append, okR, true_and, and_true, true_or, or_true, Nat.zero_le, ne_eq, not_false_eq_true, Nat.reduceEqDiff, hS, nI_1]
            simp (disch := omega) only [nI_clamp, nI_inb]
            rw [hw _ (by omega)]
            refine ⟨by omega, fun c => absurd c (wr_nz j hj18 i (by omega)), fun _ => ?_⟩
            have := ihm (i + 1) (by omega)
            rw [← Nat.add_assoc] at this
            exact this
        refine g4 _ _ _ _ _ _ ?_
        simp only [w_X12_wordFrom_4, tAload, tIload, nth, tGetI, tGetR, tConst, tLconst, tBin, tUn, tI2l, tAld, tAldR, tAlen, tIast, tBast, tZast, tAast, tIret, tZret, tVret, tAret, tIf, tIf2, tGoto, tIstore, tAstore, sset, tIinc, tDup, tDup2, tPop, tPutI, tPutZ, tPutR, tCallV, tCallS, popN, tFn, tCopy, tMax, tMin, tSw, swc, tRem, tObjI, Option.toList, List.nil_append, List.cons_append, okR, true_and, and_true, true_or, or_true, Nat.zero_le, ne_eq, not_false_eq_true, Nat.reduceEqDiff]
        exact ⟨fun z => absurd z lt, fun _ => len (lnW j) 0 rfl⟩
    exact outer 18 0 _ _ _ rfl h
  · exact h.elim
