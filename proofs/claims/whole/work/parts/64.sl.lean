/-! ===== the reference: times ===== -/
theorem nI_30 {dd : Nat} (h : dd ≤ 3) : (¬ nI (3 - dd) = 3) ↔ ¬ dd = 0 := by
  rw [show (3 : Int32) = nI 3 from rfl, nI_eq (by omega) (by decide)]
  omega
theorem blk_end {T : Rw} {n : Nat} : ∀ {m p : Nat}, n ≤ p + m → ¬ seeT T n (blF T n m p) = 32 := by
  intro m
  induction m with
  | zero =>
    intro p h z
    have : seeT T n p = 32 := z
    rw [seeT_hi (by omega)] at this
    exact absurd this (by decide)
  | succ m ih =>
    intro p h
    rw [blF_s]
    split
    · exact ih (by omega)
    · rename_i c; exact c
theorem blk_blk {T : Rw} {n p : Nat} : blk T n (blk T n p) = blk T n p := blk_e (by
  show ¬ seeT T n (blF T n (n - p) p) = 32
  exact blk_end (by omega))
theorem pNum_ge {T : Rw} {n : Nat} {b : Int32} {P : Ps} : P.1 ≤ (pNum T n b P).1 := by
  have h1 := (blk_le (T := T) (n := n) (p := P.1)).1
  have h2 := (dg_le (T := T) (n := n) (p := pBeg T n b P.1) (v := 0)).1
  have h3 : blk T n P.1 ≤ pBeg T n b P.1 := by
    unfold pBeg
    split <;> omega
  show P.1 ≤ (dg T n (pBeg T n b P.1) 0).1
  omega
theorem head_w {T : Rw} {n : Nat} {P : Ps} : ¬ (tHead T n 0 P).2.1 = 0 := by
  unfold tHead pSign
  simp only [blk_blk]
  split
  · rename_i c
    rw [if_neg (fun z => z.elim (fun z => z c) (fun z => z trivial))]
    exact fl_nz (by decide)
  · exact fl_nz (by decide)
/-- what one says of acts, as the place in brackets goes -/
def actsC (Z : Zt) (S : Sh) (ρ : Mr) (μ : Mi) (n : Nat) (meant : Int32) (D : Nat) (op : Int32) (body : Ps × Es → Ps × Es) : Prop :=
  ∀ (ν : Mi) (X : Ps × Es) (Rp : RT), PR μ ν n X → PB n X.1 → good X.2.2.2.2.2.2 → (∀ ν', PR μ ν' n (body X) → PB n (body X).1 → good (body X).2.2.2.2.2.2 → X.1.1 ≤ (body X).1.1 → Rp none S ν' ρ) → MS Z D jX12_acts [.ref 2737, .int op, .int meant] S ν ρ Rp
theorem rep_s {T : Rw} {n beg r : Nat} {body : Ps × Es → Ps × Es} {X : Ps × Es} : rep T n beg body (r + 1) X = if ¬ X.1.2.1 = 0 ∨ ¬ X.2.1 = 0 then X else rep T n beg body r (if ¬ (body ((beg, X.1.2), X.2)).2.1 = 0 ∨ ¬ (body ((beg, X.1.2), X.2)).1.2.1 = 0 then body ((beg, X.1.2), X.2) else (pSign T n 125 (body ((beg, X.1.2), X.2)).1, (body ((beg, X.1.2), X.2)).2)) := rfl
theorem rep_w {T : Rw} {n beg : Nat} {body : Ps × Es → Ps × Es} {X : Ps × Es} (h : ¬ X.1.2.1 = 0 ∨ ¬ X.2.1 = 0) : ∀ r, rep T n beg body r X = X := by
  intro r
  cases r with
  | zero => rfl
  | succ r => rw [rep_s, if_pos h]
def w_X12_times_144 (M : CT) (G : Nat → PT) (Rp : RT) : PT := tVret Rp
def w_X12_times_138 (M : CT) (G : Nat → PT) (Rp : RT) : PT := tIinc 5 1 <| tGoto (G 76)
def w_X12_times_87 (M : CT) (G : Nat → PT) (Rp : RT) : PT := tIf2 (fun x y => y ≤ x) (w_X12_times_144 M G Rp) <| tAload 0 <| tGetI 12 27 17 <| tIf (fun x => x ≠ 0) (w_X12_times_144 M G Rp) <| tAload 0 <| tGetI 12 27 26 <| tIf (fun x => x ≠ 0) (w_X12_times_144 M G Rp) <| tAload 0 <| tIload 4 <| tPutI 12 27 16 <| tAload 0 <| tIload 1 <| tConst 1 <| tBin (fun x y => x + y) <| tIload 2 <| tCallV M jX12_acts 12 27 2 <| tAload 0 <| tGetI 12 27 26 <| tIf (fun x => x ≠ 0) (w_X12_times_138 M G Rp) <| tAload 0 <| tGetI 12 27 17 <| tIf (fun x => x ≠ 0) (w_X12_times_138 M G Rp) <| tAload 0 <| tConst 125 <| tFn 2 F_X12_sign <| w_X12_times_138 M G Rp
def w_X12_times_86 (M : CT) (G : Nat → PT) (Rp : RT) : PT := tConst 1 <| w_X12_times_87 M G Rp
def w_X12_times_76 (M : CT) (G : Nat → PT) (Rp : RT) : PT := tIload 5 <| tIload 2 <| tIf (fun x => x = 0) (w_X12_times_86 M G Rp) <| tIload 3 <| tGoto (w_X12_times_87 M G Rp)
def w_X12_times_61 (M : CT) (G : Nat → PT) (Rp : RT) : PT := tAload 0 <| tConst 123 <| tFn 2 F_X12_sign <| tAload 0 <| tGetI 12 27 16 <| tIstore 4 <| tConst 0 <| tIstore 5 <| G 76
def w_X12_times_34 (M : CT) (G : Nat → PT) (Rp : RT) : PT := tAload 0 <| tFn 1 F_X12_blanks <| tAload 0 <| tFn 1 F_X12_see <| tConst 123 <| tIf2 (fun x y => x ≠ y) (w_X12_times_61 M G Rp) <| tIload 1 <| tConst 3 <| tIf2 (fun x y => x ≠ y) (w_X12_times_61 M G Rp) <| tAload 0 <| tConst 3 <| tAload 0 <| tGetI 12 27 16 <| tFn 3 F_X12_fails <| w_X12_times_61 M G Rp
def w_X12_times_0 (M : CT) (G : Nat → PT) (Rp : RT) : PT := tAload 0 <| tConst 0 <| tFn 2 F_X12_number <| tIstore 3 <| tAload 0 <| tGetI 12 27 17 <| tIf (fun x => x ≠ 0) (w_X12_times_34 M G Rp) <| tIload 3 <| tI2l <| tLconst 1 <| tLconst 50 <| tFn 3 F_X12_within <| tIf (fun x => x ≠ 0) (w_X12_times_34 M G Rp) <| tAload 0 <| tConst 2 <| tAload 0 <| tGetI 12 27 25 <| tFn 3 F_X12_fails <| w_X12_times_34 M G Rp
set_option maxRecDepth 20000 in
theorem b_X12_times_144 {Z : Zt} {d : Nat} {p : Program} {e : Env} {R : Room} {s : State} {m : MethodId} {args : Array Value} {below : List Frame} {meth : Method} {c : Code} {Rp : RT} (C : Cx Z (d + 39) jX12_times RX12 p R s m args meth c) : Sd Z jX12_times p e R s m args below meth c (MQ below (QcS Z Rp) args s 0 0 (fun a => Z.2.2.1 < a)) 144 (w_X12_times_144 (MS Z (d + 39)) (Gw Z 6 p e R s m args below meth c (MQ below (QcS Z Rp) args s 0 0 (fun a => Z.2.2.1 < a))) Rp) := by
  unfold w_X12_times_144
  exact s_vret C rfl (by decide +kernel)
set_option maxRecDepth 20000 in
theorem b_X12_times_138 {Z : Zt} {d : Nat} {p : Program} {e : Env} {R : Room} {s : State} {m : MethodId} {args : Array Value} {below : List Frame} {meth : Method} {c : Code} {Rp : RT} (C : Cx Z (d + 39) jX12_times RX12 p R s m args meth c) : Sd Z jX12_times p e R s m args below meth c (MQ below (QcS Z Rp) args s 0 0 (fun a => Z.2.2.1 < a)) 138 (w_X12_times_138 (MS Z (d + 39)) (Gw Z 6 p e R s m args below meth c (MQ below (QcS Z Rp) args s 0 0 (fun a => Z.2.2.1 < a))) Rp) := by
  unfold w_X12_times_138
  refine s_iinc (n := 1) C (by decide +kernel) (by decide) ?_
  exact s_goto (off := (-65)) (tgt := 76) C (by decide +kernel) (by decide) (fun _ _ _ _ _ _ h => h)
set_option maxRecDepth 20000 in
theorem b_X12_times_87 {Z : Zt} {d : Nat} {p : Program} {e : Env} {R : Room} {s : State} {m : MethodId} {args : Array Value} {below : List Frame} {meth : Method} {c : Code} {Rp : RT} (C : Cx Z (d + 39) jX12_times RX12 p R s m args meth c) : Sd Z jX12_times p e R s m args below meth c (MQ below (QcS Z Rp) args s 0 0 (fun a => Z.2.2.1 < a)) 87 (w_X12_times_87 (MS Z (d + 39)) (Gw Z 6 p e R s m args below meth c (MQ below (QcS Z Rp) args s 0 0 (fun a => Z.2.2.1 < a))) Rp) := by
  unfold w_X12_times_87
  refine s_icmp_ge (off := 57) (tgt := 144) C (by decide +kernel) (by decide) (b_X12_times_144 C) ?_
  refine s_aload_n (k := 0) C (by decide +kernel) ?_
  refine s_getI C w_6_104 (by decide +kernel) rfl ?_
  refine s_if_ne (off := 50) (tgt := 144) C (by decide +kernel) (by decide) (b_X12_times_144 C) ?_
  refine s_aload_n (k := 0) C (by decide +kernel) ?_
  refine s_getI C w_6_113 (by decide +kernel) rfl ?_
  refine s_if_ne (off := 43) (tgt := 144) C (by decide +kernel) (by decide) (b_X12_times_144 C) ?_
  refine s_aload_n (k := 0) C (by decide +kernel) ?_
  refine s_iload (k := 4) C (by decide +kernel) ?_
  refine s_putI C w_6_103 (by decide +kernel) rfl (Or.inl rfl) ?_
  refine s_aload_n (k := 0) C (by decide +kernel) ?_
  refine s_iload_n (k := 1) C (by decide +kernel) ?_
  refine s_iconst (n := 1) C (by decide +kernel) (by decide) ?_
  refine s_iadd C (by decide +kernel) ?_
  refine s_iload_n (k := 2) C (by decide +kernel) ?_
  refine s_callV C rfl rfl (by decide +kernel) rfl w_8_33 w_8_35 w_p7_1 w_1_13 w_8_36 (by decide +kernel) ?_
  refine s_aload_n (k := 0) C (by decide +kernel) ?_
  refine s_getI C w_6_113 (by decide +kernel) rfl ?_
  refine s_if_ne (off := 16) (tgt := 138) C (by decide +kernel) (by decide) (b_X12_times_138 C) ?_
  refine s_aload_n (k := 0) C (by decide +kernel) ?_
  refine s_getI C w_6_104 (by decide +kernel) rfl ?_
  refine s_if_ne (off := 9) (tgt := 138) C (by decide +kernel) (by decide) (b_X12_times_138 C) ?_
  refine s_aload_n (k := 0) C (by decide +kernel) ?_
  refine s_bipush (n := 125) C (by decide +kernel) (by decide) ?_
  refine s_fnV C (j2 := jX12_sign) (cl := 12) (nf := 27) rfl rfl (by decide +kernel) rfl w_8_70 w_8_72 w_p7_9 w_1_13 w_8_73 (by decide +kernel) (fun _ _ _ _ _ h => f_X12_sign h) (fun _ _ _ _ _ h => r_X12_sign h) ?_
  exact (b_X12_times_138 C)
set_option maxRecDepth 20000 in
theorem b_X12_times_86 {Z : Zt} {d : Nat} {p : Program} {e : Env} {R : Room} {s : State} {m : MethodId} {args : Array Value} {below : List Frame} {meth : Method} {c : Code} {Rp : RT} (C : Cx Z (d + 39) jX12_times RX12 p R s m args meth c) : Sd Z jX12_times p e R s m args below meth c (MQ below (QcS Z Rp) args s 0 0 (fun a => Z.2.2.1 < a)) 86 (w_X12_times_86 (MS Z (d + 39)) (Gw Z 6 p e R s m args below meth c (MQ below (QcS Z Rp) args s 0 0 (fun a => Z.2.2.1 < a))) Rp) := by
  unfold w_X12_times_86
  refine s_iconst (n := 1) C (by decide +kernel) (by decide) ?_
  exact (b_X12_times_87 C)
set_option maxRecDepth 20000 in
theorem b_X12_times_76 {Z : Zt} {d : Nat} {p : Program} {e : Env} {R : Room} {s : State} {m : MethodId} {args : Array Value} {below : List Frame} {meth : Method} {c : Code} {Rp : RT} (C : Cx Z (d + 39) jX12_times RX12 p R s m args meth c) : Sd Z jX12_times p e R s m args below meth c (MQ below (QcS Z Rp) args s 0 0 (fun a => Z.2.2.1 < a)) 76 (w_X12_times_76 (MS Z (d + 39)) (Gw Z 6 p e R s m args below meth c (MQ below (QcS Z Rp) args s 0 0 (fun a => Z.2.2.1 < a))) Rp) := by
  unfold w_X12_times_76
  refine s_iload (k := 5) C (by decide +kernel) ?_
  refine s_iload_n (k := 2) C (by decide +kernel) ?_
  refine s_if_eq (off := 7) (tgt := 86) C (by decide +kernel) (by decide) (b_X12_times_86 C) ?_
  refine s_iload_n (k := 3) C (by decide +kernel) ?_
  exact s_goto (off := 4) (tgt := 87) C (by decide +kernel) (by decide) (b_X12_times_87 C)
set_option maxRecDepth 20000 in
theorem b_X12_times_61 {Z : Zt} {d : Nat} {p : Program} {e : Env} {R : Room} {s : State} {m : MethodId} {args : Array Value} {below : List Frame} {meth : Method} {c : Code} {Rp : RT} (C : Cx Z (d + 39) jX12_times RX12 p R s m args meth c) : Sd Z jX12_times p e R s m args below meth c (MQ below (QcS Z Rp) args s 0 0 (fun a => Z.2.2.1 < a)) 61 (w_X12_times_61 (MS Z (d + 39)) (Gw Z 6 p e R s m args below meth c (MQ below (QcS Z Rp) args s 0 0 (fun a => Z.2.2.1 < a))) Rp) := by
  unfold w_X12_times_61
  refine s_aload_n (k := 0) C (by decide +kernel) ?_
  refine s_bipush (n := 123) C (by decide +kernel) (by decide) ?_
  refine s_fnV C (j2 := jX12_sign) (cl := 12) (nf := 27) rfl rfl (by decide +kernel) rfl w_8_70 w_8_72 w_p7_9 w_1_13 w_8_73 (by decide +kernel) (fun _ _ _ _ _ h => f_X12_sign h) (fun _ _ _ _ _ h => r_X12_sign h) ?_
  refine s_aload_n (k := 0) C (by decide +kernel) ?_
  refine s_getI C w_6_103 (by decide +kernel) rfl ?_
  refine s_istore (k := 4) C (by decide +kernel) ?_
  refine s_iconst (n := 0) C (by decide +kernel) (by decide) ?_
  refine s_istore (k := 5) C (by decide +kernel) ?_
  exact (fun _ _ _ _ _ _ h => h)
set_option maxRecDepth 20000 in
theorem b_X12_times_34 {Z : Zt} {d : Nat} {p : Program} {e : Env} {R : Room} {s : State} {m : MethodId} {args : Array Value} {below : List Frame} {meth : Method} {c : Code} {Rp : RT} (C : Cx Z (d + 39) jX12_times RX12 p R s m args meth c) : Sd Z jX12_times p e R s m args below meth c (MQ below (QcS Z Rp) args s 0 0 (fun a => Z.2.2.1 < a)) 34 (w_X12_times_34 (MS Z (d + 39)) (Gw Z 6 p e R s m args below meth c (MQ below (QcS Z Rp) args s 0 0 (fun a => Z.2.2.1 < a))) Rp) := by
  unfold w_X12_times_34
  refine s_aload_n (k := 0) C (by decide +kernel) ?_
  refine s_fnV C (j2 := jX12_blanks) (cl := 12) (nf := 27) rfl rfl (by decide +kernel) rfl w_8_37 w_8_39 w_p7_2 w_1_13 w_8_40 (by decide +kernel) (fun _ _ _ _ _ h => f_X12_blanks h) (fun _ _ _ _ _ h => r_X12_blanks h) ?_
  refine s_aload_n (k := 0) C (by decide +kernel) ?_
  refine s_fnV C (j2 := jX12_see) (cl := 12) (nf := 27) rfl rfl (by decide +kernel) rfl w_8_41 w_8_43 w_p7_3 w_1_13 w_8_44 (by decide +kernel) (fun _ _ _ _ _ h => f_X12_see h) (fun _ _ _ _ _ h => r_X12_see h) ?_
  refine s_bipush (n := 123) C (by decide +kernel) (by decide) ?_
  refine s_icmp_ne (off := 17) (tgt := 61) C (by decide +kernel) (by decide) (b_X12_times_61 C) ?_
  refine s_iload_n (k := 1) C (by decide +kernel) ?_
  refine s_iconst (n := 3) C (by decide +kernel) (by decide) ?_
  refine s_icmp_ne (off := 12) (tgt := 61) C (by decide +kernel) (by decide) (b_X12_times_61 C) ?_
  refine s_aload_n (k := 0) C (by decide +kernel) ?_
  refine s_iconst (n := 3) C (by decide +kernel) (by decide) ?_
  refine s_aload_n (k := 0) C (by decide +kernel) ?_
  refine s_getI C w_6_103 (by decide +kernel) rfl ?_
  refine s_fnV C (j2 := jX12_fails) (cl := 12) (nf := 27) rfl rfl (by decide +kernel) rfl w_8_55 w_8_57 w_p7_6 w_1_13 w_8_58 (by decide +kernel) (fun _ _ _ _ _ h => f_X12_fails h) (fun _ _ _ _ _ h => r_X12_fails h) ?_
  exact (b_X12_times_61 C)
set_option maxRecDepth 20000 in
theorem b_X12_times_0 {Z : Zt} {d : Nat} {p : Program} {e : Env} {R : Room} {s : State} {m : MethodId} {args : Array Value} {below : List Frame} {meth : Method} {c : Code} {Rp : RT} (C : Cx Z (d + 39) jX12_times RX12 p R s m args meth c) : Sd Z jX12_times p e R s m args below meth c (MQ below (QcS Z Rp) args s 0 0 (fun a => Z.2.2.1 < a)) 0 (w_X12_times_0 (MS Z (d + 39)) (Gw Z 6 p e R s m args below meth c (MQ below (QcS Z Rp) args s 0 0 (fun a => Z.2.2.1 < a))) Rp) := by
  unfold w_X12_times_0
  refine s_aload_n (k := 0) C (by decide +kernel) ?_
  refine s_iconst (n := 0) C (by decide +kernel) (by decide) ?_
  refine s_fnV C (j2 := jX12_number) (cl := 12) (nf := 27) rfl rfl (by decide +kernel) rfl w_8_63 w_8_65 w_p7_8 w_1_13 w_8_66 (by decide +kernel) (fun _ _ _ _ _ h => f_X12_number h) (fun _ _ _ _ _ h => r_X12_number h) ?_
  refine s_istore_n (k := 3) C (by decide +kernel) ?_
  refine s_aload_n (k := 0) C (by decide +kernel) ?_
  refine s_getI C w_6_104 (by decide +kernel) rfl ?_
  refine s_if_ne (off := 24) (tgt := 34) C (by decide +kernel) (by decide) (b_X12_times_34 C) ?_
  refine s_iload_n (k := 3) C (by decide +kernel) ?_
  refine s_i2l C (by decide +kernel) ?_
  refine s_lconst (n := 1) C (by decide +kernel) (by decide) ?_
  refine s_ldc2 C w_8_69 (by decide +kernel) ?_
  refine s_fnS C (j2 := jX12_within) (by decide +kernel) rfl w_6_175 w_6_176 w_1_13 w_6_177 (by decide +kernel) (fun _ _ _ _ _ h => f_X12_within h) ?_
  refine s_if_ne (off := 12) (tgt := 34) C (by decide +kernel) (by decide) (b_X12_times_34 C) ?_
  refine s_aload_n (k := 0) C (by decide +kernel) ?_
  refine s_iconst (n := 2) C (by decide +kernel) (by decide) ?_
  refine s_aload_n (k := 0) C (by decide +kernel) ?_
  refine s_getI C w_6_112 (by decide +kernel) rfl ?_
  refine s_fnV C (j2 := jX12_fails) (cl := 12) (nf := 27) rfl rfl (by decide +kernel) rfl w_8_55 w_8_57 w_p7_6 w_1_13 w_8_58 (by decide +kernel) (fun _ _ _ _ _ h => f_X12_fails h) (fun _ _ _ _ _ h => r_X12_fails h) ?_
  exact (b_X12_times_34 C)
theorem ms_X12_times {Z : Zt} {d : Nat} {S : Sh} {μ : Mi} {ρ : Mr} {Rp : RT} (a0 : Nat) (x1 : Int32) (x2 : Int32) (h : ∀ G : Nat → PT, (∀ (L st : List Value) (S : Sh) (q : Nat × Nat) (μ : Mi) (ρ : Mr), w_X12_times_76 (MS Z (d + 39)) G Rp L st S q μ ρ → G 76 L st S q μ ρ) → w_X12_times_0 (MS Z (d + 39)) G Rp [.ref a0, .int x1, .int x2, .null, .null, .null] [] S (0, 0) μ ρ) : MS Z (d + 40) jX12_times [.ref a0, .int x1, .int x2] S μ ρ Rp :=
  MS_of [.ref a0, .int x1, .int x2, .null, .null, .null] (by decide +kernel) rfl rfl (Nat.le_of_ble_eq_true rfl) rfl (fun p e R s m args below meth c C => b_X12_times_0 C _ _ _ _ _ _ (h _ (b_X12_times_76 C)))
set_option maxHeartbeats 1000000 in
theorem times_core {Z : Zt} {S : Sh} {ρ : Mr} {μ : Mi} {n dd d : Nat} {meant : Int32} {body : Ps × Es → Ps × Es} (hdd : dd ≤ 3) (hS0 : RS S ρ) (hm : meant = 0 ∨ meant = 1) (hbody : ¬ dd = 0 → actsC Z S ρ μ n meant (d + 39) (nI (3 - dd) + 1) body)
    (ν : Mi) (X : Ps × Es) (Rp : RT) (hP : PR μ ν n X) (hB : PB n X.1) (hp : X.1.1 ≤ n) (hg : good X.2.2.2.2.2.2)
    (h : ∀ ν', PR μ ν' n (pTimes (μ 2745) n dd meant body X) → PB n (pTimes (μ 2745) n dd meant body X).1 → good (pTimes (μ 2745) n dd meant body X).2.2.2.2.2.2 → X.1.1 ≤ (pTimes (μ 2745) n dd meant body X).1.1 → Rp none S ν' ρ) : MS Z (d + 40) jX12_times [.ref 2737, .int (nI (3 - dd)), .int meant] S ν ρ Rp := by
  have hS := hS0
  unfold RS at hS
  have hn := hB.1
  refine ms_X12_times _ _ _ (fun G g76 => ?_)
  have c125 : ¬ (125 : Int32) = -1 := by decide
  have c123 : ¬ (123 : Int32) = -1 := by decide
  -- the repetition itself
  have loop : ∀ (beg : Nat) (r k : Nat) (N : Int32) (ν : Mi) (Y : Ps × Es), k < 2 ^ 31 → k + r < 2 ^ 31 → (∀ k', k' < 2 ^ 31 → ((if meant = 0 then 1 else N) ≤ nI k' ↔ k + r ≤ k')) → PR μ ν n Y → PB n Y.1 → good Y.2.2.2.2.2.2 → (¬ r = 0 → ¬ dd = 0 ∨ ¬ Y.1.2.1 = 0) → beg ≤ 400 → (Y.1.2.1 = 0 → beg ≤ n) → beg ≤ Y.1.1 → (∀ ν', PR μ ν' n (rep (μ 2745) n beg body r Y) → PB n (rep (μ 2745) n beg body r Y).1 → good (rep (μ 2745) n beg body r Y).2.2.2.2.2.2 → beg ≤ (rep (μ 2745) n beg body r Y).1.1 → Rp none S ν' ρ) → G 76 [.ref 2737, .int (nI (3 - dd)), .int meant, .int N, .int (nI beg), .int (nI k)] [] S (0, 0) ν ρ := by
    intro beg r
    induction r with
    | zero =>
      intro k N ν Y hk hkr hN hY hYB hYg _ _ _ hle hq
      refine g76 _ _ _ _ _ _ ?_
      have hN' := (hN k (by omega)).mpr (by omega)
      simp only [w_X12_times_76, w_X12_times_86, w_X12_times_87, w_X12_times_144, tAload, tIload, nth, tGetI, tGetR, tConst, tLconst, tBin, tUn, tI2l, tAld, tAldR, tAlen, tIast, tBast, tZast, tAast, tIret, tZret, tVret, tAret, tIf, tIf2, tGoto, tIstore, tAstore, sset, tIinc, tDup, tDup2, tPop, tPutI, tPutZ, tPutR, tCallV, tCallS, popN, tFn, tCopy, tMax, tMin, tSw, swc, tRem, tObjI, Option.toList, List.nil_append, List.cons_append, okR, true_and, and_true, true_or, or_true, Nat.zero_le, ne_eq, not_false_eq_true, Nat.reduceEqDiff]
      refine ⟨fun c => ?_, fun c => ?_⟩
      · rw [if_pos c] at hN'
        exact ⟨fun _ => hq ν hY hYB hYg hle, fun z => absurd hN' z⟩
      · rw [if_neg c] at hN'
        exact ⟨fun _ => hq ν hY hYB hYg hle, fun z => absurd hN' z⟩
    | succ r ih =>
      intro k N ν Y hk hkr hN hY hYB hYg hd0 hbeg hbn hle hq
      refine g76 _ _ _ _ _ _ ?_
      have hN' : ¬ (if meant = 0 then 1 else N) ≤ nI k := fun z => by
        have := (hN k (by omega)).mp z
        omega
      have e17 : ν 2737 17 = Y.1.2.1 := hY.2.2.2.2.2.1
      have e26 : ν 2737 26 = Y.2.1 := hY.2.2.2.2.2.2.2.1
      have stop : ¬ Y.1.2.1 = 0 ∨ ¬ Y.2.1 = 0 → Rp none S ν ρ := by
        intro z
        have := hq ν
        rw [rep_w z] at this
        exact this hY hYB hYg hle
      have main : w_X12_times_87 (MS Z (d + 39)) G Rp [.ref 2737, .int (nI (3 - dd)), .int meant, .int N, .int (nI beg), .int (nI k)] [.int (if meant = 0 then 1 else N), .int (nI k)] S (0, 0) ν ρ := by
        simp only [w_X12_times_87, w_X12_times_144, tAload, tIload, nth, tGetI, tGetR, tConst, tLconst, tBin, tUn, tI2l, tAld, tAldR, tAlen, tIast, tBast, tZast, tAast, tIret, tZret, tVret, tAret, tIf, tIf2, tGoto, tIstore, tAstore, sset, tIinc, tDup, tDup2, tPop, tPutI, tPutZ, tPutR, tCallV, tCallS, popN, tFn, tCopy, tMax, tMin, tSw, swc, tRem, tObjI, Option.toList, List.nil_append, List.cons_append, okR, true_and, and_true, true_or, or_true, Nat.zero_le, ne_eq, not_false_eq_true, Nat.reduceEqDiff, hS, e17, e26, Decidable.not_not]
        refine ⟨fun z => absurd z hN', fun _ => ⟨fun z => stop (Or.inl z), fun z1 => ⟨fun z => stop (Or.inr z), fun z2 => ?_⟩⟩⟩
        have hdd0 : ¬ dd = 0 := (hd0 (by omega)).elim id (fun z => absurd z1 z)
        have hPR1 : PR μ (upI ν 2737 16 (nI beg)) n ((beg, Y.1.2), Y.2) := by
          rw [upI_upF]
          exact PR_F hY (fun f q1 _ _ _ _ => up_ne q1) up_at (by rw [up_ne (by decide)]; exact e17) (by rw [up_ne (by decide)]; exact hY.2.2.2.2.2.2.1)
        refine hbody hdd0 _ _ _ hPR1 ⟨hn, hbeg, fun z => hbn z⟩ hYg (fun ν' p1 p2 p3 p4 => ?_)
        rw [rep_s, if_neg (fun z => z.elim (fun z => z z1) (fun z => z z2))] at hq
        have p4 : beg ≤ (body ((beg, Y.1.2), Y.2)).1.1 := p4
        generalize hYb : body ((beg, Y.1.2), Y.2) = Y' at *
        have f17 : ν' 2737 17 = Y'.1.2.1 := p1.2.2.2.2.2.1
        have f26 : ν' 2737 26 = Y'.2.1 := p1.2.2.2.2.2.2.2.1
        have next : ∀ (ν'' : Mi) (Y'' : Ps × Es), PR μ ν'' n Y'' → PB n Y''.1 → good Y''.2.2.2.2.2.2 → beg ≤ Y''.1.1 → (Y'' = if ¬ Y'.2.1 = 0 ∨ ¬ Y'.1.2.1 = 0 then Y' else (pSign (μ 2745) n 125 Y'.1, Y'.2)) → w_X12_times_138 (MS Z (d + 39)) G Rp [.ref 2737, .int (nI (3 - dd)), .int meant, .int N, .int (nI beg), .int (nI k)] [] S (0, 0) ν'' ρ := by
          intro ν'' Y'' r1 r2 r3 r5 r4
          rw [← r4] at hq
          simp only [w_X12_times_138, tAload, tIload, nth, tGetI, tGetR, tConst, tLconst, tBin, tUn, tI2l, tAld, tAldR, tAlen, tIast, tBast, tZast, tAast, tIret, tZret, tVret, tAret, tIf, tIf2, tGoto, tIstore, tAstore, sset, tIinc, tDup, tDup2, tPop, tPutI, tPutZ, tPutR, tCallV, tCallS, popN, tFn, tCopy, tMax, tMin, tSw, swc, tRem, tObjI, Option.toList, List.nil_append, List.cons_append, okR, true_and, and_true, true_or, or_true, Nat.zero_le, ne_eq, not_false_eq_true, Nat.reduceEqDiff, nI_1]
          refine ih (k + 1) N ν'' Y'' (by omega) (by omega) (fun k' hk' => by rw [hN k' hk']; omega) r1 r2 r3 (fun _ => Or.inl hdd0) hbeg (fun _ => hbn z1) r5 hq
        simp only [tAload, tIload, nth, tGetI, tGetR, tConst, tLconst, tBin, tUn, tI2l, tAld, tAldR, tAlen, tIast, tBast, tZast, tAast, tIret, tZret, tVret, tAret, tIf, tIf2, tGoto, tIstore, tAstore, sset, tIinc, tDup, tDup2, tPop, tPutI, tPutZ, tPutR, tCallV, tCallS, popN, tFn, tCopy, tMax, tMin, tSw, swc, tRem, tObjI, Option.toList, List.nil_append, List.cons_append, okR, true_and, and_true, true_or, or_true, Nat.zero_le, ne_eq, not_false_eq_true, Nat.reduceEqDiff, hS, F_X12_sign, hS0, f17, f26]
        refine ⟨fun z => next _ _ p1 p2 p3 p4 (by rw [if_pos (Or.inl z)]), fun z3 => ⟨fun z => next _ _ p1 p2 p3 p4 (by rw [if_pos (Or.inr z)]), fun z4 => ?_⟩⟩
        have hs := PR_sign (c := 125) p1 p2 (by have := p2.2.2 z4; omega) c125
        exact ⟨PR_sp p1 p2, next _ _ hs.1 hs.2 p3 (by have := (blk_le (T := μ 2745) (n := n) (p := Y'.1.1)).1; show beg ≤ blk _ _ _ + 1; omega) (by rw [if_neg (fun z => z.elim (fun z => z z3) (fun z => z z4))])⟩
      simp only [w_X12_times_76, w_X12_times_86, tAload, tIload, nth, tGetI, tGetR, tConst, tLconst, tBin, tUn, tI2l, tAld, tAldR, tAlen, tIast, tBast, tZast, tAast, tIret, tZret, tVret, tAret, tIf, tIf2, tGoto, tIstore, tAstore, sset, tIinc, tDup, tDup2, tPop, tPutI, tPutZ, tPutR, tCallV, tCallS, popN, tFn, tCopy, tMax, tMin, tSw, swc, tRem, tObjI, Option.toList, List.nil_append, List.cons_append, okR, true_and, and_true, true_or, or_true, Nat.zero_le, ne_eq, not_false_eq_true, Nat.reduceEqDiff]
      refine ⟨fun c => ?_, fun c => ?_⟩
      · rw [if_pos c] at main; exact main
      · rw [if_neg c] at main; exact main
  have hnum := PR_num (b := 0) hP hB (by omega)
  have hnp : (pNum (μ 2745) n 0 X.1).1 ≤ n := by have := hnum.2.2.2.2; omega
  -- behind the bracket
  have t61 : ∀ (ν : Mi) (w3 : Int32 × Int32) (v4 v5 : Value), PR μ ν n ((blk (μ 2745) n (pNum (μ 2745) n 0 X.1).1, w3), X.2) → PB n (blk (μ 2745) n (pNum (μ 2745) n 0 X.1).1, w3) → pSign (μ 2745) n 123 (blk (μ 2745) n (pNum (μ 2745) n 0 X.1).1, w3) = tHead (μ 2745) n dd X.1 → w_X12_times_61 (MS Z (d + 39)) G Rp [.ref 2737, .int (nI (3 - dd)), .int meant, .int (pNumV (μ 2745) n 0 X.1), v4, v5] [] S (0, 0) ν ρ := by
    intro ν w3 v4 v5 r1 r2 r3
    have hbl := blk_le (T := μ 2745) (n := n) (p := (pNum (μ 2745) n 0 X.1).1)
    have hs := PR_sign (c := 123) r1 r2 (by show blk _ _ _ ≤ 399; omega) c123
    rw [show ((blk (μ 2745) n (pNum (μ 2745) n 0 X.1).1, w3), X.2).1 = (blk (μ 2745) n (pNum (μ 2745) n 0 X.1).1, w3) from rfl, r3] at hs
    have e16 : upF ν 2737 (qSign (ν 2745) (ν 2737) 123) 2737 16 = nI (tHead (μ 2745) n dd X.1).1 := hs.1.2.2.2.2.1
    simp only [w_X12_times_61, tAload, tIload, nth, tGetI, tGetR, tConst, tLconst, tBin, tUn, tI2l, tAld, tAldR, tAlen, tIast, tBast, tZast, tAast, tIret, tZret, tVret, tAret, tIf, tIf2, tGoto, tIstore, tAstore, sset, tIinc, tDup, tDup2, tPop, tPutI, tPutZ, tPutR, tCallV, tCallS, popN, tFn, tCopy, tMax, tMin, tSw, swc, tRem, tObjI, Option.toList, List.nil_append, List.cons_append, okR, true_and, and_true, true_or, or_true, Nat.zero_le, ne_eq, not_false_eq_true, Nat.reduceEqDiff, F_X12_sign, hS0, hS, e16]
    refine ⟨PR_sp r1 r2, ?_⟩
    have hN : ∀ k', k' < 2 ^ 31 → ((if meant = 0 then 1 else pNumV (μ 2745) n 0 X.1) ≤ nI k' ↔ 0 + (if meant = 0 then 1 else (pNumV (μ 2745) n 0 X.1).toNatClampNeg) ≤ k') := by
      intro k' hk'
      by_cases c : meant = 0
      · rw [if_pos c, if_pos c, show (1 : Int32) = nI 1 from rfl, nI_leI (by decide) hk']
      · rw [if_neg c, if_neg c, Int32.le_iff_toInt_le, nI_toInt hk']
        show _ ↔ 0 + (pNumV (μ 2745) n 0 X.1).toInt.toNat ≤ k'
        omega
    have hr : (if meant = 0 then 1 else (pNumV (μ 2745) n 0 X.1).toNatClampNeg) < 2 ^ 31 := by
      by_cases c : meant = 0
      · rw [if_pos c]; decide
      · rw [if_neg c]
        show (pNumV (μ 2745) n 0 X.1).toInt.toNat < 2 ^ 31
        have := Int32.toInt_lt (pNumV (μ 2745) n 0 X.1)
        omega
    refine loop _ _ 0 _ _ (tHead (μ 2745) n dd X.1, X.2) (by decide) (by omega) hN hs.1 hs.2 hg (fun _ => ?_) hs.2.2.1 (fun z => hs.2.2.2 z) (Nat.le_refl _) (fun ν' a1 a2 a3 a4 => h ν' a1 a2 a3 (Nat.le_trans ?_ a4))
    rotate_left
    · rw [← r3]
      have q1 := (blk_le (T := μ 2745) (n := n) (p := blk (μ 2745) n (pNum (μ 2745) n 0 X.1).1)).1
      have q2 := pNum_ge (T := μ 2745) (n := n) (b := 0) (P := X.1)
      show X.1.1 ≤ blk _ _ (blk _ _ _) + 1
      omega
    by_cases c : dd = 0
    · right
      rw [c]
      exact head_w
    · exact Or.inl c
  have t34 : ∀ (ν : Mi) (w2 : Int32 × Int32) (v4 v5 : Value), PR μ ν n (((pNum (μ 2745) n 0 X.1).1, w2), X.2) → PB n ((pNum (μ 2745) n 0 X.1).1, w2) → w2 = (if ¬ (pNum (μ 2745) n 0 X.1).2.1 = 0 ∨ rgd (pNumV (μ 2745) n 0 X.1) 1 50 then (pNum (μ 2745) n 0 X.1).2 else fl (pNum (μ 2745) n 0 X.1).2.1 (pNum (μ 2745) n 0 X.1).2.2 2 (nI (pBeg (μ 2745) n 0 X.1.1))) → w_X12_times_34 (MS Z (d + 39)) G Rp [.ref 2737, .int (nI (3 - dd)), .int meant, .int (pNumV (μ 2745) n 0 X.1), v4, v5] [] S (0, 0) ν ρ := by
    intro ν w2 v4 v5 r1 r2 r3
    have hbl := PR_blanks r1 r2
    have hc := PR_c hbl.1 hbl.2
    have hT := (PR_T hbl.1).1
    have e16 := hbl.1.2.2.2.2.1
    have hbl2 := blk_le (T := μ 2745) (n := n) (p := (pNum (μ 2745) n 0 X.1).1)
    have ecl : (nI (blk (μ 2745) n (pNum (μ 2745) n 0 X.1).1)).toNatClampNeg = blk (μ 2745) n (pNum (μ 2745) n 0 X.1).1 := nI_clamp (by omega)
    simp only [w_X12_times_34, tAload, tIload, nth, tGetI, tGetR, tConst, tLconst, tBin, tUn, tI2l, tAld, tAldR, tAlen, tIast, tBast, tZast, tAast, tIret, tZret, tVret, tAret, tIf, tIf2, tGoto, tIstore, tAstore, sset, tIinc, tDup, tDup2, tPop, tPutI, tPutZ, tPutR, tCallV, tCallS, popN, tFn, tCopy, tMax, tMin, tSw, swc, tRem, tObjI, Option.toList, List.nil_append, List.cons_append, okR, true_and, and_true, true_or, or_true, Nat.zero_le, ne_eq, not_false_eq_true, Nat.reduceEqDiff, F_X12_blanks, F_X12_see, F_X12_fails, hS0, hS, hc.1, hc.2, hT, e16, ecl]
    refine ⟨PR_sp r1 r2, PR_sp hbl.1 hbl.2, fun c => ?_, fun c => ⟨fun c2 => ?_, fun c2 => ?_⟩⟩
    · refine t61 _ w2 _ _ hbl.1 hbl.2 ?_
      unfold tHead
      simp only [← r3]
      rw [if_pos (Or.inl c)]
    · refine t61 _ w2 _ _ hbl.1 hbl.2 ?_
      unfold tHead
      simp only [← r3]
      rw [if_pos (Or.inr ((nI_30 hdd).mp c2))]
    · have hf := PR_fails (c := 3) (p := nI (blk (μ 2745) n (pNum (μ 2745) n 0 X.1).1)) hbl.1 hbl.2 (by decide)
      refine t61 _ _ _ _ hf.1 hf.2 ?_
      unfold tHead
      simp only [← r3]
      rw [if_neg (fun z => z.elim c (fun z => c2 ((nI_30 hdd).mpr z)))]
  have e17 : upF ν 2737 (qNum (ν 2745) (ν 2737) 0).2 2737 17 = (pNum (μ 2745) n 0 X.1).2.1 := hnum.1.2.2.2.2.2.1
  have e25 : upF ν 2737 (qNum (ν 2745) (ν 2737) 0).2 2737 25 = nI (pBeg (μ 2745) n 0 X.1.1) := by rw [upF_same]; exact hnum.2.2.2.1
  simp only [w_X12_times_0, tAload, tIload, nth, tGetI, tGetR, tConst, tLconst, tBin, tUn, tI2l, tAld, tAldR, tAlen, tIast, tBast, tZast, tAast, tIret, tZret, tVret, tAret, tIf, tIf2, tGoto, tIstore, tAstore, sset, tIinc, tDup, tDup2, tPop, tPutI, tPutZ, tPutR, tCallV, tCallS, popN, tFn, tCopy, tMax, tMin, tSw, swc, tRem, tObjI, Option.toList, List.nil_append, List.cons_append, okR, true_and, and_true, true_or, or_true, Nat.zero_le, ne_eq, not_false_eq_true, Nat.reduceEqDiff, F_X12_number, F_X12_within, F_X12_fails, hS0, hS, e17, e25, hnum.2.2.1, b2_z, Decidable.not_not, l_leC, l_geC, il_1, show Int64.toInt 50 = 50 from by decide]
  refine ⟨PR_sp hP hB, fun c => ?_, fun c => ⟨fun c2 => ?_, fun c2 => ?_⟩⟩
  · exact t34 _ (pNum (μ 2745) n 0 X.1).2 _ _ hnum.1 hnum.2.1 (by rw [if_pos (Or.inl c)])
  · exact t34 _ (pNum (μ 2745) n 0 X.1).2 _ _ hnum.1 hnum.2.1 (by rw [if_pos (Or.inr c2)])
  · have hf := PR_fails (c := 2) (p := nI (pBeg (μ 2745) n 0 X.1.1)) hnum.1 hnum.2.1 (by decide)
    exact t34 _ _ _ _ hf.1 hf.2 (by rw [if_neg (fun z => z.elim (fun z => z c) c2)])
