/-! ===== the reference: could ===== -/
theorem sim_rf {μ : Mi} : sim μ μ := ⟨fun _ _ _ _ _ _ _ => rfl, fun _ _ _ => rfl⟩
theorem sim_tr {μ ν ξ : Mi} (h1 : sim μ ν) (h2 : sim ν ξ) : sim μ ξ := ⟨fun a q1 q2 q3 q4 q5 q6 => (h2.1 a q1 q2 q3 q4 q5 q6).trans (h1.1 a q1 q2 q3 q4 q5 q6), fun f q1 q2 => (h2.2 f q1 q2).trans (h1.2 f q1 q2)⟩
def lpC (f : Rw → Int32) (A : Rw) : Nat → Nat → Int32 := fun m k => match m with
  | 0 => 0
  | m + 1 => if k < (A 4510).toNatClampNeg then (if f (qComes A k) = 0 then lpC f A m (k + 1) else 1) else if canT A (k - (A 4510).toNatClampNeg) then (if f (qAsks A (k - (A 4510).toNatClampNeg)) = 0 then lpC f A m (k + 1) else 1) else lpC f A m (k + 1)
theorem lpC_s {f : Rw → Int32} {A : Rw} {m k : Nat} : lpC f A (m + 1) k = if k < (A 4510).toNatClampNeg then (if f (qComes A k) = 0 then lpC f A m (k + 1) else 1) else if canT A (k - (A 4510).toNatClampNeg) then (if f (qAsks A (k - (A 4510).toNatClampNeg)) = 0 then lpC f A m (k + 1) else 1) else lpC f A m (k + 1) := rfl
def bC (s : Nat) : Nat → Rw → Int32 := fun n A => match n with
  | 0 => if A (514 * s + 3) = 2 then 1 else 0
  | n + 1 => if A (514 * s + 3) = 2 then 1 else lpC (bC s n) A ((A 4510).toNatClampNeg + 5) 0
theorem bC_s {s n : Nat} {A : Rw} : bC s (n + 1) A = if A (514 * s + 3) = 2 then 1 else lpC (bC s n) A ((A 4510).toNatClampNeg + 5) 0 := rfl
theorem lpC_01 {f : Rw → Int32} {A : Rw} : ∀ {m k : Nat}, lpC f A m k = 0 ∨ lpC f A m k = 1 := by
  intro m
  induction m with
  | zero => intro k; exact Or.inl rfl
  | succ m ih =>
    intro k
    rw [lpC_s]
    split
    · split
      · exact ih
      · exact Or.inr rfl
    · split
      · split
        · exact ih
        · exact Or.inr rfl
      · exact ih
theorem bC_01 {s n : Nat} {A : Rw} : bC s n A = 0 ∨ bC s n A = 1 := by
  cases n with
  | zero => show (if _ then _ else _) = _ ∨ (if _ then _ else _) = _; split <;> simp
  | succ n =>
    rw [bC_s]
    split
    · exact Or.inr rfl
    · exact lpC_01
theorem steps_back {A B X : Rw} {m : Nat} (h : Hi A B) (hX : ∀ i, i < 4516 → X (m + i) = A i) : cpF X B m 0 4516 = A := by
  funext i
  unfold cpF
  by_cases c : 0 ≤ i ∧ i < 0 + 4516
  · rw [if_pos c, Nat.sub_zero]
    exact hX i (by omega)
  · rw [if_neg c]
    exact h i (by omega)
def w_X12_canLead_145 (M : CT) (G : Nat → PT) (Rp : RT) : PT := tIload 4 <| tZret Rp
def w_X12_canLead_139 (M : CT) (G : Nat → PT) (Rp : RT) : PT := tIinc 5 1 <| tGoto (G 51)
def w_X12_canLead_109 (M : CT) (G : Nat → PT) (Rp : RT) : PT := tAload 0 <| tIload 1 <| tIload 2 <| tConst 1 <| tBin (fun x y => x - y) <| tCallV M jX12_canLead 12 27 2 <| tIstore 4 <| tAload 0 <| tGetR 12 27 5 <| tConst 4516 <| tIload 2 <| tBin (fun x y => x * y) <| tAload 0 <| tGetR 12 27 1 <| tConst 0 <| tConst 4516 <| tFn 5 F_X12_copies <| w_X12_canLead_139 M G Rp
def w_X12_canLead_101 (M : CT) (G : Nat → PT) (Rp : RT) : PT := tAload 0 <| tIload 5 <| tIload 3 <| tBin (fun x y => x - y) <| tFn 2 F_X12_asks <| w_X12_canLead_109 M G Rp
def w_X12_canLead_84 (M : CT) (G : Nat → PT) (Rp : RT) : PT := tIload 5 <| tIload 3 <| tIf2 (fun x y => y ≤ x) (w_X12_canLead_101 M G Rp) <| tAload 0 <| tIload 5 <| tFn 2 F_X12_comes <| tIstore 6 <| tGoto (w_X12_canLead_109 M G Rp)
def w_X12_canLead_51 (M : CT) (G : Nat → PT) (Rp : RT) : PT := tIload 5 <| tIload 3 <| tConst 5 <| tBin (fun x y => x + y) <| tIf2 (fun x y => y ≤ x) (w_X12_canLead_145 M G Rp) <| tIload 4 <| tIf (fun x => x ≠ 0) (w_X12_canLead_145 M G Rp) <| tIload 5 <| tIload 3 <| tIf2 (fun x y => x < y) (w_X12_canLead_84 M G Rp) <| tAload 0 <| tIload 5 <| tIload 3 <| tBin (fun x y => x - y) <| tFn 2 F_X12_whyNot <| tIf (fun x => x = 0) (w_X12_canLead_84 M G Rp) <| tGoto (w_X12_canLead_139 M G Rp)
def w_X12_canLead_16 (M : CT) (G : Nat → PT) (Rp : RT) : PT := tAload 0 <| tGetR 12 27 1 <| tConst 0 <| tAload 0 <| tGetR 12 27 5 <| tConst 4516 <| tIload 2 <| tBin (fun x y => x * y) <| tConst 4516 <| tFn 5 F_X12_copies <| tAload 0 <| tGetR 12 27 1 <| tConst 4510 <| tAld 20 <| tIstore 3 <| tConst 0 <| tIstore 4 <| tConst 0 <| tIstore 5 <| G 51
def w_X12_canLead_10 (M : CT) (G : Nat → PT) (Rp : RT) : PT := tIload 2 <| tIf (fun x => x ≠ 0) (w_X12_canLead_16 M G Rp) <| tConst 0 <| tZret Rp
def w_X12_canLead_0 (M : CT) (G : Nat → PT) (Rp : RT) : PT := tAload 0 <| tIload 1 <| tFn 2 F_X12_isLeader <| tIf (fun x => x = 0) (w_X12_canLead_10 M G Rp) <| tConst 1 <| tZret Rp
set_option maxRecDepth 20000 in
theorem b_X12_canLead_145 {Z : Zt} {d : Nat} {p : Program} {e : Env} {R : Room} {s : State} {m : MethodId} {args : Array Value} {below : List Frame} {meth : Method} {c : Code} {Rp : RT} (C : Cx Z (d + 11) jX12_canLead RX12 p R s m args meth c) : Sd Z jX12_canLead p e R s m args below meth c (MQ below (QcS Z Rp) args s 0 0 (fun a => Z.2.2.1 < a)) 145 (w_X12_canLead_145 (MS Z (d + 11)) (Gw Z 7 p e R s m args below meth c (MQ below (QcS Z Rp) args s 0 0 (fun a => Z.2.2.1 < a))) Rp) := by
  unfold w_X12_canLead_145
  refine s_iload (k := 4) C (by decide +kernel) ?_
  exact s_zret C rfl (by decide +kernel)
set_option maxRecDepth 20000 in
theorem b_X12_canLead_139 {Z : Zt} {d : Nat} {p : Program} {e : Env} {R : Room} {s : State} {m : MethodId} {args : Array Value} {below : List Frame} {meth : Method} {c : Code} {Rp : RT} (C : Cx Z (d + 11) jX12_canLead RX12 p R s m args meth c) : Sd Z jX12_canLead p e R s m args below meth c (MQ below (QcS Z Rp) args s 0 0 (fun a => Z.2.2.1 < a)) 139 (w_X12_canLead_139 (MS Z (d + 11)) (Gw Z 7 p e R s m args below meth c (MQ below (QcS Z Rp) args s 0 0 (fun a => Z.2.2.1 < a))) Rp) := by
  unfold w_X12_canLead_139
  refine s_iinc (n := 1) C (by decide +kernel) (by decide) ?_
  exact s_goto (off := (-91)) (tgt := 51) C (by decide +kernel) (by decide) (fun _ _ _ _ _ _ h => h)
set_option maxRecDepth 20000 in
theorem b_X12_canLead_109 {Z : Zt} {d : Nat} {p : Program} {e : Env} {R : Room} {s : State} {m : MethodId} {args : Array Value} {below : List Frame} {meth : Method} {c : Code} {Rp : RT} (C : Cx Z (d + 11) jX12_canLead RX12 p R s m args meth c) : Sd Z jX12_canLead p e R s m args below meth c (MQ below (QcS Z Rp) args s 0 0 (fun a => Z.2.2.1 < a)) 109 (w_X12_canLead_109 (MS Z (d + 11)) (Gw Z 7 p e R s m args below meth c (MQ below (QcS Z Rp) args s 0 0 (fun a => Z.2.2.1 < a))) Rp) := by
  unfold w_X12_canLead_109
  refine s_aload_n (k := 0) C (by decide +kernel) ?_
  refine s_iload_n (k := 1) C (by decide +kernel) ?_
  refine s_iload_n (k := 2) C (by decide +kernel) ?_
  refine s_iconst (n := 1) C (by decide +kernel) (by decide) ?_
  refine s_isub C (by decide +kernel) ?_
  refine s_callV C rfl rfl (by decide +kernel) rfl w_8_229 w_8_231 w_p8_9 w_1_13 w_8_232 (by decide +kernel) ?_
  refine s_istore (k := 4) C (by decide +kernel) ?_
  refine s_aload_n (k := 0) C (by decide +kernel) ?_
  refine s_getR C w_6_92 (by decide +kernel) rfl ?_
  refine s_sipush (n := 4516) C (by decide +kernel) (by decide) ?_
  refine s_iload_n (k := 2) C (by decide +kernel) ?_
  refine s_imul C (by decide +kernel) ?_
  refine s_aload_n (k := 0) C (by decide +kernel) ?_
  refine s_getR C w_6_88 (by decide +kernel) rfl ?_
  refine s_iconst (n := 0) C (by decide +kernel) (by decide) ?_
  refine s_sipush (n := 4516) C (by decide +kernel) (by decide) ?_
  refine s_fnS C (j2 := jX12_copies) (by decide +kernel) rfl w_6_182 w_6_183 w_1_13 w_6_184 (by decide +kernel) (fun _ _ _ _ _ h => f_X12_copies h) ?_
  exact (b_X12_canLead_139 C)
set_option maxRecDepth 20000 in
theorem b_X12_canLead_101 {Z : Zt} {d : Nat} {p : Program} {e : Env} {R : Room} {s : State} {m : MethodId} {args : Array Value} {below : List Frame} {meth : Method} {c : Code} {Rp : RT} (C : Cx Z (d + 11) jX12_canLead RX12 p R s m args meth c) : Sd Z jX12_canLead p e R s m args below meth c (MQ below (QcS Z Rp) args s 0 0 (fun a => Z.2.2.1 < a)) 101 (w_X12_canLead_101 (MS Z (d + 11)) (Gw Z 7 p e R s m args below meth c (MQ below (QcS Z Rp) args s 0 0 (fun a => Z.2.2.1 < a))) Rp) := by
  unfold w_X12_canLead_101
  refine s_aload_n (k := 0) C (by decide +kernel) ?_
  refine s_iload (k := 5) C (by decide +kernel) ?_
  refine s_iload_n (k := 3) C (by decide +kernel) ?_
  refine s_isub C (by decide +kernel) ?_
  refine s_fnV C (j2 := jX12_asks) (cl := 12) (nf := 27) rfl rfl (by decide +kernel) rfl w_7_3 w_7_5 w_p4_0 w_1_13 w_7_6 (by decide +kernel) (fun _ _ _ _ _ h => f_X12_asks h) (fun _ _ _ _ _ h => r_X12_asks h) ?_
  exact (b_X12_canLead_109 C)
set_option maxRecDepth 20000 in
theorem b_X12_canLead_84 {Z : Zt} {d : Nat} {p : Program} {e : Env} {R : Room} {s : State} {m : MethodId} {args : Array Value} {below : List Frame} {meth : Method} {c : Code} {Rp : RT} (C : Cx Z (d + 11) jX12_canLead RX12 p R s m args meth c) : Sd Z jX12_canLead p e R s m args below meth c (MQ below (QcS Z Rp) args s 0 0 (fun a => Z.2.2.1 < a)) 84 (w_X12_canLead_84 (MS Z (d + 11)) (Gw Z 7 p e R s m args below meth c (MQ below (QcS Z Rp) args s 0 0 (fun a => Z.2.2.1 < a))) Rp) := by
  unfold w_X12_canLead_84
  refine s_iload (k := 5) C (by decide +kernel) ?_
  refine s_iload_n (k := 3) C (by decide +kernel) ?_
  refine s_icmp_ge (off := 14) (tgt := 101) C (by decide +kernel) (by decide) (b_X12_canLead_101 C) ?_
  refine s_aload_n (k := 0) C (by decide +kernel) ?_
  refine s_iload (k := 5) C (by decide +kernel) ?_
  refine s_fnV C (j2 := jX12_comes) (cl := 12) (nf := 27) rfl rfl (by decide +kernel) rfl w_7_172 w_7_174 w_p5_13 w_1_13 w_7_175 (by decide +kernel) (fun _ _ _ _ _ h => f_X12_comes h) (fun _ _ _ _ _ h => r_X12_comes h) ?_
  refine s_istore (k := 6) C (by decide +kernel) ?_
  exact s_goto (off := 11) (tgt := 109) C (by decide +kernel) (by decide) (b_X12_canLead_109 C)
set_option maxRecDepth 20000 in
theorem b_X12_canLead_51 {Z : Zt} {d : Nat} {p : Program} {e : Env} {R : Room} {s : State} {m : MethodId} {args : Array Value} {below : List Frame} {meth : Method} {c : Code} {Rp : RT} (C : Cx Z (d + 11) jX12_canLead RX12 p R s m args meth c) : Sd Z jX12_canLead p e R s m args below meth c (MQ below (QcS Z Rp) args s 0 0 (fun a => Z.2.2.1 < a)) 51 (w_X12_canLead_51 (MS Z (d + 11)) (Gw Z 7 p e R s m args below meth c (MQ below (QcS Z Rp) args s 0 0 (fun a => Z.2.2.1 < a))) Rp) := by
  unfold w_X12_canLead_51
  refine s_iload (k := 5) C (by decide +kernel) ?_
  refine s_iload_n (k := 3) C (by decide +kernel) ?_
  refine s_iconst (n := 5) C (by decide +kernel) (by decide) ?_
  refine s_iadd C (by decide +kernel) ?_
  refine s_icmp_ge (off := 89) (tgt := 145) C (by decide +kernel) (by decide) (b_X12_canLead_145 C) ?_
  refine s_iload (k := 4) C (by decide +kernel) ?_
  refine s_if_ne (off := 84) (tgt := 145) C (by decide +kernel) (by decide) (b_X12_canLead_145 C) ?_
  refine s_iload (k := 5) C (by decide +kernel) ?_
  refine s_iload_n (k := 3) C (by decide +kernel) ?_
  refine s_icmp_lt (off := 17) (tgt := 84) C (by decide +kernel) (by decide) (b_X12_canLead_84 C) ?_
  refine s_aload_n (k := 0) C (by decide +kernel) ?_
  refine s_iload (k := 5) C (by decide +kernel) ?_
  refine s_iload_n (k := 3) C (by decide +kernel) ?_
  refine s_isub C (by decide +kernel) ?_
  refine s_fnV C (j2 := jX12_whyNot) (cl := 12) (nf := 27) rfl rfl (by decide +kernel) rfl w_6_212 w_6_214 w_p3_9 w_1_13 w_6_215 (by decide +kernel) (fun _ _ _ _ _ h => f_X12_whyNot h) (fun _ _ _ _ _ h => r_X12_whyNot h) ?_
  refine s_if_eq (off := 6) (tgt := 84) C (by decide +kernel) (by decide) (b_X12_canLead_84 C) ?_
  exact s_goto (off := 58) (tgt := 139) C (by decide +kernel) (by decide) (b_X12_canLead_139 C)
set_option maxRecDepth 20000 in
theorem b_X12_canLead_16 {Z : Zt} {d : Nat} {p : Program} {e : Env} {R : Room} {s : State} {m : MethodId} {args : Array Value} {below : List Frame} {meth : Method} {c : Code} {Rp : RT} (C : Cx Z (d + 11) jX12_canLead RX12 p R s m args meth c) : Sd Z jX12_canLead p e R s m args below meth c (MQ below (QcS Z Rp) args s 0 0 (fun a => Z.2.2.1 < a)) 16 (w_X12_canLead_16 (MS Z (d + 11)) (Gw Z 7 p e R s m args below meth c (MQ below (QcS Z Rp) args s 0 0 (fun a => Z.2.2.1 < a))) Rp) := by
  unfold w_X12_canLead_16
  refine s_aload_n (k := 0) C (by decide +kernel) ?_
  refine s_getR C w_6_88 (by decide +kernel) rfl ?_
  refine s_iconst (n := 0) C (by decide +kernel) (by decide) ?_
  refine s_aload_n (k := 0) C (by decide +kernel) ?_
  refine s_getR C w_6_92 (by decide +kernel) rfl ?_
  refine s_sipush (n := 4516) C (by decide +kernel) (by decide) ?_
  refine s_iload_n (k := 2) C (by decide +kernel) ?_
  refine s_imul C (by decide +kernel) ?_
  refine s_sipush (n := 4516) C (by decide +kernel) (by decide) ?_
  refine s_fnS C (j2 := jX12_copies) (by decide +kernel) rfl w_6_182 w_6_183 w_1_13 w_6_184 (by decide +kernel) (fun _ _ _ _ _ h => f_X12_copies h) ?_
  refine s_aload_n (k := 0) C (by decide +kernel) ?_
  refine s_getR C w_6_88 (by decide +kernel) rfl ?_
  refine s_sipush (n := 4510) C (by decide +kernel) (by decide) ?_
  refine s_iald C (by decide +kernel) ?_
  refine s_istore_n (k := 3) C (by decide +kernel) ?_
  refine s_iconst (n := 0) C (by decide +kernel) (by decide) ?_
  refine s_istore (k := 4) C (by decide +kernel) ?_
  refine s_iconst (n := 0) C (by decide +kernel) (by decide) ?_
  refine s_istore (k := 5) C (by decide +kernel) ?_
  exact (fun _ _ _ _ _ _ h => h)
set_option maxRecDepth 20000 in
theorem b_X12_canLead_10 {Z : Zt} {d : Nat} {p : Program} {e : Env} {R : Room} {s : State} {m : MethodId} {args : Array Value} {below : List Frame} {meth : Method} {c : Code} {Rp : RT} (C : Cx Z (d + 11) jX12_canLead RX12 p R s m args meth c) : Sd Z jX12_canLead p e R s m args below meth c (MQ below (QcS Z Rp) args s 0 0 (fun a => Z.2.2.1 < a)) 10 (w_X12_canLead_10 (MS Z (d + 11)) (Gw Z 7 p e R s m args below meth c (MQ below (QcS Z Rp) args s 0 0 (fun a => Z.2.2.1 < a))) Rp) := by
  unfold w_X12_canLead_10
  refine s_iload_n (k := 2) C (by decide +kernel) ?_
  refine s_if_ne (off := 5) (tgt := 16) C (by decide +kernel) (by decide) (b_X12_canLead_16 C) ?_
  refine s_iconst (n := 0) C (by decide +kernel) (by decide) ?_
  exact s_zret C rfl (by decide +kernel)
set_option maxRecDepth 20000 in
theorem b_X12_canLead_0 {Z : Zt} {d : Nat} {p : Program} {e : Env} {R : Room} {s : State} {m : MethodId} {args : Array Value} {below : List Frame} {meth : Method} {c : Code} {Rp : RT} (C : Cx Z (d + 11) jX12_canLead RX12 p R s m args meth c) : Sd Z jX12_canLead p e R s m args below meth c (MQ below (QcS Z Rp) args s 0 0 (fun a => Z.2.2.1 < a)) 0 (w_X12_canLead_0 (MS Z (d + 11)) (Gw Z 7 p e R s m args below meth c (MQ below (QcS Z Rp) args s 0 0 (fun a => Z.2.2.1 < a))) Rp) := by
  unfold w_X12_canLead_0
  refine s_aload_n (k := 0) C (by decide +kernel) ?_
  refine s_iload_n (k := 1) C (by decide +kernel) ?_
  refine s_fnV C (j2 := jX12_isLeader) (cl := 12) (nf := 27) rfl rfl (by decide +kernel) rfl w_6_236 w_6_238 w_p3_15 w_1_13 w_6_239 (by decide +kernel) (fun _ _ _ _ _ h => f_X12_isLeader h) (fun _ _ _ _ _ h => r_X12_isLeader h) ?_
  refine s_if_eq (off := 5) (tgt := 10) C (by decide +kernel) (by decide) (b_X12_canLead_10 C) ?_
  refine s_iconst (n := 1) C (by decide +kernel) (by decide) ?_
  exact s_zret C rfl (by decide +kernel)
theorem ms_X12_canLead {Z : Zt} {d : Nat} {S : Sh} {μ : Mi} {ρ : Mr} {Rp : RT} (a0 : Nat) (x1 : Int32) (x2 : Int32) (h : ∀ G : Nat → PT, (∀ (L st : List Value) (S : Sh) (q : Nat × Nat) (μ : Mi) (ρ : Mr), w_X12_canLead_51 (MS Z (d + 11)) G Rp L st S q μ ρ → G 51 L st S q μ ρ) → w_X12_canLead_0 (MS Z (d + 11)) G Rp [.ref a0, .int x1, .int x2, .null, .null, .null, .null] [] S (0, 0) μ ρ) : MS Z (d + 12) jX12_canLead [.ref a0, .int x1, .int x2] S μ ρ Rp :=
  MS_of [.ref a0, .int x1, .int x2, .null, .null, .null, .null] (by decide +kernel) rfl rfl (Nat.le_of_ble_eq_true rfl) rfl (fun p e R s m args below meth c C => b_X12_canLead_0 C _ _ _ _ _ _ (h _ (b_X12_canLead_51 C)))
set_option maxHeartbeats 1000000 in
theorem can_core {Z : Zt} {S : Sh} {ρ : Mr} {s : Nat} (hs5 : s < 5) (hS0 : RS S ρ) : ∀ (n : Nat) (d : Nat) (μ : Mi) (Rp : RT), n ≤ 3 → good (μ 2738) →
    (∀ ν', sim μ ν' → ν' 2738 = μ 2738 → (∀ i, 4516 * (n + 1) ≤ i → ν' 2742 i = μ 2742 i) → Rp (some (.int (bC s n (μ 2738)))) S ν' ρ) → MS Z (d + n + 12) jX12_canLead [.ref 2737, .int (nI s), .int (nI n)] S μ ρ Rp := by
  have hS := hS0
  unfold RS at hS
  have hrs := rg_T (lo := 0) (hi := 4) (n := s) (by omega) (by omega) (by omega)
  have i10 : inb 4510 13548 := inb_nI (k := 4510) (by decide) (by decide)
  intro n
  induction n with
  | zero =>
    intro d μ Rp _ hg h
    refine ms_X12_canLead _ _ _ (fun G g51 => ?_)
    simp only [w_X12_canLead_0, w_X12_canLead_10, tAload, tIload, nth, tGetI, tGetR, tConst, tLconst, tBin, tUn, tI2l, tAld, tAldR, tAlen, tIast, tBast, tZast, tAast, tIret, tZret, tVret, tAret, tIf, tIf2, tGoto, tIstore, tAstore, sset, tIinc, tDup, tDup2, tPop, tPutI, tPutZ, tPutR, tCallV, tCallS, popN, tFn, tCopy, tMax, tMin, tSw, swc, tRem, tObjI, Option.toList, List.nil_append, List.cons_append, okR, true_and, and_true, true_or, or_true, Nat.zero_le, ne_eq, not_false_eq_true, Nat.reduceEqDiff, F_X12_isLeader, hS0, hrs, b2_z, Decidable.not_not]
    simp (disch := omega) only [nI_clamp]
    have hq := h μ sim_rf rfl (fun _ _ => rfl)
    refine ⟨fun c => ⟨fun z => absurd (show nI 0 = 0 from rfl) z, fun _ => ?_⟩, fun c => ?_⟩
    · rw [show bC s 0 (μ 2738) = 0 from if_neg c] at hq; exact hq
    · rw [show bC s 0 (μ 2738) = 1 from if_pos c] at hq; exact hq
  | succ n ih =>
    intro d μ Rp hn hg h
    have hw := good_w hg
    obtain ⟨w, ew, ew0, -, ew1⟩ := rg_ex hw
    refine ms_X12_canLead (d := d + n + 1) _ _ _ (fun G g51 => ?_)
    generalize hA : μ 2738 = A at *
    have hwA : (A 4510).toNatClampNeg = w := by rw [ew, nI_clamp ew0]
    have nz : ¬ nI (n + 1) = 0 := fun z => by
      rw [show (0 : Int32) = nI 0 from rfl, nI_eq (by omega) (by decide)] at z
      omega
    simp only [w_X12_canLead_0, w_X12_canLead_10, tAload, tIload, nth, tGetI, tGetR, tConst, tLconst, tBin, tUn, tI2l, tAld, tAldR, tAlen, tIast, tBast, tZast, tAast, tIret, tZret, tVret, tAret, tIf, tIf2, tGoto, tIstore, tAstore, sset, tIinc, tDup, tDup2, tPop, tPutI, tPutZ, tPutR, tCallV, tCallS, popN, tFn, tCopy, tMax, tMin, tSw, swc, tRem, tObjI, Option.toList, List.nil_append, List.cons_append, okR, true_and, and_true, true_or, or_true, Nat.zero_le, ne_eq, not_false_eq_true, Nat.reduceEqDiff, F_X12_isLeader, hS0, hrs, hA, b2_z, Decidable.not_not]
    simp (disch := omega) only [nI_clamp]
    refine ⟨fun c => ⟨fun _ => ?_, fun z => absurd z nz⟩, fun c => ?_⟩
    · rw [bC_s, if_neg c, hwA] at h
      generalize hT : lpC (bC s n) A (w + 5) 0 = T at h
      -- what stands at the head of the loop
      have exit1 : ∀ (ν : Mi) (k : Nat) (v : Value), sim μ ν → ν 2738 = A → (∀ i, 4516 * (n + 1 + 1) ≤ i → ν 2742 i = μ 2742 i) → T = 1 → G 51 [.ref 2737, .int (nI s), .int (nI (n + 1)), .int (nI w), .int 1, .int (nI k), v] [] S (0, 0) ν ρ := by
        intro ν k v h1 h2 h3 h4
        refine g51 _ _ _ _ _ _ ?_
        have hq := h ν h1 h2 h3
        rw [h4] at hq
        simp only [w_X12_canLead_51, w_X12_canLead_145, tAload, tIload, nth, tGetI, tGetR, tConst, tLconst, tBin, tUn, tI2l, tAld, tAldR, tAlen, tIast, tBast, tZast, tAast, tIret, tZret, tVret, tAret, tIf, tIf2, tGoto, tIstore, tAstore, sset, tIinc, tDup, tDup2, tPop, tPutI, tPutZ, tPutR, tCallV, tCallS, popN, tFn, tCopy, tMax, tMin, tSw, swc, tRem, tObjI, Option.toList, List.nil_append, List.cons_append, okR, true_and, and_true, true_or, or_true, Nat.zero_le, ne_eq, not_false_eq_true, Nat.reduceEqDiff]
        exact ⟨fun _ => hq, fun _ => ⟨fun _ => hq, fun z => absurd (by decide) z⟩⟩
      have loop : ∀ (m k : Nat) (ν : Mi) (v : Value), m + k = w + 5 → sim μ ν → ν 2738 = A → (∀ i, i < 4516 → ν 2742 (4516 * (n + 1) + i) = A i) → (∀ i, 4516 * (n + 1 + 1) ≤ i → ν 2742 i = μ 2742 i) → T = lpC (bC s n) A m k → G 51 [.ref 2737, .int (nI s), .int (nI (n + 1)), .int (nI w), .int 0, .int (nI k), v] [] S (0, 0) ν ρ := by
        intro m
        induction m with
        | zero =>
          intro k ν v hk h1 h2 h3 h4 h5
          obtain rfl : k = w + 5 := by omega
          refine g51 _ _ _ _ _ _ ?_
          have hq := h ν h1 h2 h4
          rw [h5] at hq
          simp only [w_X12_canLead_51, w_X12_canLead_145, tAload, tIload, nth, tGetI, tGetR, tConst, tLconst, tBin, tUn, tI2l, tAld, tAldR, tAlen, tIast, tBast, tZast, tAast, tIret, tZret, tVret, tAret, tIf, tIf2, tGoto, tIstore, tAstore, sset, tIinc, tDup, tDup2, tPop, tPutI, tPutZ, tPutR, tCallV, tCallS, popN, tFn, tCopy, tMax, tMin, tSw, swc, tRem, tObjI, Option.toList, List.nil_append, List.cons_append, okR, true_and, and_true, true_or, or_true, Nat.zero_le, ne_eq, not_false_eq_true, Nat.reduceEqDiff]
          rw [nad 5 5 rfl]
          exact ⟨fun _ => hq, fun z => absurd (Int32.le_refl _) z⟩
        | succ m ihm =>
          intro k ν v hk h1 h2 h3 h4 h5
          rw [lpC_s, hwA] at h5
          have lt : ¬ nI (w + 5) ≤ nI k := by rw [nI_leI (by omega) (by omega)]; omega
          -- a step is tried
          have try1 : ∀ (B : Rw) (g : Rw) (t : T4) (v : Value), good B → Hi A B → (bC s n B = 0 → T = lpC (bC s n) A m (k + 1)) → (¬ bC s n B = 0 → T = 1) → w_X12_canLead_109 (MS Z (d + n + 1 + 11)) G Rp [.ref 2737, .int (nI s), .int (nI (n + 1)), .int (nI w), .int 0, .int (nI k), v] [] S (0, 0) (M4 ν g t B) ρ := by
            intro B g t v hB hH q0 q1
            simp only [w_X12_canLead_109, w_X12_canLead_139, tAload, tIload, nth, tGetI, tGetR, tConst, tLconst, tBin, tUn, tI2l, tAld, tAldR, tAlen, tIast, tBast, tZast, tAast, tIret, tZret, tVret, tAret, tIf, tIf2, tGoto, tIstore, tAstore, sset, tIinc, tDup, tDup2, tPop, tPutI, tPutZ, tPutR, tCallV, tCallS, popN, tFn, tCopy, tMax, tMin, tSw, swc, tRem, tObjI, Option.toList, List.nil_append, List.cons_append, okR, true_and, and_true, true_or, or_true, Nat.zero_le, ne_eq, not_false_eq_true, Nat.reduceEqDiff, hS]
            rw [show nI (n + 1) - 1 = nI n from by rw [show (1 : Int32) = nI 1 from rfl, pk_sub (by omega), Nat.add_sub_cancel]]
            refine ih d (M4 ν g t B) _ (by omega) (by rw [M4_row]; exact hB) (fun ν' s1 s2 s3 => ?_)
            rw [M4_row] at s2
            simp only [tAload, tIload, nth, tGetI, tGetR, tConst, tLconst, tBin, tUn, tI2l, tAld, tAldR, tAlen, tIast, tBast, tZast, tAast, tIret, tZret, tVret, tAret, tIf, tIf2, tGoto, tIstore, tAstore, sset, tIinc, tDup, tDup2, tPop, tPutI, tPutZ, tPutR, tCallV, tCallS, popN, tFn, tCopy, tMax, tMin, tSw, swc, tRem, tObjI, Option.toList, List.nil_append, List.cons_append, okR, true_and, and_true, true_or, or_true, Nat.zero_le, ne_eq, not_false_eq_true, Nat.reduceEqDiff, F_X12_copies, hS]
            have e1 : (4516 : Int32) * nI (n + 1) = nI (4516 * (n + 1)) := by rw [show (4516 : Int32) = nI 4516 from rfl, pk_mul]
            rw [e1, M4_row]
            simp (disch := omega) only [nI_clamp, nI_toInt, cl_0, cl_4516, nI_1]
            have s3' : ∀ i, 4516 * (n + 1) ≤ i → ν' 2742 i = ν 2742 i := fun i hi => by rw [s3 i hi, M4_out (by decide) (by decide) (by decide)]
            have eA : cpF (ν' 2742) (ν' 2738) (4516 * (n + 1)) 0 4516 = A := by
              rw [s2]
              exact steps_back hH (fun i hi => by rw [s3' _ (by omega)]; exact h3 i hi)
            rw [eA]
            have ss : sim μ (upF ν' 2738 A) := sim_up (sim_tr h1 (sim_tr (sim_M4 sim_rf) s1)) (by decide)
            have f1 : ∀ i, upF ν' 2738 A 2742 i = ν' 2742 i := fun i => by rw [upF_ne (by decide)]
            have fin : ∀ r : Int32, r = bC s n B → G 51 [.ref 2737, .int (nI s), .int (nI (n + 1)), .int (nI w), .int r, .int (nI (k + 1)), v] [] S (0, 0) (upF ν' 2738 A) ρ := by
              intro r hr
              have f4 : ∀ i, 4516 * (n + 1 + 1) ≤ i → upF ν' 2738 A 2742 i = μ 2742 i := fun i hi => by rw [f1, s3' i (by omega)]; exact h4 i hi
              rcases bC_01 (s := s) (n := n) (A := B) with z | z
              · rw [hr, z]
                exact ihm (k + 1) _ _ (by omega) ss upF_same (fun i hi => by rw [f1, s3' _ (by omega)]; exact h3 i hi) f4 (q0 z)
              · rw [hr, z]
                exact exit1 _ _ _ ss upF_same f4 (q1 (by rw [z]; decide))
            exact ⟨by omega, by decide, by decide, by omega, by decide, by decide, by decide, fin _ rfl⟩
          refine g51 _ _ _ _ _ _ ?_
          by_cases hkw : k < w
          · rw [if_pos hkw] at h5
            have lk : nI k < nI w := by rw [nI_ltI (by omega) (by omega)]; exact hkw
            have lk2 : ¬ nI w ≤ nI k := Int32.not_le.mpr lk
            have hrk : rg (nI k) 0 59 = True := rg_T (by omega) (by omega) (by omega)
            simp only [w_X12_canLead_51, w_X12_canLead_84, tAload, tIload, nth, tGetI, tGetR, tConst, tLconst, tBin, tUn, tI2l, tAld, tAldR, tAlen, tIast, tBast, tZast, tAast, tIret, tZret, tVret, tAret, tIf, tIf2, tGoto, tIstore, tAstore, sset, tIinc, tDup, tDup2, tPop, tPutI, tPutZ, tPutR, tCallV, tCallS, popN, tFn, tCopy, tMax, tMin, tSw, swc, tRem, tObjI, Option.toList, List.nil_append, List.cons_append, okR, true_and, and_true, true_or, or_true, Nat.zero_le, ne_eq, not_false_eq_true, Nat.reduceEqDiff, F_X12_comes, hS0, hrk, h2]
            rw [nad 5 5 rfl]
            simp (disch := omega) only [nI_clamp]
            refine ⟨fun z => absurd z lt, fun _ => ⟨fun z => absurd trivial z, fun _ => ⟨fun _ => ⟨fun z => absurd z lk2, fun _ => ⟨?_, good_cm hg, fun t => ?_⟩⟩, fun z => absurd lk z⟩⟩⟩
            · rw [ew, nI_toInt (by omega), nI_toInt ew0]; omega
            · have hki : k < (A 4510).toNatClampNeg := by rw [hwA]; exact hkw
              refine try1 _ _ _ _ (good_step hg (Sp.comes hki)) (Fr_comes (good_cm hg) hki).hi (fun z => ?_) (fun z => ?_)
              · rw [if_pos z] at h5; exact h5
              · rw [if_neg z] at h5; exact h5
          · rw [if_neg hkw] at h5
            have lk : ¬ nI k < nI w := by rw [nI_ltI (by omega) (by omega)]; exact hkw
            have lk2 : nI w ≤ nI k := Int32.not_lt.mp lk
            have ek : nI k - nI w = nI (k - w) := pk_sub (by omega)
            have hrk : rg (nI (k - w)) 0 4 = True := rg_T (by omega) (by omega) (by omega)
            have hkw5 : k - w < 5 := by omega
            have hst := good_st hg hkw5
            simp only [w_X12_canLead_51, w_X12_canLead_84, w_X12_canLead_101, w_X12_canLead_139, tAload, tIload, nth, tGetI, tGetR, tConst, tLconst, tBin, tUn, tI2l, tAld, tAldR, tAlen, tIast, tBast, tZast, tAast, tIret, tZret, tVret, tAret, tIf, tIf2, tGoto, tIstore, tAstore, sset, tIinc, tDup, tDup2, tPop, tPutI, tPutZ, tPutR, tCallV, tCallS, popN, tFn, tCopy, tMax, tMin, tSw, swc, tRem, tObjI, Option.toList, List.nil_append, List.cons_append, okR, true_and, and_true, true_or, or_true, Nat.zero_le, ne_eq, not_false_eq_true, Nat.reduceEqDiff, F_X12_whyNot, F_X12_asks, hS0, ek, hrk, h2, setM_row, nI_1]
            rw [nad 5 5 rfl]
            simp (disch := omega) only [nI_clamp]
            refine ⟨fun z => absurd z lt, fun _ => ⟨fun z => absurd trivial z, fun _ => ⟨fun z => absurd z lk, fun _ => ⟨hst.1.1.2.1, hst.1.1.2.2.1, fun c2 => ⟨fun _ => ⟨fun _ => ⟨suOK_to hst c2, fun t => ?_⟩, fun z => absurd lk2 z⟩, fun z => absurd trivial z⟩, fun c2 => ⟨fun z => absurd z (by decide), fun _ => ?_⟩⟩⟩⟩⟩
            · rw [canT_eq] at c2
              rw [if_pos c2] at h5
              rw [M4_of_setM, M4_M3]
              refine try1 _ _ _ _ (good_step hg (Sp.asks hkw5 c2)) (Hi_asks hg hkw5 c2) (fun z => ?_) (fun z => ?_)
              · rw [if_pos z] at h5; exact h5
              · rw [if_neg z] at h5; exact h5
            · rw [canT_eq] at c2
              rw [if_neg c2] at h5
              rw [M4_of_setM, h2]
              refine ihm (k + 1) _ _ (by omega) (sim_tr h1 (sim_M4 sim_rf)) M4_row (fun i hi => ?_) (fun i hi => ?_) h5
              · rw [M4_out (by decide) (by decide) (by decide)]; exact h3 i hi
              · rw [M4_out (by decide) (by decide) (by decide)]; exact h4 i hi
      simp only [w_X12_canLead_16, tAload, tIload, nth, tGetI, tGetR, tConst, tLconst, tBin, tUn, tI2l, tAld, tAldR, tAlen, tIast, tBast, tZast, tAast, tIret, tZret, tVret, tAret, tIf, tIf2, tGoto, tIstore, tAstore, sset, tIinc, tDup, tDup2, tPop, tPutI, tPutZ, tPutR, tCallV, tCallS, popN, tFn, tCopy, tMax, tMin, tSw, swc, tRem, tObjI, Option.toList, List.nil_append, List.cons_append, okR, true_and, and_true, true_or, or_true, Nat.zero_le, ne_eq, not_false_eq_true, Nat.reduceEqDiff, F_X12_copies, hS, hA, i10, cl_4510, cl_0]
      have e1 : (4516 : Int32) * nI (n + 1) = nI (4516 * (n + 1)) := by rw [show (4516 : Int32) = nI 4516 from rfl, pk_mul]
      rw [e1]
      simp (disch := omega) only [nI_clamp, nI_toInt, cl_4516]
      have er : upF μ 2742 (cpF A (μ 2742) 0 (4516 * (n + 1)) 4516) 2738 = A := by rw [upF_ne (by decide)]; exact hA
      rw [er, ew]
      refine ⟨by decide, by omega, by decide, by decide, by omega, by decide, by decide, ?_⟩
      refine loop (w + 5) 0 _ _ rfl (sim_up sim_rf (by decide)) er (fun i hi => ?_) (fun i hi => ?_) hT.symm
      · rw [upF_same]
        unfold cpF
        rw [if_pos (by omega), show 0 + (4516 * (n + 1) + i - 4516 * (n + 1)) = i by omega]
      · rw [upF_same]
        exact cpF_out (by omega)
    · have hq := h μ sim_rf hA (fun _ _ => rfl)
      rw [bC_s, if_pos c] at hq
      exact hq
def F_X12_canLead : FT := fun As S μ ρ k => match As with
  | [.ref a, .int s, .int n] => a = 2737 ∧ RS S ρ ∧ rg s 0 4 ∧ rg n 0 3 ∧ good (μ 2738) ∧ ∀ ν', sim μ ν' → ν' 2738 = μ 2738 → k (some (.int (bC s.toNatClampNeg n.toNatClampNeg (μ 2738)))) ν'
  | _ => False
theorem r_X12_canLead {As S μ ρ k} (h : F_X12_canLead As S μ ρ k) : ∃ a As', As = Value.ref a :: As' ∧ S.2 a = (12, 27) := by
  unfold F_X12_canLead at h
  split at h
  · exact ⟨_, _, rfl, by rw [h.1]; exact h.2.1.1⟩
  · exact h.elim
set_option maxHeartbeats 1000000 in
theorem f_X12_canLead {Z : Zt} {d : Nat} {As : List Value} {S : Sh} {μ : Mi} {ρ : Mr} {Rp : RT} (h : F_X12_canLead As S μ ρ (fun r μ' => Rp r S μ' ρ)) : MS Z (d + 16) jX12_canLead As S μ ρ Rp := by
  unfold F_X12_canLead at h
  split at h
  · rename_i a s n
    obtain ⟨rfl, hS, h⟩ := h
    have hS0 := hS
    unfold RS at hS
    obtain ⟨h1, h2, hg, h⟩ := h
    obtain ⟨s, rfl, hs0, -, hs⟩ := rg_ex h1
    obtain ⟨n, rfl, hn0, -, hn⟩ := rg_ex h2
    simp (disch := omega) only [nI_clamp] at h
    have := can_core (Z := Z) (s := s) (by omega) hS0 n (d + (4 - n)) μ Rp (by omega) hg (fun ν' a b _ => h ν' a b)
    rw [show d + 16 = d + (4 - n) + n + 12 by omega]
    exact this
  · exact h.elim
def vCould (A : Rw) (s n : Int32) : Int32 := if ¬ rgd s 0 4 then -2 else if ¬ rgd n 0 3 then -3 else if ¬ A 4510 ≤ 8 then -5 else if bC s.toNatClampNeg n.toNatClampNeg A = 0 then 0 else 1
def w_X12_could_60 (M : CT) (G : Nat → PT) (Rp : RT) : PT := tIret Rp
def w_X12_could_59 (M : CT) (G : Nat → PT) (Rp : RT) : PT := tConst 0 <| w_X12_could_60 M G Rp
def w_X12_could_46 (M : CT) (G : Nat → PT) (Rp : RT) : PT := tAload 0 <| tIload 1 <| tIload 2 <| tFn 3 F_X12_canLead <| tIf (fun x => x = 0) (w_X12_could_59 M G Rp) <| tConst 1 <| tGoto (w_X12_could_60 M G Rp)
def w_X12_could_30 (M : CT) (G : Nat → PT) (Rp : RT) : PT := tAload 0 <| tGetR 12 27 1 <| tConst 4510 <| tAld 20 <| tConst 8 <| tIf2 (fun x y => x ≤ y) (w_X12_could_46 M G Rp) <| tConst (-5) <| tIret Rp
def w_X12_could_15 (M : CT) (G : Nat → PT) (Rp : RT) : PT := tIload 2 <| tI2l <| tLconst 0 <| tLconst 3 <| tFn 3 F_X12_within <| tIf (fun x => x ≠ 0) (w_X12_could_30 M G Rp) <| tConst (-3) <| tIret Rp
def w_X12_could_0 (M : CT) (G : Nat → PT) (Rp : RT) : PT := tAload 0 <| tConst 0 <| tPutI 12 27 0 <| tIload 1 <| tFn 1 F_X12_isStore <| tIf (fun x => x ≠ 0) (w_X12_could_15 M G Rp) <| tConst (-2) <| tIret Rp
set_option maxRecDepth 20000 in
theorem b_X12_could_60 {Z : Zt} {d : Nat} {p : Program} {e : Env} {R : Room} {s : State} {m : MethodId} {args : Array Value} {below : List Frame} {meth : Method} {c : Code} {Rp : RT} (C : Cx Z (d + 16) jX12_could RX12 p R s m args meth c) : Sd Z jX12_could p e R s m args below meth c (MQ below (QcS Z Rp) args s 0 0 (fun a => Z.2.2.1 < a)) 60 (w_X12_could_60 (MS Z (d + 16)) (Gw Z 3 p e R s m args below meth c (MQ below (QcS Z Rp) args s 0 0 (fun a => Z.2.2.1 < a))) Rp) := by
  unfold w_X12_could_60
  exact s_iret C rfl (by decide +kernel)
set_option maxRecDepth 20000 in
theorem b_X12_could_59 {Z : Zt} {d : Nat} {p : Program} {e : Env} {R : Room} {s : State} {m : MethodId} {args : Array Value} {below : List Frame} {meth : Method} {c : Code} {Rp : RT} (C : Cx Z (d + 16) jX12_could RX12 p R s m args meth c) : Sd Z jX12_could p e R s m args below meth c (MQ below (QcS Z Rp) args s 0 0 (fun a => Z.2.2.1 < a)) 59 (w_X12_could_59 (MS Z (d + 16)) (Gw Z 3 p e R s m args below meth c (MQ below (QcS Z Rp) args s 0 0 (fun a => Z.2.2.1 < a))) Rp) := by
  unfold w_X12_could_59
  refine s_iconst (n := 0) C (by decide +kernel) (by decide) ?_
  exact (b_X12_could_60 C)
set_option maxRecDepth 20000 in
theorem b_X12_could_46 {Z : Zt} {d : Nat} {p : Program} {e : Env} {R : Room} {s : State} {m : MethodId} {args : Array Value} {below : List Frame} {meth : Method} {c : Code} {Rp : RT} (C : Cx Z (d + 16) jX12_could RX12 p R s m args meth c) : Sd Z jX12_could p e R s m args below meth c (MQ below (QcS Z Rp) args s 0 0 (fun a => Z.2.2.1 < a)) 46 (w_X12_could_46 (MS Z (d + 16)) (Gw Z 3 p e R s m args below meth c (MQ below (QcS Z Rp) args s 0 0 (fun a => Z.2.2.1 < a))) Rp) := by
  unfold w_X12_could_46
  refine s_aload_n (k := 0) C (by decide +kernel) ?_
  refine s_iload_n (k := 1) C (by decide +kernel) ?_
  refine s_iload_n (k := 2) C (by decide +kernel) ?_
  refine s_fnV C (j2 := jX12_canLead) (cl := 12) (nf := 27) rfl rfl (by decide +kernel) rfl w_8_229 w_8_231 w_p8_9 w_1_13 w_8_232 (by decide +kernel) (fun _ _ _ _ _ h => f_X12_canLead h) (fun _ _ _ _ _ h => r_X12_canLead h) ?_
  refine s_if_eq (off := 7) (tgt := 59) C (by decide +kernel) (by decide) (b_X12_could_59 C) ?_
  refine s_iconst (n := 1) C (by decide +kernel) (by decide) ?_
  exact s_goto (off := 4) (tgt := 60) C (by decide +kernel) (by decide) (b_X12_could_60 C)
set_option maxRecDepth 20000 in
theorem b_X12_could_30 {Z : Zt} {d : Nat} {p : Program} {e : Env} {R : Room} {s : State} {m : MethodId} {args : Array Value} {below : List Frame} {meth : Method} {c : Code} {Rp : RT} (C : Cx Z (d + 16) jX12_could RX12 p R s m args meth c) : Sd Z jX12_could p e R s m args below meth c (MQ below (QcS Z Rp) args s 0 0 (fun a => Z.2.2.1 < a)) 30 (w_X12_could_30 (MS Z (d + 16)) (Gw Z 3 p e R s m args below meth c (MQ below (QcS Z Rp) args s 0 0 (fun a => Z.2.2.1 < a))) Rp) := by
  unfold w_X12_could_30
  refine s_aload_n (k := 0) C (by decide +kernel) ?_
  refine s_getR C w_6_88 (by decide +kernel) rfl ?_
  refine s_sipush (n := 4510) C (by decide +kernel) (by decide) ?_
  refine s_iald C (by decide +kernel) ?_
  refine s_bipush (n := 8) C (by decide +kernel) (by decide) ?_
  refine s_icmp_le (off := 6) (tgt := 46) C (by decide +kernel) (by decide) (b_X12_could_46 C) ?_
  refine s_bipush (n := (-5)) C (by decide +kernel) (by decide) ?_
  exact s_iret C rfl (by decide +kernel)
set_option maxRecDepth 20000 in
theorem b_X12_could_15 {Z : Zt} {d : Nat} {p : Program} {e : Env} {R : Room} {s : State} {m : MethodId} {args : Array Value} {below : List Frame} {meth : Method} {c : Code} {Rp : RT} (C : Cx Z (d + 16) jX12_could RX12 p R s m args meth c) : Sd Z jX12_could p e R s m args below meth c (MQ below (QcS Z Rp) args s 0 0 (fun a => Z.2.2.1 < a)) 15 (w_X12_could_15 (MS Z (d + 16)) (Gw Z 3 p e R s m args below meth c (MQ below (QcS Z Rp) args s 0 0 (fun a => Z.2.2.1 < a))) Rp) := by
  unfold w_X12_could_15
  refine s_iload_n (k := 2) C (by decide +kernel) ?_
  refine s_i2l C (by decide +kernel) ?_
  refine s_lconst (n := 0) C (by decide +kernel) (by decide) ?_
  refine s_ldc2 C w_7_93 (by decide +kernel) ?_
  refine s_fnS C (j2 := jX12_within) (by decide +kernel) rfl w_6_175 w_6_176 w_1_13 w_6_177 (by decide +kernel) (fun _ _ _ _ _ h => f_X12_within h) ?_
  refine s_if_ne (off := 6) (tgt := 30) C (by decide +kernel) (by decide) (b_X12_could_30 C) ?_
  refine s_bipush (n := (-3)) C (by decide +kernel) (by decide) ?_
  exact s_iret C rfl (by decide +kernel)
set_option maxRecDepth 20000 in
theorem b_X12_could_0 {Z : Zt} {d : Nat} {p : Program} {e : Env} {R : Room} {s : State} {m : MethodId} {args : Array Value} {below : List Frame} {meth : Method} {c : Code} {Rp : RT} (C : Cx Z (d + 16) jX12_could RX12 p R s m args meth c) : Sd Z jX12_could p e R s m args below meth c (MQ below (QcS Z Rp) args s 0 0 (fun a => Z.2.2.1 < a)) 0 (w_X12_could_0 (MS Z (d + 16)) (Gw Z 3 p e R s m args below meth c (MQ below (QcS Z Rp) args s 0 0 (fun a => Z.2.2.1 < a))) Rp) := by
  unfold w_X12_could_0
  refine s_aload_n (k := 0) C (by decide +kernel) ?_
  refine s_iconst (n := 0) C (by decide +kernel) (by decide) ?_
  refine s_putI C w_6_87 (by decide +kernel) rfl (Or.inl rfl) ?_
  refine s_iload_n (k := 1) C (by decide +kernel) ?_
  refine s_fnS C (j2 := jX12_isStore) (by decide +kernel) rfl w_6_208 w_6_209 w_1_13 w_6_210 (by decide +kernel) (fun _ _ _ _ _ h => f_X12_isStore h) ?_
  refine s_if_ne (off := 6) (tgt := 15) C (by decide +kernel) (by decide) (b_X12_could_15 C) ?_
  refine s_bipush (n := (-2)) C (by decide +kernel) (by decide) ?_
  exact s_iret C rfl (by decide +kernel)
theorem ms_X12_could {Z : Zt} {d : Nat} {S : Sh} {μ : Mi} {ρ : Mr} {Rp : RT} (a0 : Nat) (x1 : Int32) (x2 : Int32) (h : ∀ G : Nat → PT, w_X12_could_0 (MS Z (d + 16)) G Rp [.ref a0, .int x1, .int x2] [] S (0, 0) μ ρ) : MS Z (d + 17) jX12_could [.ref a0, .int x1, .int x2] S μ ρ Rp :=
  MS_of [.ref a0, .int x1, .int x2] (by decide +kernel) rfl rfl (Nat.le_of_ble_eq_true rfl) rfl (fun p e R s m args below meth c C => b_X12_could_0 C _ _ _ _ _ _ (h _ ))
def F_X12_could : FT := fun As S μ ρ k => match As with
  | [.ref a, .int s, .int n] => a = 2737 ∧ RS S ρ ∧ good (μ 2738) ∧ ∀ μ', RQ μ μ' (μ 2738) (μ 2739) (μ 2737 6) → k (some (.int (vCould (μ 2738) s n))) μ'
  | _ => False
theorem r_X12_could {As S μ ρ k} (h : F_X12_could As S μ ρ k) : ∃ a As', As = Value.ref a :: As' ∧ S.2 a = (12, 27) := by
  unfold F_X12_could at h
  split at h
  · exact ⟨_, _, rfl, by rw [h.1]; exact h.2.1.1⟩
  · exact h.elim
set_option maxHeartbeats 1000000 in
theorem f_X12_could {Z : Zt} {d : Nat} {As : List Value} {S : Sh} {μ : Mi} {ρ : Mr} {Rp : RT} (h : F_X12_could As S μ ρ (fun r μ' => Rp r S μ' ρ)) : MS Z (d + 17) jX12_could As S μ ρ Rp := by
  unfold F_X12_could at h
  split at h
  · rename_i a s n
    obtain ⟨rfl, hS, h⟩ := h
    have hS0 := hS
    unfold RS at hS
    obtain ⟨hg, h⟩ := h
    unfold vCould at h
    have i10 : inb 4510 13548 := inb_nI (k := 4510) (by decide) (by decide)
    refine ms_X12_could _ _ _ (fun G => ?_)
    simp only [w_X12_could_0, w_X12_could_15, w_X12_could_30, w_X12_could_46, w_X12_could_59, w_X12_could_60, tAload, tIload, nth, tGetI, tGetR, tConst, tLconst, tBin, tUn, tI2l, tAld, tAldR, tAlen, tIast, tBast, tZast, tAast, tIret, tZret, tVret, tAret, tIf, tIf2, tGoto, tIstore, tAstore, sset, tIinc, tDup, tDup2, tPop, tPutI, tPutZ, tPutR, tCallV, tCallS, popN, tFn, tCopy, tMax, tMin, tSw, swc, tRem, tObjI, Option.toList, List.nil_append, List.cons_append, okR, true_and, and_true, true_or, or_true, Nat.zero_le, ne_eq, not_false_eq_true, Nat.reduceEqDiff, F_X12_isStore, F_X12_within, F_X12_canLead, hS0, hS, e6, M6_row, i10, cl_4510, b2_z, Decidable.not_not, l_leC, l_geC, il_0, il_3]
    refine ⟨fun c => ⟨fun c2 => ⟨fun c3 => ⟨c, c2, hg, fun ν' s1 s2 => ?_⟩, fun c3 => ?_⟩, fun c2 => ?_⟩, fun c => ?_⟩
    · have := h ν' (RQ_sim (sim_tr sim_M6 s1) s2)
      rw [if_neg (not_not_intro c), if_neg (not_not_intro c2), if_neg (not_not_intro c3)] at this
      refine ⟨fun c4 => ?_, fun c4 => ?_⟩
      · rw [if_pos c4] at this; exact this
      · rw [if_neg c4] at this; exact this
    · have := h _ RQ_0
      rw [if_neg (not_not_intro c), if_neg (not_not_intro c2), if_pos c3] at this; exact this
    · have := h _ RQ_0
      rw [if_neg (not_not_intro c), if_pos c2] at this; exact this
    · have := h _ RQ_0
      rw [if_pos c] at this; exact this
  · exact h.elim
