/-! ===== the class: acts and repetitions are read ===== -/
def tM (μ : Mi) (q : Nat) (t : Rw) : Mi := upF (upI μ 856 6 (nI q)) 858 t
theorem tM_6 {μ : Mi} {q : Nat} {t : Rw} : tM μ q t 856 6 = nI q := by unfold tM; rw [upF_ne (by omega), upI_at]
theorem tM_k {μ : Mi} {q i : Nat} {t : Rw} (h : i ≠ 6) : tM μ q t 856 i = μ 856 i := by unfold tM; rw [upF_ne (by omega), upI_k h]
theorem tM_t {μ : Mi} {q : Nat} {t : Rw} : tM μ q t 858 = t := by unfold tM; rw [upF_same]
theorem tM_o {μ : Mi} {q a : Nat} {t : Rw} (h : a ≠ 856) (h2 : a ≠ 858) : tM μ q t a = μ a := by unfold tM; rw [upF_ne h2, upI_ne h]
theorem tM_u {μ : Mi} {q q' : Nat} {t : Rw} : upI (tM μ q t) 856 6 (nI q') = tM μ q' t := by
  funext b i
  unfold tM upI upF
  by_cases h : b = 856
  · subst h
    by_cases h6 : i = 6
    · simp [h6]
    · simp [h6]
  · simp [h]
theorem tM_v {μ : Mi} {q i : Nat} {t : Rw} {v : Int32} : upI (tM μ q t) 858 i v = tM μ q (up t i v) := by
  funext b k
  unfold tM upI upF up
  by_cases h : b = 858
  · subst h; simp
  · simp [h]
theorem tM_self {μ : Mi} {q : Nat} (h : μ 856 6 = nI q) : tM μ q (μ 858) = μ := by
  have e : upI μ 856 6 (nI q) = μ := by rw [← h, upI_self]
  unfold tM
  rw [e, upF_id]
theorem TpR_tM {T : Rw} {n p q : Nat} {S : Sh} {μ : Mi} {ρ : Mr} {t : Rw} (h : TpR T n p S μ ρ) (hq : q ≤ 1000) : TpR T n q S (tM μ q t) ρ := by
  obtain ⟨h1, h2, h3, h4, h5, h6⟩ := h
  exact ⟨h1, by rw [tM_k (by omega)]; exact h2, h3, tM_6, hq, fun i hi => by rw [tM_o (by omega) (by omega)]; exact h6 i hi⟩
/-- a fault was found: what else can be otherwise isn't told any more -/
def FtF (μ μ' : Mi) (w wa : Int32) : Prop := (∀ a, a ≠ 856 → a ≠ 858 → μ' a = μ a) ∧ μ' 856 3 = w ∧ μ' 856 4 = wa ∧ ∀ i, i ≠ 3 → i ≠ 4 → i ≠ 6 → μ' 856 i = μ 856 i
theorem FtF_tM {μ : Mi} {q : Nat} {t : Rw} {x y : Int32} : FtF μ (upI (upI (tM μ q t) 856 3 x) 856 4 y) x y := by
  refine ⟨fun a h1 h2 => by rw [upI_ne h1, upI_ne h1, tM_o h1 h2], by rw [upI_k (by omega), upI_at], upI_at, fun i h1 h2 h3 => by rw [upI_k h2, upI_k h1, tM_k h3]⟩
theorem FtF_u {μ μ' : Mi} {w wa v : Int32} (h : FtF μ μ' w wa) : FtF μ (upI μ' 856 6 v) w wa := by
  obtain ⟨h1, h2, h3, h4⟩ := h
  exact ⟨fun a a1 a2 => by rw [upI_ne a1]; exact h1 a a1 a2, by rw [upI_k (by omega)]; exact h2, by rw [upI_k (by omega)]; exact h3, fun i i1 i2 i3 => by rw [upI_k i3]; exact h4 i i1 i2 i3⟩
theorem FtF_v {μ μ' : Mi} {w wa v : Int32} {i : Nat} (h : FtF μ μ' w wa) : FtF μ (upI μ' 858 i v) w wa := by
  obtain ⟨h1, h2, h3, h4⟩ := h
  exact ⟨fun a a1 a2 => by rw [upI_ne a2]; exact h1 a a1 a2, by rw [upI_ne (by omega)]; exact h2, by rw [upI_ne (by omega)]; exact h3, fun k i1 i2 i3 => by rw [upI_ne (by omega)]; exact h4 k i1 i2 i3⟩
theorem nz1 (q : Int32) : ¬ ((1 : Int32), q).1 = 0 := by show ¬ (1 : Int32) = 0; decide
theorem nz2 (q : Int32) : ¬ ((2 : Int32), q).1 = 0 := by show ¬ (2 : Int32) = 0; decide
theorem pBeg_0 {T : Rw} {n p : Nat} : pBeg T n 0 p = blk T n p := by unfold pBeg; rw [if_neg (fun z => z.1 rfl)]
theorem pNumV_0 {T : Rw} {n : Nat} {P : Ps} : pNumV T n 0 P = (dg T n (blk T n P.1) 0).2 := by unfold pNumV; rw [if_neg (fun z => z.1 rfl), pBeg_0]
theorem blk_n {T : Rw} {n p : Nat} (h : p ≤ n) : p ≤ blk T n p ∧ blk T n p ≤ n := by
  have := blk_le (T := T) (n := n) (p := p)
  omega
theorem dg_n {T : Rw} {n p : Nat} (h : p ≤ n) : p ≤ (dg T n p 0).1 ∧ (dg T n p 0).1 ≤ n := by
  have := dg_le (T := T) (n := n) (p := p) (v := 0)
  omega
theorem blk_blk' {T : Rw} {n p : Nat} : blk T n (blk T n p) = blk T n p := blk_blk
def w_X9_parseTimes_100 (M : CT) (G : Nat → PT) (Rp : RT) : PT := tVret Rp
def w_X9_parseTimes_85 (M : CT) (G : Nat → PT) (Rp : RT) : PT := tAload 0 <| tDup <| tGetI 9 7 6 <| tConst 1 <| tBin (fun x y => x + y) <| tPutI 9 7 6 <| tAload 1 <| tIload 3 <| tFn 2 F_X4_openLoop <| w_X9_parseTimes_100 M G Rp
def w_X9_parseTimes_65 (M : CT) (G : Nat → PT) (Rp : RT) : PT := tAload 1 <| tGetI 4 10 8 <| tConst 3 <| tIf2 (fun x y => x < y) (w_X9_parseTimes_85 M G Rp) <| tAload 0 <| tConst 3 <| tAload 0 <| tGetI 9 7 6 <| tFn 3 F_X9_fail <| tGoto (w_X9_parseTimes_100 M G Rp)
def w_X9_parseTimes_40 (M : CT) (G : Nat → PT) (Rp : RT) : PT := tAload 0 <| tFn 1 F_X9_skipBlanks <| tAload 0 <| tFn 1 F_X9_here <| tConst 123 <| tIf2 (fun x y => x = y) (w_X9_parseTimes_65 M G Rp) <| tAload 0 <| tConst 1 <| tAload 0 <| tGetI 9 7 6 <| tFn 3 F_X9_fail <| tGoto (w_X9_parseTimes_100 M G Rp)
def w_X9_parseTimes_33 (M : CT) (G : Nat → PT) (Rp : RT) : PT := tAload 0 <| tConst 2 <| tIload 2 <| tFn 3 F_X9_fail <| tVret Rp
def w_X9_parseTimes_22 (M : CT) (G : Nat → PT) (Rp : RT) : PT := tIload 3 <| tConst 1 <| tIf2 (fun x y => x < y) (w_X9_parseTimes_33 M G Rp) <| tIload 3 <| tConst 50 <| tIf2 (fun x y => x ≤ y) (w_X9_parseTimes_40 M G Rp) <| w_X9_parseTimes_33 M G Rp
def w_X9_parseTimes_0 (M : CT) (G : Nat → PT) (Rp : RT) : PT := tAload 0 <| tFn 1 F_X9_skipBlanks <| tAload 0 <| tGetI 9 7 6 <| tIstore 2 <| tAload 0 <| tFn 1 F_X9_parseNumber <| tIstore 3 <| tAload 0 <| tGetI 9 7 3 <| tIf (fun x => x = 0) (w_X9_parseTimes_22 M G Rp) <| tVret Rp
set_option maxRecDepth 20000 in
theorem b_X9_parseTimes_100 {Z : Zt} {d : Nat} {p : Program} {e : Env} {R : Room} {s : State} {m : MethodId} {args : Array Value} {below : List Frame} {meth : Method} {c : Code} {Rp : RT} (C : Cx Z (d + 2) jX9_parseTimes RX9 p R s m args meth c) : Sd Z jX9_parseTimes p e R s m args below meth c (MQ below (QcS Z Rp) args s 0 0 (fun a => Z.2.2.1 < a)) 100 (w_X9_parseTimes_100 (MS Z (d + 2)) (Gw Z 4 p e R s m args below meth c (MQ below (QcS Z Rp) args s 0 0 (fun a => Z.2.2.1 < a))) Rp) := by
  unfold w_X9_parseTimes_100
  exact s_vret C rfl (by decide +kernel)
set_option maxRecDepth 20000 in
theorem b_X9_parseTimes_85 {Z : Zt} {d : Nat} {p : Program} {e : Env} {R : Room} {s : State} {m : MethodId} {args : Array Value} {below : List Frame} {meth : Method} {c : Code} {Rp : RT} (C : Cx Z (d + 2) jX9_parseTimes RX9 p R s m args meth c) : Sd Z jX9_parseTimes p e R s m args below meth c (MQ below (QcS Z Rp) args s 0 0 (fun a => Z.2.2.1 < a)) 85 (w_X9_parseTimes_85 (MS Z (d + 2)) (Gw Z 4 p e R s m args below meth c (MQ below (QcS Z Rp) args s 0 0 (fun a => Z.2.2.1 < a))) Rp) := by
  unfold w_X9_parseTimes_85
  refine s_aload_n (k := 0) C (by decide +kernel) ?_
  refine s_dup C (by decide +kernel) ?_
  refine s_getI C w_2_174 (by decide +kernel) rfl ?_
  refine s_iconst (n := 1) C (by decide +kernel) (by decide) ?_
  refine s_iadd C (by decide +kernel) ?_
  refine s_putI C w_2_174 (by decide +kernel) rfl (Or.inl rfl) ?_
  refine s_aload_n (k := 1) C (by decide +kernel) ?_
  refine s_iload_n (k := 3) C (by decide +kernel) ?_
  refine s_fnV C (j2 := jX4_openLoop) (cl := 4) (nf := 10) rfl rfl (by decide +kernel) rfl w_5_33 w_5_34 w_5_35 w_1_12 w_5_36 (by decide +kernel) (fun _ _ _ _ _ h => f_X4_openLoop h) (fun _ _ _ _ _ h => r_X4_openLoop h) ?_
  exact (b_X9_parseTimes_100 C)
set_option maxRecDepth 20000 in
theorem b_X9_parseTimes_65 {Z : Zt} {d : Nat} {p : Program} {e : Env} {R : Room} {s : State} {m : MethodId} {args : Array Value} {below : List Frame} {meth : Method} {c : Code} {Rp : RT} (C : Cx Z (d + 2) jX9_parseTimes RX9 p R s m args meth c) : Sd Z jX9_parseTimes p e R s m args below meth c (MQ below (QcS Z Rp) args s 0 0 (fun a => Z.2.2.1 < a)) 65 (w_X9_parseTimes_65 (MS Z (d + 2)) (Gw Z 4 p e R s m args below meth c (MQ below (QcS Z Rp) args s 0 0 (fun a => Z.2.2.1 < a))) Rp) := by
  unfold w_X9_parseTimes_65
  refine s_aload_n (k := 1) C (by decide +kernel) ?_
  refine s_getI C w_2_210 (by decide +kernel) rfl ?_
  refine s_iconst (n := 3) C (by decide +kernel) (by decide) ?_
  refine s_icmp_lt (off := 15) (tgt := 85) C (by decide +kernel) (by decide) (b_X9_parseTimes_85 C) ?_
  refine s_aload_n (k := 0) C (by decide +kernel) ?_
  refine s_iconst (n := 3) C (by decide +kernel) (by decide) ?_
  refine s_aload_n (k := 0) C (by decide +kernel) ?_
  refine s_getI C w_2_174 (by decide +kernel) rfl ?_
  refine s_fnV C (j2 := jX9_fail) (cl := 9) (nf := 7) rfl rfl (by decide +kernel) rfl w_5_21 w_5_23 w_p2_13 w_1_11 w_5_24 (by decide +kernel) (fun _ _ _ _ _ h => f_X9_fail h) (fun _ _ _ _ _ h => r_X9_fail h) ?_
  exact s_goto (off := 18) (tgt := 100) C (by decide +kernel) (by decide) (b_X9_parseTimes_100 C)
set_option maxRecDepth 20000 in
theorem b_X9_parseTimes_40 {Z : Zt} {d : Nat} {p : Program} {e : Env} {R : Room} {s : State} {m : MethodId} {args : Array Value} {below : List Frame} {meth : Method} {c : Code} {Rp : RT} (C : Cx Z (d + 2) jX9_parseTimes RX9 p R s m args meth c) : Sd Z jX9_parseTimes p e R s m args below meth c (MQ below (QcS Z Rp) args s 0 0 (fun a => Z.2.2.1 < a)) 40 (w_X9_parseTimes_40 (MS Z (d + 2)) (Gw Z 4 p e R s m args below meth c (MQ below (QcS Z Rp) args s 0 0 (fun a => Z.2.2.1 < a))) Rp) := by
  unfold w_X9_parseTimes_40
  refine s_aload_n (k := 0) C (by decide +kernel) ?_
  refine s_fnV C (j2 := jX9_skipBlanks) (cl := 9) (nf := 7) rfl rfl (by decide +kernel) rfl w_4_184 w_4_186 w_p2_7 w_1_11 w_4_187 (by decide +kernel) (fun _ _ _ _ _ h => f_X9_skipBlanks h) (fun _ _ _ _ _ h => r_X9_skipBlanks h) ?_
  refine s_aload_n (k := 0) C (by decide +kernel) ?_
  refine s_fnV C (j2 := jX9_here) (cl := 9) (nf := 7) rfl rfl (by decide +kernel) rfl w_4_192 w_4_194 w_p2_9 w_1_11 w_4_195 (by decide +kernel) (fun _ _ _ _ _ h => f_X9_here h) (fun _ _ _ _ _ h => r_X9_here h) ?_
  refine s_bipush (n := 123) C (by decide +kernel) (by decide) ?_
  refine s_icmp_eq (off := 15) (tgt := 65) C (by decide +kernel) (by decide) (b_X9_parseTimes_65 C) ?_
  refine s_aload_n (k := 0) C (by decide +kernel) ?_
  refine s_iconst (n := 1) C (by decide +kernel) (by decide) ?_
  refine s_aload_n (k := 0) C (by decide +kernel) ?_
  refine s_getI C w_2_174 (by decide +kernel) rfl ?_
  refine s_fnV C (j2 := jX9_fail) (cl := 9) (nf := 7) rfl rfl (by decide +kernel) rfl w_5_21 w_5_23 w_p2_13 w_1_11 w_5_24 (by decide +kernel) (fun _ _ _ _ _ h => f_X9_fail h) (fun _ _ _ _ _ h => r_X9_fail h) ?_
  exact s_goto (off := 38) (tgt := 100) C (by decide +kernel) (by decide) (b_X9_parseTimes_100 C)
set_option maxRecDepth 20000 in
theorem b_X9_parseTimes_33 {Z : Zt} {d : Nat} {p : Program} {e : Env} {R : Room} {s : State} {m : MethodId} {args : Array Value} {below : List Frame} {meth : Method} {c : Code} {Rp : RT} (C : Cx Z (d + 2) jX9_parseTimes RX9 p R s m args meth c) : Sd Z jX9_parseTimes p e R s m args below meth c (MQ below (QcS Z Rp) args s 0 0 (fun a => Z.2.2.1 < a)) 33 (w_X9_parseTimes_33 (MS Z (d + 2)) (Gw Z 4 p e R s m args below meth c (MQ below (QcS Z Rp) args s 0 0 (fun a => Z.2.2.1 < a))) Rp) := by
  unfold w_X9_parseTimes_33
  refine s_aload_n (k := 0) C (by decide +kernel) ?_
  refine s_iconst (n := 2) C (by decide +kernel) (by decide) ?_
  refine s_iload_n (k := 2) C (by decide +kernel) ?_
  refine s_fnV C (j2 := jX9_fail) (cl := 9) (nf := 7) rfl rfl (by decide +kernel) rfl w_5_21 w_5_23 w_p2_13 w_1_11 w_5_24 (by decide +kernel) (fun _ _ _ _ _ h => f_X9_fail h) (fun _ _ _ _ _ h => r_X9_fail h) ?_
  exact s_vret C rfl (by decide +kernel)
set_option maxRecDepth 20000 in
theorem b_X9_parseTimes_22 {Z : Zt} {d : Nat} {p : Program} {e : Env} {R : Room} {s : State} {m : MethodId} {args : Array Value} {below : List Frame} {meth : Method} {c : Code} {Rp : RT} (C : Cx Z (d + 2) jX9_parseTimes RX9 p R s m args meth c) : Sd Z jX9_parseTimes p e R s m args below meth c (MQ below (QcS Z Rp) args s 0 0 (fun a => Z.2.2.1 < a)) 22 (w_X9_parseTimes_22 (MS Z (d + 2)) (Gw Z 4 p e R s m args below meth c (MQ below (QcS Z Rp) args s 0 0 (fun a => Z.2.2.1 < a))) Rp) := by
  unfold w_X9_parseTimes_22
  refine s_iload_n (k := 3) C (by decide +kernel) ?_
  refine s_iconst (n := 1) C (by decide +kernel) (by decide) ?_
  refine s_icmp_lt (off := 9) (tgt := 33) C (by decide +kernel) (by decide) (b_X9_parseTimes_33 C) ?_
  refine s_iload_n (k := 3) C (by decide +kernel) ?_
  refine s_bipush (n := 50) C (by decide +kernel) (by decide) ?_
  refine s_icmp_le (off := 10) (tgt := 40) C (by decide +kernel) (by decide) (b_X9_parseTimes_40 C) ?_
  exact (b_X9_parseTimes_33 C)
set_option maxRecDepth 20000 in
theorem b_X9_parseTimes_0 {Z : Zt} {d : Nat} {p : Program} {e : Env} {R : Room} {s : State} {m : MethodId} {args : Array Value} {below : List Frame} {meth : Method} {c : Code} {Rp : RT} (C : Cx Z (d + 2) jX9_parseTimes RX9 p R s m args meth c) : Sd Z jX9_parseTimes p e R s m args below meth c (MQ below (QcS Z Rp) args s 0 0 (fun a => Z.2.2.1 < a)) 0 (w_X9_parseTimes_0 (MS Z (d + 2)) (Gw Z 4 p e R s m args below meth c (MQ below (QcS Z Rp) args s 0 0 (fun a => Z.2.2.1 < a))) Rp) := by
  unfold w_X9_parseTimes_0
  refine s_aload_n (k := 0) C (by decide +kernel) ?_
  refine s_fnV C (j2 := jX9_skipBlanks) (cl := 9) (nf := 7) rfl rfl (by decide +kernel) rfl w_4_184 w_4_186 w_p2_7 w_1_11 w_4_187 (by decide +kernel) (fun _ _ _ _ _ h => f_X9_skipBlanks h) (fun _ _ _ _ _ h => r_X9_skipBlanks h) ?_
  refine s_aload_n (k := 0) C (by decide +kernel) ?_
  refine s_getI C w_2_174 (by decide +kernel) rfl ?_
  refine s_istore_n (k := 2) C (by decide +kernel) ?_
  refine s_aload_n (k := 0) C (by decide +kernel) ?_
  refine s_fnV C (j2 := jX9_parseNumber) (cl := 9) (nf := 7) rfl rfl (by decide +kernel) rfl w_5_29 w_5_31 w_p2_15 w_1_11 w_5_32 (by decide +kernel) (fun _ _ _ _ _ h => f_X9_parseNumber h) (fun _ _ _ _ _ h => r_X9_parseNumber h) ?_
  refine s_istore_n (k := 3) C (by decide +kernel) ?_
  refine s_aload_n (k := 0) C (by decide +kernel) ?_
  refine s_getI C w_2_169 (by decide +kernel) rfl ?_
  refine s_if_eq (off := 4) (tgt := 22) C (by decide +kernel) (by decide) (b_X9_parseTimes_22 C) ?_
  exact s_vret C rfl (by decide +kernel)
theorem ms_X9_parseTimes {Z : Zt} {d : Nat} {S : Sh} {μ : Mi} {ρ : Mr} {Rp : RT} (a0 : Nat) (a1 : Nat) (h : ∀ G : Nat → PT, w_X9_parseTimes_0 (MS Z (d + 2)) G Rp [.ref a0, .ref a1, .null, .null] [] S (0, 0) μ ρ) : MS Z (d + 3) jX9_parseTimes [.ref a0, .ref a1] S μ ρ Rp :=
  MS_of [.ref a0, .ref a1, .null, .null] (by decide +kernel) rfl rfl (Nat.le_of_ble_eq_true rfl) rfl (fun p e R s m args below meth c C => b_X9_parseTimes_0 C _ _ _ _ _ _ (h _ ))
def F_X9_parseTimes : FT := fun As S μ ρ k => match As with
  | [.ref a, .ref b] => S.2 a = (9, 7) ∧ a = 856 ∧ b = 859 ∧ PgS S ρ ∧ ∃ (T : Rw) (n p z o : Nat), TpR T n p S μ ρ ∧ p ≤ n ∧ μ 856 3 = 0 ∧ μ 856 4 = -1 ∧ μ 859 7 = nI z ∧ z < 300 ∧ μ 859 8 = nI o ∧ o ≤ 3 ∧ (¬ (tHead T n (3 - o) (p, 0, -1)).2.1 = 0 → ∀ μ', FtF μ μ' (tHead T n (3 - o) (p, 0, -1)).2.1 (tHead T n (3 - o) (p, 0, -1)).2.2 → k none μ') ∧ ((tHead T n (3 - o) (p, 0, -1)).2.1 = 0 → k none (pgA (upI (upI (tM μ (tHead T n (3 - o) (p, 0, -1)).1 (μ 858)) 865 o (nI z)) 859 8 (nI (o + 1))) z 100 (-1) (pNumV T n 0 (p, 0, -1))))
  | _ => False
theorem r_X9_parseTimes {As S μ ρ k} (h : F_X9_parseTimes As S μ ρ k) : ∃ a As', As = Value.ref a :: As' ∧ S.2 a = (9, 7) := by
  unfold F_X9_parseTimes at h
  split at h
  · exact ⟨_, _, rfl, h.1⟩
  · exact h.elim
set_option maxHeartbeats 1000000 in
theorem f_X9_parseTimes {Z : Zt} {d : Nat} {As : List Value} {S : Sh} {μ : Mi} {ρ : Mr} {Rp : RT} (h : F_X9_parseTimes As S μ ρ (fun r μ' => Rp r S μ' ρ)) : MS Z (d + 3) jX9_parseTimes As S μ ρ Rp := by
  unfold F_X9_parseTimes at h
  split at h
  · rename_i a b
    obtain ⟨h1, rfl, rfl, hP, T, n, p, z, o, hT, hpn, e3, e4, e7, hz, e8, ho, hbad, hok⟩ := h
    have hPs := hP.1
    have hTb := hT.1
    obtain ⟨-, -, hn, ep, -, -⟩ := id hT
    obtain ⟨bl1, bl2⟩ := blk_n (T := T) hpn
    obtain ⟨dg1, dg2⟩ := dg_n (T := T) bl2
    obtain ⟨cl1, cl2⟩ := blk_n (T := T) dg2
    have hself := tM_self ep
    refine ms_X9_parseTimes _ _ (fun G => ?_)
    have hT1 : TpR T n (blk T n p) S (tM μ (blk T n p) (μ 858)) ρ := TpR_tM hT (by omega)
    have e0 : upI μ 856 6 (nI (blk T n p)) = tM μ (blk T n p) (μ 858) := by
      have := tM_u (μ := μ) (q := p) (q' := blk T n p) (t := μ 858)
      rw [hself] at this
      exact this
    -- the head's own words
    have hd : ∀ w2 w3 : Int32 × Int32, w2 = (if ¬ (pNum T n 0 (p, 0, -1)).2.1 = 0 ∨ rgd (pNumV T n 0 (p, 0, -1)) 1 50 then (pNum T n 0 (p, 0, -1)).2 else fl (pNum T n 0 (p, 0, -1)).2.1 (pNum T n 0 (p, 0, -1)).2.2 2 (nI (blk T n p))) → w3 = (if ¬ seeT T n (blk T n (dg T n (blk T n p) 0).1) = 123 ∨ ¬ 3 - o = 0 then w2 else fl w2.1 w2.2 3 (nI (blk T n (dg T n (blk T n p) 0).1))) → tHead T n (3 - o) (p, 0, -1) = (blk T n (dg T n (blk T n p) 0).1 + 1, if seeT T n (blk T n (dg T n (blk T n p) 0).1) = 123 then w3 else fl w3.1 w3.2 1 (nI (blk T n (dg T n (blk T n p) 0).1))) := by
      intro w2 w3 h2 h3
      have ep1 : (pNum T n 0 (p, 0, -1)).1 = (dg T n (blk T n p) 0).1 := by unfold pNum; rw [pBeg_0]
      unfold tHead
      dsimp only
      rw [ep1, pBeg_0, ← h2, ← h3]
      unfold pSign
      dsimp only
      rw [blk_blk']
    have pn : (pNum T n 0 (p, 0, -1)).2 = if (dg T n (blk T n p) 0).1 = blk T n p then (1, nI (blk T n p)) else if blk T n p + 3 < (dg T n (blk T n p) 0).1 then (2, nI (blk T n p)) else (0, -1) := by
      unfold pNum
      dsimp only
      rw [pBeg_0]
      by_cases c1 : (dg T n (blk T n p) 0).1 = blk T n p
      · rw [if_pos c1, if_pos c1, if_neg (by omega)]; rfl
      · rw [if_neg c1, if_neg c1]
        by_cases c2 : blk T n p + 3 < (dg T n (blk T n p) 0).1
        · rw [if_pos c2, if_pos c2]; rfl
        · rw [if_neg c2, if_neg c2]
    have bad : ∀ (w wa : Int32) (μ' : Mi), ¬ w = 0 → (tHead T n (3 - o) (p, 0, -1)).2 = (w, wa) → FtF μ μ' w wa → Rp none S μ' ρ := by
      intro w wa μ' hw e hf
      refine hbad (by rw [e]; exact hw) μ' ?_
      rw [e]
      exact hf
    simp only [w_X9_parseTimes_0, tAload, tIload, nth, tGetI, tGetR, tConst, tLconst, tBin, tUn, tI2l, tAld, tAldR, tAlen, tIast, tBast, tZast, tAast, tIret, tZret, tVret, tAret, tIf, tIf2, tGoto, tIstore, tAstore, sset, tIinc, tDup, tDup2, tPop, tPutI, tPutZ, tPutR, tCallV, tCallS, popN, tFn, tCopy, tMax, tMin, tSw, swc, tRem, tObjI, Option.toList, List.nil_append, List.cons_append, okR, true_and, and_true, true_or, or_true, Nat.zero_le, ne_eq, not_false_eq_true, Nat.reduceEqDiff, F_X9_skipBlanks, F_X9_parseNumber, h1]
    refine ⟨T, n, p, hT, T, n, blk T n p, by rw [e0]; exact hT1, bl2, fun v hv => ?_⟩
    rw [e0, tM_u]
    have num : pNumV T n 0 (p, 0, -1) = (dg T n (blk T n p) 0).2 := pNumV_0
    by_cases c1 : (dg T n (blk T n p) 0).1 = blk T n p
    · rw [if_pos c1] at pn
      rw [if_pos c1]
      have ew : upI (upI (tM μ (dg T n (blk T n p) 0).1 (μ 858)) 856 3 1) 856 4 (nI (blk T n p)) 856 3 = 1 := by rw [upI_k (by omega), upI_at]
      simp only [tAload, tIload, nth, tGetI, tGetR, tConst, tLconst, tBin, tUn, tI2l, tAld, tAldR, tAlen, tIast, tBast, tZast, tAast, tIret, tZret, tVret, tAret, tIf, tIf2, tGoto, tIstore, tAstore, sset, tIinc, tDup, tDup2, tPop, tPutI, tPutZ, tPutR, tCallV, tCallS, popN, tFn, tCopy, tMax, tMin, tSw, swc, tRem, tObjI, Option.toList, List.nil_append, List.cons_append, okR, true_and, and_true, true_or, or_true, Nat.zero_le, ne_eq, not_false_eq_true, Nat.reduceEqDiff, h1, ew]
      refine ⟨fun c => absurd c (by decide), fun _ => bad 1 (nI (blk T n p)) _ (by decide) ?_ FtF_tM⟩
      have := hd (1, nI (blk T n p)) (1, nI (blk T n p)) (by rw [pn, if_pos (Or.inl (nz1 _))]) (by rw [fl_st (w := (1, nI (blk T n p))) (nz1 _)]; split <;> rfl)
      rw [this]
      show (if _ then _ else _) = _
      rw [fl_st (w := (1, nI (blk T n p))) (nz1 _)]
      split <;> rfl
    · rw [if_neg c1] at pn
      rw [if_neg c1]
      by_cases c2 : blk T n p + 3 < (dg T n (blk T n p) 0).1
      · rw [if_pos c2] at pn
        rw [if_pos c2]
        have ew : upI (upI (tM μ (dg T n (blk T n p) 0).1 (μ 858)) 856 3 2) 856 4 (nI (blk T n p)) 856 3 = 2 := by rw [upI_k (by omega), upI_at]
        simp only [tAload, tIload, nth, tGetI, tGetR, tConst, tLconst, tBin, tUn, tI2l, tAld, tAldR, tAlen, tIast, tBast, tZast, tAast, tIret, tZret, tVret, tAret, tIf, tIf2, tGoto, tIstore, tAstore, sset, tIinc, tDup, tDup2, tPop, tPutI, tPutZ, tPutR, tCallV, tCallS, popN, tFn, tCopy, tMax, tMin, tSw, swc, tRem, tObjI, Option.toList, List.nil_append, List.cons_append, okR, true_and, and_true, true_or, or_true, Nat.zero_le, ne_eq, not_false_eq_true, Nat.reduceEqDiff, h1, ew]
        refine ⟨fun c => absurd c (by decide), fun _ => bad 2 (nI (blk T n p)) _ (by decide) ?_ FtF_tM⟩
        have := hd (2, nI (blk T n p)) (2, nI (blk T n p)) (by rw [pn, if_pos (Or.inl (nz2 _))]) (by rw [fl_st (w := (2, nI (blk T n p))) (nz2 _)]; split <;> rfl)
        rw [this]
        show (if _ then _ else _) = _
        rw [fl_st (w := (2, nI (blk T n p))) (nz2 _)]
        split <;> rfl
      · rw [if_neg c2] at pn
        rw [if_neg c2]
        have ev := hv (by omega)
        rw [← num] at ev
        subst ev
        have ew : tM μ (dg T n (blk T n p) 0).1 (μ 858) 856 3 = 0 := by rw [tM_k (by omega)]; exact e3
        have er := rg_05 (x := pNumV T n 0 (p, 0, -1)) (lo := 1) (hi := 50) (l := 1) (h := 50) (by decide) (by decide)
        have wrong : ¬ rgd (pNumV T n 0 (p, 0, -1)) 1 50 → w_X9_parseTimes_33 (MS Z (d + 2)) G Rp [.ref 856, .ref 859, .int (nI (blk T n p)), .int (pNumV T n 0 (p, 0, -1))] [] S (0, 0) (tM μ (dg T n (blk T n p) 0).1 (μ 858)) ρ := by
          intro c
          simp only [w_X9_parseTimes_33, tAload, tIload, nth, tGetI, tGetR, tConst, tLconst, tBin, tUn, tI2l, tAld, tAldR, tAlen, tIast, tBast, tZast, tAast, tIret, tZret, tVret, tAret, tIf, tIf2, tGoto, tIstore, tAstore, sset, tIinc, tDup, tDup2, tPop, tPutI, tPutZ, tPutR, tCallV, tCallS, popN, tFn, tCopy, tMax, tMin, tSw, swc, tRem, tObjI, Option.toList, List.nil_append, List.cons_append, okR, true_and, and_true, true_or, or_true, Nat.zero_le, ne_eq, not_false_eq_true, Nat.reduceEqDiff, F_X9_fail, h1]
          refine bad 2 (nI (blk T n p)) _ (by decide) ?_ FtF_tM
          have := hd (2, nI (blk T n p)) (2, nI (blk T n p)) (by rw [pn, if_neg (fun z => z.elim (fun q => q rfl) c)]; rfl) (by rw [fl_st (w := (2, nI (blk T n p))) (nz2 _)]; split <;> rfl)
          rw [this]
          show (if _ then _ else _) = _
          rw [fl_st (w := (2, nI (blk T n p))) (nz2 _)]
          split <;> rfl
        simp only [w_X9_parseTimes_22, tAload, tIload, nth, tGetI, tGetR, tConst, tLconst, tBin, tUn, tI2l, tAld, tAldR, tAlen, tIast, tBast, tZast, tAast, tIret, tZret, tVret, tAret, tIf, tIf2, tGoto, tIstore, tAstore, sset, tIinc, tDup, tDup2, tPop, tPutI, tPutZ, tPutR, tCallV, tCallS, popN, tFn, tCopy, tMax, tMin, tSw, swc, tRem, tObjI, Option.toList, List.nil_append, List.cons_append, okR, true_and, and_true, true_or, or_true, Nat.zero_le, ne_eq, not_false_eq_true, Nat.reduceEqDiff, h1, ew, tM_6]
        refine ⟨fun _ => ⟨fun c => wrong (fun z => (er.mpr z).1 c), fun c => ⟨fun c3 => ?_, fun c3 => wrong (fun z => c3 (er.mpr z).2)⟩⟩, fun c => absurd trivial c⟩
        have cr := er.mp ⟨c, c3⟩
        have hT2 : TpR T n (dg T n (blk T n p) 0).1 S (tM μ (dg T n (blk T n p) 0).1 (μ 858)) ρ := TpR_tM hT (by omega)
        have hT3 : TpR T n (blk T n (dg T n (blk T n p) 0).1) S (tM μ (blk T n (dg T n (blk T n p) 0).1) (μ 858)) ρ := TpR_tM hT (by omega)
        simp only [w_X9_parseTimes_40, w_X9_parseTimes_100, tAload, tIload, nth, tGetI, tGetR, tConst, tLconst, tBin, tUn, tI2l, tAld, tAldR, tAlen, tIast, tBast, tZast, tAast, tIret, tZret, tVret, tAret, tIf, tIf2, tGoto, tIstore, tAstore, sset, tIinc, tDup, tDup2, tPop, tPutI, tPutZ, tPutR, tCallV, tCallS, popN, tFn, tCopy, tMax, tMin, tSw, swc, tRem, tObjI, Option.toList, List.nil_append, List.cons_append, okR, true_and, and_true, true_or, or_true, Nat.zero_le, ne_eq, not_false_eq_true, Nat.reduceEqDiff, F_X9_skipBlanks, F_X9_here, F_X9_fail, h1]
        refine ⟨T, n, _, hT2, T, n, blk T n (dg T n (blk T n p) 0).1, by rw [tM_u]; exact hT3, ?_⟩
        rw [tM_u, tM_6]
        have hd2 := hd (0, -1) (if ¬ seeT T n (blk T n (dg T n (blk T n p) 0).1) = 123 ∨ ¬ 3 - o = 0 then (0, -1) else (3, nI (blk T n (dg T n (blk T n p) 0).1))) (by rw [pn, if_pos (Or.inr cr)]) rfl
        refine ⟨fun c4 => ?_, fun c4 => ?_⟩
        · rw [c4] at hd2
          have y8 : tM μ (blk T n (dg T n (blk T n p) 0).1) (μ 858) 859 8 = nI o := by rw [tM_o (by omega) (by omega)]; exact e8
          have y7 : tM μ (blk T n (dg T n (blk T n p) 0).1 + 1) (μ 858) 859 7 = nI z := by rw [tM_o (by omega) (by omega)]; exact e7
          have y8' : tM μ (blk T n (dg T n (blk T n p) 0).1 + 1) (μ 858) 859 8 = nI o := by rw [tM_o (by omega) (by omega)]; exact e8
          simp only [w_X9_parseTimes_65, w_X9_parseTimes_85, w_X9_parseTimes_100, tAload, tIload, nth, tGetI, tGetR, tConst, tLconst, tBin, tUn, tI2l, tAld, tAldR, tAlen, tIast, tBast, tZast, tAast, tIret, tZret, tVret, tAret, tIf, tIf2, tGoto, tIstore, tAstore, sset, tIinc, tDup, tDup2, tPop, tPutI, tPutZ, tPutR, tCallV, tCallS, popN, tFn, tCopy, tMax, tMin, tSw, swc, tRem, tObjI, Option.toList, List.nil_append, List.cons_append, okR, true_and, and_true, true_or, or_true, Nat.zero_le, ne_eq, not_false_eq_true, Nat.reduceEqDiff, F_X9_fail, F_X4_openLoop, h1, hPs, y8, tM_6, nI_s1, tM_u]
          rw [show (3 : Int32) = nI 3 from rfl, nI_ltI (by omega) (by decide)]
          rw [if_pos rfl] at hd2
          refine ⟨fun c5 => ⟨hP, z, o, y7, hz, y8', c5, ?_⟩, fun c5 => ?_⟩
          · rw [if_pos (Or.inr (by omega))] at hd2
            have := hok (by rw [hd2])
            rw [hd2] at this
            exact this
          · rw [if_neg (fun q => q.elim (fun q => q rfl) (fun q => q (by omega)))] at hd2
            exact bad 3 _ _ (by decide) (by rw [hd2]) FtF_tM
        · rw [if_neg c4, if_pos (Or.inl c4)] at hd2
          exact bad 1 _ _ (by decide) (by rw [hd2]; rfl) FtF_tM
  · exact h.elim
