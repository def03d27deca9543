/-! ===== the class: a script is read ===== -/
def w_X9_parse_98 (M : CT) (G : Nat → PT) (Rp : RT) : PT := tVret Rp
def w_X9_parse_75 (M : CT) (G : Nat → PT) (Rp : RT) : PT := tAload 0 <| tGetI 9 7 3 <| tIf (fun x => x ≠ 0) (w_X9_parse_98 M G Rp) <| tAload 2 <| tGetI 4 10 8 <| tIf (fun x => x ≤ 0) (w_X9_parse_98 M G Rp) <| tAload 0 <| tConst 1 <| tAload 0 <| tGetI 9 7 5 <| tFn 3 F_X9_fail <| w_X9_parse_98 M G Rp
def w_X9_parse_64 (M : CT) (G : Nat → PT) (Rp : RT) : PT := tAload 0 <| tAload 2 <| tCallV M jX9_parseItem 9 7 1 <| tIinc 3 1 <| tGoto (G 32)
def w_X9_parse_32 (M : CT) (G : Nat → PT) (Rp : RT) : PT := tIload 3 <| tConst 300 <| tIf2 (fun x y => y < x) (w_X9_parse_75 M G Rp) <| tAload 0 <| tGetI 9 7 3 <| tIf (fun x => x ≠ 0) (w_X9_parse_75 M G Rp) <| tAload 0 <| tFn 1 F_X9_skipBlanks <| tAload 0 <| tGetI 9 7 6 <| tAload 0 <| tGetI 9 7 5 <| tIf2 (fun x y => x < y) (w_X9_parse_64 M G Rp) <| tGoto (w_X9_parse_75 M G Rp)
def w_X9_parse_0 (M : CT) (G : Nat → PT) (Rp : RT) : PT := tAload 0 <| tConst 0 <| tPutI 9 7 3 <| tAload 0 <| tConst (-1) <| tPutI 9 7 4 <| tAload 0 <| tIload 1 <| tConst 300 <| tMin <| tPutI 9 7 5 <| tAload 0 <| tConst 0 <| tPutI 9 7 6 <| tAload 2 <| tFn 1 F_X4_clear <| tConst 0 <| tIstore 3 <| G 32
set_option maxRecDepth 20000 in
theorem b_X9_parse_98 {Z : Zt} {d : Nat} {p : Program} {e : Env} {R : Room} {s : State} {m : MethodId} {args : Array Value} {below : List Frame} {meth : Method} {c : Code} {Rp : RT} (C : Cx Z (d + 8) jX9_parse RX9 p R s m args meth c) : Sd Z jX9_parse p e R s m args below meth c (MQ below (QcS Z Rp) args s 0 0 (fun a => Z.2.2.1 < a)) 98 (w_X9_parse_98 (MS Z (d + 8)) (Gw Z 4 p e R s m args below meth c (MQ below (QcS Z Rp) args s 0 0 (fun a => Z.2.2.1 < a))) Rp) := by
  unfold w_X9_parse_98
  exact s_vret C rfl (by decide +kernel)
set_option maxRecDepth 20000 in
theorem b_X9_parse_75 {Z : Zt} {d : Nat} {p : Program} {e : Env} {R : Room} {s : State} {m : MethodId} {args : Array Value} {below : List Frame} {meth : Method} {c : Code} {Rp : RT} (C : Cx Z (d + 8) jX9_parse RX9 p R s m args meth c) : Sd Z jX9_parse p e R s m args below meth c (MQ below (QcS Z Rp) args s 0 0 (fun a => Z.2.2.1 < a)) 75 (w_X9_parse_75 (MS Z (d + 8)) (Gw Z 4 p e R s m args below meth c (MQ below (QcS Z Rp) args s 0 0 (fun a => Z.2.2.1 < a))) Rp) := by
  unfold w_X9_parse_75
  refine s_aload_n (k := 0) C (by decide +kernel) ?_
  refine s_getI C w_2_169 (by decide +kernel) rfl ?_
  refine s_if_ne (off := 19) (tgt := 98) C (by decide +kernel) (by decide) (b_X9_parse_98 C) ?_
  refine s_aload_n (k := 2) C (by decide +kernel) ?_
  refine s_getI C w_2_210 (by decide +kernel) rfl ?_
  refine s_if_le (off := 12) (tgt := 98) C (by decide +kernel) (by decide) (b_X9_parse_98 C) ?_
  refine s_aload_n (k := 0) C (by decide +kernel) ?_
  refine s_iconst (n := 1) C (by decide +kernel) (by decide) ?_
  refine s_aload_n (k := 0) C (by decide +kernel) ?_
  refine s_getI C w_2_173 (by decide +kernel) rfl ?_
  refine s_fnV C (j2 := jX9_fail) (cl := 9) (nf := 7) rfl rfl (by decide +kernel) rfl w_5_21 w_5_23 w_p2_13 w_1_11 w_5_24 (by decide +kernel) (fun _ _ _ _ _ h => f_X9_fail h) (fun _ _ _ _ _ h => r_X9_fail h) ?_
  exact (b_X9_parse_98 C)
set_option maxRecDepth 20000 in
theorem b_X9_parse_64 {Z : Zt} {d : Nat} {p : Program} {e : Env} {R : Room} {s : State} {m : MethodId} {args : Array Value} {below : List Frame} {meth : Method} {c : Code} {Rp : RT} (C : Cx Z (d + 8) jX9_parse RX9 p R s m args meth c) : Sd Z jX9_parse p e R s m args below meth c (MQ below (QcS Z Rp) args s 0 0 (fun a => Z.2.2.1 < a)) 64 (w_X9_parse_64 (MS Z (d + 8)) (Gw Z 4 p e R s m args below meth c (MQ below (QcS Z Rp) args s 0 0 (fun a => Z.2.2.1 < a))) Rp) := by
  unfold w_X9_parse_64
  refine s_aload_n (k := 0) C (by decide +kernel) ?_
  refine s_aload_n (k := 2) C (by decide +kernel) ?_
  refine s_callV C rfl rfl (by decide +kernel) rfl w_4_188 w_4_190 w_p2_8 w_1_11 w_4_191 (by decide +kernel) ?_
  refine s_iinc (n := 1) C (by decide +kernel) (by decide) ?_
  exact s_goto (off := (-40)) (tgt := 32) C (by decide +kernel) (by decide) (fun _ _ _ _ _ _ h => h)
set_option maxRecDepth 20000 in
theorem b_X9_parse_32 {Z : Zt} {d : Nat} {p : Program} {e : Env} {R : Room} {s : State} {m : MethodId} {args : Array Value} {below : List Frame} {meth : Method} {c : Code} {Rp : RT} (C : Cx Z (d + 8) jX9_parse RX9 p R s m args meth c) : Sd Z jX9_parse p e R s m args below meth c (MQ below (QcS Z Rp) args s 0 0 (fun a => Z.2.2.1 < a)) 32 (w_X9_parse_32 (MS Z (d + 8)) (Gw Z 4 p e R s m args below meth c (MQ below (QcS Z Rp) args s 0 0 (fun a => Z.2.2.1 < a))) Rp) := by
  unfold w_X9_parse_32
  refine s_iload_n (k := 3) C (by decide +kernel) ?_
  refine s_sipush (n := 300) C (by decide +kernel) (by decide) ?_
  refine s_icmp_gt (off := 39) (tgt := 75) C (by decide +kernel) (by decide) (b_X9_parse_75 C) ?_
  refine s_aload_n (k := 0) C (by decide +kernel) ?_
  refine s_getI C w_2_169 (by decide +kernel) rfl ?_
  refine s_if_ne (off := 32) (tgt := 75) C (by decide +kernel) (by decide) (b_X9_parse_75 C) ?_
  refine s_aload_n (k := 0) C (by decide +kernel) ?_
  refine s_fnV C (j2 := jX9_skipBlanks) (cl := 9) (nf := 7) rfl rfl (by decide +kernel) rfl w_4_184 w_4_186 w_p2_7 w_1_11 w_4_187 (by decide +kernel) (fun _ _ _ _ _ h => f_X9_skipBlanks h) (fun _ _ _ _ _ h => r_X9_skipBlanks h) ?_
  refine s_aload_n (k := 0) C (by decide +kernel) ?_
  refine s_getI C w_2_174 (by decide +kernel) rfl ?_
  refine s_aload_n (k := 0) C (by decide +kernel) ?_
  refine s_getI C w_2_173 (by decide +kernel) rfl ?_
  refine s_icmp_lt (off := 6) (tgt := 64) C (by decide +kernel) (by decide) (b_X9_parse_64 C) ?_
  exact s_goto (off := 14) (tgt := 75) C (by decide +kernel) (by decide) (b_X9_parse_75 C)
set_option maxRecDepth 20000 in
theorem b_X9_parse_0 {Z : Zt} {d : Nat} {p : Program} {e : Env} {R : Room} {s : State} {m : MethodId} {args : Array Value} {below : List Frame} {meth : Method} {c : Code} {Rp : RT} (C : Cx Z (d + 8) jX9_parse RX9 p R s m args meth c) : Sd Z jX9_parse p e R s m args below meth c (MQ below (QcS Z Rp) args s 0 0 (fun a => Z.2.2.1 < a)) 0 (w_X9_parse_0 (MS Z (d + 8)) (Gw Z 4 p e R s m args below meth c (MQ below (QcS Z Rp) args s 0 0 (fun a => Z.2.2.1 < a))) Rp) := by
  unfold w_X9_parse_0
  refine s_aload_n (k := 0) C (by decide +kernel) ?_
  refine s_iconst (n := 0) C (by decide +kernel) (by decide) ?_
  refine s_putI C w_2_169 (by decide +kernel) rfl (Or.inl rfl) ?_
  refine s_aload_n (k := 0) C (by decide +kernel) ?_
  refine s_iconst (n := (-1)) C (by decide +kernel) (by decide) ?_
  refine s_putI C w_2_171 (by decide +kernel) rfl (Or.inl rfl) ?_
  refine s_aload_n (k := 0) C (by decide +kernel) ?_
  refine s_iload_n (k := 1) C (by decide +kernel) ?_
  refine s_sipush (n := 300) C (by decide +kernel) (by decide) ?_
  refine s_min C w_4_179 w_3_84 w_1_16 w_min (by decide +kernel) ?_
  refine s_putI C w_2_173 (by decide +kernel) rfl (Or.inl rfl) ?_
  refine s_aload_n (k := 0) C (by decide +kernel) ?_
  refine s_iconst (n := 0) C (by decide +kernel) (by decide) ?_
  refine s_putI C w_2_174 (by decide +kernel) rfl (Or.inl rfl) ?_
  refine s_aload_n (k := 2) C (by decide +kernel) ?_
  refine s_fnV C (j2 := jX4_clear) (cl := 4) (nf := 10) rfl rfl (by decide +kernel) rfl w_4_180 w_4_181 w_4_182 w_1_12 w_4_183 (by decide +kernel) (fun _ _ _ _ _ h => f_X4_clear h) (fun _ _ _ _ _ h => r_X4_clear h) ?_
  refine s_iconst (n := 0) C (by decide +kernel) (by decide) ?_
  refine s_istore_n (k := 3) C (by decide +kernel) ?_
  exact (fun _ _ _ _ _ _ h => h)
theorem ms_X9_parse {Z : Zt} {d : Nat} {S : Sh} {μ : Mi} {ρ : Mr} {Rp : RT} (a0 : Nat) (x1 : Int32) (a2 : Nat) (h : ∀ G : Nat → PT, (∀ (L st : List Value) (S : Sh) (q : Nat × Nat) (μ : Mi) (ρ : Mr), w_X9_parse_32 (MS Z (d + 8)) G Rp L st S q μ ρ → G 32 L st S q μ ρ) → w_X9_parse_0 (MS Z (d + 8)) G Rp [.ref a0, .int x1, .ref a2, .null] [] S (0, 0) μ ρ) : MS Z (d + 9) jX9_parse [.ref a0, .int x1, .ref a2] S μ ρ Rp :=
  MS_of [.ref a0, .int x1, .ref a2, .null] (by decide +kernel) rfl rfl (Nat.le_of_ble_eq_true rfl) rfl (fun p e R s m args below meth c C => b_X9_parse_0 C _ _ _ _ _ _ (h _ (b_X9_parse_32 C)))
def FrP (μ ν : Mi) : Prop := (∀ a, a ≠ 856 → a ≠ 858 → (a < 859 ∨ 866 ≤ a) → ν a = μ a) ∧ ∀ i, i ≠ 3 → i ≠ 4 → i ≠ 5 → i ≠ 6 → ν 856 i = μ 856 i
def Hd0 (T : Rw) (n : Nat) (S : Sh) (ρ : Mr) (μ ν : Mi) (q : Nat) (t : Rw) (k o : Nat) : Prop := TpR T n q S ν ρ ∧ (ν 856 3 = 0 ∧ ν 856 4 = -1) ∧ ν 858 = t ∧ (ν 859 7 = nI k ∧ ν 859 8 = nI o) ∧ FrP μ ν ∧ q ≤ n ∧ k ≤ q ∧ o ≤ 3
def aEq (ν ν' : Mi) (k : Nat) : Prop := ∀ i, i < k → ν' 860 i = ν 860 i ∧ ν' 861 i = ν 861 i ∧ ν' 862 i = ν 862 i ∧ ν' 863 i = ν 863 i ∧ ν' 864 i = ν 864 i
def oEq (ν ν' : Mi) (o : Nat) : Prop := ∀ j, j < o → ν' 865 j = ν 865 j
def cdA (ν : Mi) (l : List In) (k : Nat) : Prop := codeAt (ν 860) (ν 861) (ν 862) (ν 863) (ν 864) l k
theorem aEq.tr {ν ν' ν'' : Mi} {k k' : Nat} (h : aEq ν ν' k) (h' : aEq ν' ν'' k') (hk : k ≤ k') : aEq ν ν'' k := by
  intro i hi
  obtain ⟨a, b, c, d, e⟩ := h i hi
  obtain ⟨a', b', c', d', e'⟩ := h' i (by omega)
  exact ⟨a'.trans a, b'.trans b, c'.trans c, d'.trans d, e'.trans e⟩
theorem cdA_eq {ν ν' : Mi} : ∀ {l : List In} {k : Nat}, cdA ν l k → aEq ν ν' (k + l.length) → cdA ν' l k := by
  intro l
  induction l with
  | nil => intro k _ _; trivial
  | cons I l ih =>
    intro k h he
    rw [List.length_cons] at he
    obtain ⟨⟨a, b, c, d⟩, h2⟩ := h
    obtain ⟨e0, e1, e2, e3, e4⟩ := he k (by omega)
    refine ⟨⟨by rw [e0]; exact a, by rw [e1]; exact b, by rw [e2]; exact c, fun x y => by rw [e3, e4]; exact d x y⟩, ih h2 (fun i hi => he i (by omega))⟩
theorem FrP_ft {μ ν ν' : Mi} {w wa : Int32} (h : FrP μ ν) (hf : FtF ν ν' w wa) : FrP μ ν' := ⟨fun a a1 a2 a3 => by rw [hf.1 a a1 a2]; exact h.1 a a1 a2 a3, fun i i1 i2 i3 i4 => by rw [hf.2.2.2 i i1 i2 i4]; exact h.2 i i1 i2 i3 i4⟩
theorem FrP_tM {μ ν : Mi} {q : Nat} {t : Rw} (h : FrP μ ν) : FrP μ (tM ν q t) := ⟨fun a a1 a2 a3 => by rw [tM_o a1 a2]; exact h.1 a a1 a2 a3, fun i i1 i2 i3 i4 => by rw [tM_k i4]; exact h.2 i i1 i2 i3 i4⟩
theorem FrP_u {μ ν : Mi} {a i : Nat} {v : Int32} (h : FrP μ ν) (ha : 859 ≤ a ∧ a < 866) : FrP μ (upI ν a i v) := ⟨fun b b1 b2 b3 => by rw [upI_ne (by omega)]; exact h.1 b b1 b2 b3, fun k i1 i2 i3 i4 => by rw [upI_ne (by omega)]; exact h.2 k i1 i2 i3 i4⟩
theorem FrP_pgA {μ ν : Mi} {z : Nat} {a b c : Int32} (h : FrP μ ν) : FrP μ (pgA ν z a b c) := FrP_u (FrP_u (FrP_u (FrP_u h (by omega)) (by omega)) (by omega)) (by omega)
/-- what an item that is put behind leaves -/
theorem pgA_v {ν : Mi} {z : Nat} {a b c : Int32} : pgA ν z a b c 859 7 = nI (z + 1) ∧ (∀ i, i ≠ 7 → pgA ν z a b c 859 i = ν 859 i) ∧ (∀ x, x ≠ 859 → x ≠ 860 → x ≠ 861 → x ≠ 862 → pgA ν z a b c x = ν x) ∧ (pgA ν z a b c 860 z = a ∧ pgA ν z a b c 861 z = b ∧ pgA ν z a b c 862 z = c) ∧ ∀ i, i ≠ z → pgA ν z a b c 860 i = ν 860 i ∧ pgA ν z a b c 861 i = ν 861 i ∧ pgA ν z a b c 862 i = ν 862 i := by
  unfold pgA
  refine ⟨upI_at, fun i hi => by rw [upI_k hi, upI_ne (by omega), upI_ne (by omega), upI_ne (by omega)], fun x h1 h2 h3 h4 => by rw [upI_ne h1, upI_ne h4, upI_ne h3, upI_ne h2], ⟨?_, ?_, ?_⟩, fun i hi => ⟨?_, ?_, ?_⟩⟩
  · rw [upI_ne (by omega), upI_ne (by omega), upI_ne (by omega), upI_at]
  · rw [upI_ne (by omega), upI_ne (by omega), upI_at]
  · rw [upI_ne (by omega), upI_at]
  · rw [upI_ne (by omega), upI_ne (by omega), upI_ne (by omega), upI_k hi]
  · rw [upI_ne (by omega), upI_ne (by omega), upI_k hi, upI_ne (by omega)]
  · rw [upI_ne (by omega), upI_k hi, upI_ne (by omega), upI_ne (by omega)]
section Rd
variable {Z : Zt} {d : Nat} {S : Sh} {μ : Mi} {ρ : Mr} {Rp : RT} {G : Nat → PT} {T : Rw} {n : Nat}
def Af (Z : Zt) (d : Nat) (G : Nat → PT) (Rp : RT) (S : Sh) (ρ : Mr) (n q : Nat) (ν : Mi) : Prop := ∀ i, i ≤ q → (q < n → w_X9_parse_64 (MS Z (d + 8)) G Rp [.ref 856, .int (nI n), .ref 859, .int (nI i)] [] S (0, 0) ν ρ) ∧ (n ≤ q → w_X9_parse_75 (MS Z (d + 8)) G Rp [.ref 856, .int (nI n), .ref 859, .int (nI i)] [] S (0, 0) ν ρ)
def G32 (Z : Zt) (d : Nat) (G : Nat → PT) (Rp : RT) : Prop := ∀ (L st : List Value) (S : Sh) (q : Nat × Nat) (μ : Mi) (ρ : Mr), w_X9_parse_32 (MS Z (d + 8)) G Rp L st S q μ ρ → G 32 L st S q μ ρ
theorem tM_v8 {ν : Mi} {q q' : Nat} {t : Rw} (ht : ν 858 = t) (hq : ν 856 6 = nI q) : upI ν 856 6 (nI q') = tM ν q' t := by
  have := tM_u (μ := ν) (q := q) (q' := q') (t := ν 858)
  rw [tM_self hq] at this
  rw [← ht]
  exact this
theorem hd_af (g : G32 Z d G Rp) {ν : Mi} {p k o i : Nat} {t : Rw} (h : Hd0 T n S ρ μ ν p t k o) (hi : i ≤ p) (ha : Af Z d G Rp S ρ n (blk T n p) (tM ν (blk T n p) t)) : G 32 [.ref 856, .int (nI n), .ref 859, .int (nI i)] [] S (0, 0) ν ρ := by
  obtain ⟨hT, ⟨e3, e4⟩, et, ⟨e7, e8⟩, hf, hp, hk, ho⟩ := h
  have t1 := hT.1.1
  have hn := hT.2.2.1
  have ep := hT.2.2.2.1
  obtain ⟨b1, b2⟩ := blk_n (T := T) hp
  obtain ⟨a1, a2⟩ := ha i (by omega)
  apply g
  simp only [w_X9_parse_32, tAload, tIload, nth, tGetI, tGetR, tConst, tLconst, tBin, tUn, tI2l, tAld, tAldR, tAlen, tIast, tBast, tZast, tAast, tIret, tZret, tVret, tAret, tIf, tIf2, tGoto, tIstore, tAstore, sset, tIinc, tDup, tDup2, tPop, tPutI, tPutZ, tPutR, tCallV, tCallS, popN, tFn, tCopy, tMax, tMin, tSw, swc, tRem, tObjI, Option.toList, List.nil_append, List.cons_append, okR, true_and, and_true, true_or, or_true, Nat.zero_le, ne_eq, not_false_eq_true, Nat.reduceEqDiff, F_X9_skipBlanks, t1, e3]
  refine ⟨fun c => absurd c (by rw [show (300 : Int32) = nI 300 from rfl, nI_ltI (by decide) (by omega)]; omega), fun _ => ⟨fun c => absurd trivial c, fun _ => ⟨T, n, p, hT, ?_⟩⟩⟩
  have e5 : upI ν 856 6 (nI (blk T n p)) 856 5 = nI n := by rw [upI_k (by omega)]; exact hT.2.1
  rw [upI_at, e5, nI_ltI (by omega) (by omega), tM_v8 et ep]
  exact ⟨fun c => a1 c, fun c => a2 (by omega)⟩
theorem hd_bad (g : G32 Z d G Rp) (t1 : S.2 856 = (9, 7)) {ν : Mi} {i : Nat} (hi : i ≤ 301) (hw : ¬ ν 856 3 = 0) (h : Rp none S ν ρ) : G 32 [.ref 856, .int (nI n), .ref 859, .int (nI i)] [] S (0, 0) ν ρ := by
  have out : w_X9_parse_75 (MS Z (d + 8)) G Rp [.ref 856, .int (nI n), .ref 859, .int (nI i)] [] S (0, 0) ν ρ := by
    simp only [w_X9_parse_75, w_X9_parse_98, tAload, tIload, nth, tGetI, tGetR, tConst, tLconst, tBin, tUn, tI2l, tAld, tAldR, tAlen, tIast, tBast, tZast, tAast, tIret, tZret, tVret, tAret, tIf, tIf2, tGoto, tIstore, tAstore, sset, tIinc, tDup, tDup2, tPop, tPutI, tPutZ, tPutR, tCallV, tCallS, popN, tFn, tCopy, tMax, tMin, tSw, swc, tRem, tObjI, Option.toList, List.nil_append, List.cons_append, okR, true_and, and_true, true_or, or_true, Nat.zero_le, ne_eq, not_false_eq_true, Nat.reduceEqDiff, t1]
    exact ⟨fun _ => h, fun c => absurd c (fun y => y hw)⟩
  apply g
  simp only [w_X9_parse_32, tAload, tIload, nth, tGetI, tGetR, tConst, tLconst, tBin, tUn, tI2l, tAld, tAldR, tAlen, tIast, tBast, tZast, tAast, tIret, tZret, tVret, tAret, tIf, tIf2, tGoto, tIstore, tAstore, sset, tIinc, tDup, tDup2, tPop, tPutI, tPutZ, tPutR, tCallV, tCallS, popN, tFn, tCopy, tMax, tMin, tSw, swc, tRem, tObjI, Option.toList, List.nil_append, List.cons_append, okR, true_and, and_true, true_or, or_true, Nat.zero_le, ne_eq, not_false_eq_true, Nat.reduceEqDiff, t1]
  exact ⟨fun _ => out, fun _ => ⟨fun _ => out, fun c => absurd c (fun y => y hw)⟩⟩
/-- acts are read as they are told -/
def RdOK (Z : Zt) (d : Nat) (G : Nat → PT) (Rp : RT) (S : Sh) (ρ : Mr) (μ : Mi) (T : Rw) (n dd : Nat) (bC : Nat → Cs → Cs × List In) : Prop := ∀ (p : Nat) (t : Rw) (k : Nat) (ν : Mi) (B : Cs × List In), bC k ((p, 0, -1), t) = B → Hd0 T n S ρ μ ν (blk T n p) t k (3 - dd) →
  (¬ B.1.1.2.1 = 0 → ∀ ν', FrP μ ν' → ν' 856 3 = B.1.1.2.1 → ν' 856 4 = B.1.1.2.2 → Rp none S ν' ρ) →
  (B.1.1.2.1 = 0 → ∀ ν', Hd0 T n S ρ μ ν' B.1.1.1 B.1.2 (k + B.2.length) (3 - dd) → cdA ν' B.2 k → aEq ν ν' k → oEq ν ν' (3 - dd) → blk T n B.1.1.1 = B.1.1.1 → ¬ rgd (seeT T n B.1.1.1) 97 122 → blk T n p ≤ B.1.1.1 → Af Z d G Rp S ρ n B.1.1.1 ν') → Af Z d G Rp S ρ n (blk T n p) ν
/-- at a place where nothing of a script can stand -/
theorem no_word {T : Rw} {n q : Nat} (h : ¬ rgd (seeT T n q) 97 122) : qWordFrom T q (ltr T n q) = -1 := by
  have e : ltr T n q = q := ltr_e h
  rw [e]
  have key : ∀ m j, j + m = 18 → wfF T q q m j = -1 := by
    intro m
    induction m with
    | zero => intro j _; rfl
    | succ m ih =>
      intro j hj
      rw [wfF_s]
      have l := ln_1 j (by omega)
      have : mtW T q q j = 0 := by
        unfold mtW
        rw [if_pos (by omega), eqI_0]
      rw [if_pos this]
      exact ih (j + 1) (by omega)
  exact key 18 0 rfl
theorem rd_loop (hZ : ZX Z) (hP : PgS S ρ) (hby : byT T n) (g : G32 Z d G Rp) {dd : Nat} {bC : Nat → Cs → Cs × List In} (hdd : dd ≤ 3) (hb : ∀ d0, dd = d0 + 1 → RdOK Z d G Rp S ρ μ T n d0 bC) (hbo : ∀ k X, okw X.1.2 → okw (bC k X).1.1.2) :
    ∀ (m q : Nat) (t : Rw) (k : Nat) (ν : Mi) (B : Cs × List In), n + 1 ≤ q + m → blk T n q = q → cLoop T n dd bC m k ((q, 0, -1), t) = B → Hd0 T n S ρ μ ν q t k (3 - dd) →
  (¬ B.1.1.2.1 = 0 → ∀ ν', FrP μ ν' → ν' 856 3 = B.1.1.2.1 → ν' 856 4 = B.1.1.2.2 → Rp none S ν' ρ) →
  (B.1.1.2.1 = 0 → ∀ ν', Hd0 T n S ρ μ ν' B.1.1.1 B.1.2 (k + B.2.length) (3 - dd) → cdA ν' B.2 k → aEq ν ν' k → oEq ν ν' (3 - dd) → blk T n B.1.1.1 = B.1.1.1 → ¬ rgd (seeT T n B.1.1.1) 97 122 → q ≤ B.1.1.1 → Af Z d G Rp S ρ n B.1.1.1 ν') → Af Z d G Rp S ρ n q ν := by
  intro m
  induction m with
  | zero =>
    intro q t k ν B hm hq hB hH hbad hok
    have hqn := hH.2.2.2.2.2.1
    omega
  | succ m ih =>
    intro q t k ν B hm hq hB hH hbad hok
    obtain ⟨hT, ⟨e3, e4⟩, et, ⟨e7, e8⟩, hf, hqn, hkq, ho⟩ := id hH
    have t1 := hT.1.1
    have hn := hT.2.2.1
    by_cases c1 : rgd (seeT T n q) 97 122
    · have hlt : q < n := see_lt c1 (by decide)
      have n125 : ¬ (seeT T n q = 125 ∧ 1 ≤ 3 - dd) := fun y => by
        have := c1.2
        rw [y.1] at this
        exact absurd this (by decide)
      obtain ⟨l1, l2⟩ := ltr_le (T := T) hqn
      have lq : q + 1 ≤ ltr T n q := by
        rw [ltr_s c1]
        exact (ltr_le (T := T) (by omega : q + 1 ≤ n)).1
      have epw : pWordV T n (q, 0, -1) = qWordFrom T q (ltr T n q) := by unfold pWordV; rw [hq]
      intro i hi
      refine ⟨fun _ => ?_, fun y => by omega⟩
      have bad : ∀ (w wa : Int32) (μ' : Mi), ¬ w = 0 → B.1.1.2 = (w, wa) → FtF ν μ' w wa → G 32 [.ref 856, .int (nI n), .ref 859, .int (nI (i + 1))] [] S (0, 0) μ' ρ := by
        intro w wa μ' hw eB hft
        refine hd_bad g t1 (by omega) (by rw [hft.2.1]; exact hw) (hbad (by rw [eB]; exact hw) μ' (FrP_ft hf hft) (by rw [eB]; exact hft.2.1) (by rw [eB]; exact hft.2.2.1))
      simp only [w_X9_parse_64, tAload, tIload, nth, tGetI, tGetR, tConst, tLconst, tBin, tUn, tI2l, tAld, tAldR, tAlen, tIast, tBast, tZast, tAast, tIret, tZret, tVret, tAret, tIf, tIf2, tGoto, tIstore, tAstore, sset, tIinc, tDup, tDup2, tPop, tPutI, tPutZ, tPutR, tCallV, tCallS, popN, tFn, tCopy, tMax, tMin, tSw, swc, tRem, tObjI, Option.toList, List.nil_append, List.cons_append, okR, true_and, and_true, true_or, or_true, Nat.zero_le, ne_eq, not_false_eq_true, Nat.reduceEqDiff, t1]
      refine f_X9_parseItem (d := d) hZ hP hT hby hqn e3 e4 e7 (by omega) e8 ho (fun y1 y2 => absurd ⟨y1, y2⟩ n125) ?_ ?_ ?_
      · intro _ ew μ' hft
        show G 32 [.ref 856, .int (nI n), .ref 859, .int (nI i + 1)] [] S (0, 0) μ' ρ
        rw [nI_s1]
        have ewv : pWord T n (q, 0, -1) = (ltr T n q, 1, nI q) := by
          unfold pWord
          rw [epw, ew, if_neg (fun y => y rfl), hq]
          rfl
        have := cLoop_no (T := T) (n := n) (dd := dd) (m := m) (k := k) (bC := bC) (X := ((q, 0, -1), t)) rfl c1 (by rw [ewv]; exact nz1 _)
        rw [this, ewv] at hB
        exact bad 1 (nI q) μ' (by decide) (by rw [← hB]) hft
      · intro _ ew
        have epd : 3 - (3 - dd) = dd := by omega
        rw [epd]
        have ewv : pWord T n (q, 0, -1) = (ltr T n q, 0, -1) := by
          unfold pWord
          rw [epw, ew, if_pos (by decide), hq]
        have cg := fun Y hY => cLoop_go (T := T) (n := n) (dd := dd) (m := m) (k := k) (bC := bC) (X := ((q, 0, -1), t)) (Y := Y) hY rfl c1 (by rw [ewv])
        have ci : cItem T n dd bC k ((q, 0, -1), t) = cTimes T n dd bC k ((ltr T n q, 0, -1), t) := by
          unfold cItem
          rw [epw, if_neg (fun y => y ew), ewv]
        obtain ⟨H, hH0⟩ : ∃ H, tHead T n dd (ltr T n q, 0, -1) = H := ⟨_, rfl⟩
        rw [hH0]
        refine ⟨fun hb0 μ' hft => ?_, fun hb0 => ?_⟩
        · show G 32 [.ref 856, .int (nI n), .ref 859, .int (nI i + 1)] [] S (0, 0) μ' ρ
          rw [nI_s1]
          have cw := cTimes_w (T := T) (n := n) (dd := dd) (k := k) (bC := bC) (X := ((ltr T n q, 0, -1), t)) (by rw [hH0]; exact hb0)
          rw [hH0] at cw
          rw [cg _ (ci.trans cw)] at hB
          rw [cLoop_x (X := ((blk T n H.1, H.2), t)) (Or.inl hb0)] at hB
          exact bad _ _ μ' hb0 (by rw [← hB]) hft
        · show G 32 [.ref 856, .int (nI n), .ref 859, .int (nI i + 1)] [] S (0, 0) (pgA (upI (upI (tM ν H.1 (ν 858)) 865 (3 - dd) (nI k)) 859 8 (nI (3 - dd + 1))) k 100 (-1) (pNumV T n 0 (ltr T n q, 0, -1))) ρ
          rw [nI_s1, et]
          have hd1 : ∃ d0, dd = d0 + 1 := by
            cases dd with
            | zero => rw [← hH0] at hb0; exact absurd hb0 tHead_0
            | succ d0 => exact ⟨d0, rfl⟩
          obtain ⟨d0, hd0⟩ := hd1
          obtain ⟨h1, h2⟩ := tHead_n (T := T) (n := n) (dd := dd) (P := (ltr T n q, 0, -1)) l2 (by rw [hH0]; exact hb0)
          rw [hH0] at h1 h2
          dsimp only at h1
          have okH : okw H.2 := by rw [← hH0]; exact tHead_ok (Or.inl rfl)
          have eH : H.2 = (0, -1) := okw_0 okH hb0
          obtain ⟨hb1, hb2⟩ := blk_n (T := T) h2
          obtain ⟨ν1, hν1⟩ : ∃ ν1, ν1 = pgA (upI (upI (tM ν H.1 t) 865 (3 - dd) (nI k)) 859 8 (nI (3 - dd + 1))) k 100 (-1) (pNumV T n 0 (ltr T n q, 0, -1)) := ⟨_, rfl⟩
          rw [← hν1]
          obtain ⟨p1, p2, p3, p4, p5⟩ := pgA_v (ν := upI (upI (tM ν H.1 t) 865 (3 - dd) (nI k)) 859 8 (nI (3 - dd + 1))) (z := k) (a := 100) (b := -1) (c := pNumV T n 0 (ltr T n q, 0, -1))
          rw [← hν1] at p1 p2 p3 p4 p5
          have x856 : ν1 856 = tM ν H.1 t 856 := by rw [p3 _ (by omega) (by omega) (by omega) (by omega), upI_ne (by omega), upI_ne (by omega)]
          have x857 : ν1 857 = ν 857 := by rw [p3 _ (by omega) (by omega) (by omega) (by omega), upI_ne (by omega), upI_ne (by omega), tM_o (by omega) (by omega)]
          have x858 : ν1 858 = t := by rw [p3 _ (by omega) (by omega) (by omega) (by omega), upI_ne (by omega), upI_ne (by omega), tM_t]
          have x8 : ν1 859 8 = nI (3 - d0) := by rw [p2 _ (by omega), upI_at]; congr 1; omega
          have xo : ν1 865 (3 - dd) = nI k := by rw [p3 _ (by omega) (by omega) (by omega) (by omega), upI_ne (by omega), upI_at]
          have xo2 : ∀ j, j < 3 - dd → ν1 865 j = ν 865 j := fun j hj => by rw [p3 _ (by omega) (by omega) (by omega) (by omega), upI_ne (by omega), upI_k (by omega), tM_o (by omega) (by omega)]
          have xa : aEq ν ν1 k := by
            intro j hj
            obtain ⟨a1, a2, a3⟩ := p5 j (by omega)
            refine ⟨by rw [a1, upI_ne (by omega), upI_ne (by omega), tM_o (by omega) (by omega)], by rw [a2, upI_ne (by omega), upI_ne (by omega), tM_o (by omega) (by omega)], by rw [a3, upI_ne (by omega), upI_ne (by omega), tM_o (by omega) (by omega)], ?_, ?_⟩
            · rw [p3 _ (by omega) (by omega) (by omega) (by omega), upI_ne (by omega), upI_ne (by omega), tM_o (by omega) (by omega)]
            · rw [p3 _ (by omega) (by omega) (by omega) (by omega), upI_ne (by omega), upI_ne (by omega), tM_o (by omega) (by omega)]
          have hfr1 : FrP μ ν1 := by rw [hν1]; exact FrP_pgA (FrP_u (FrP_u (FrP_tM hf) (by omega)) (by omega))
          have hH1 : Hd0 T n S ρ μ ν1 H.1 t (k + 1) (3 - d0) := by
            refine ⟨⟨hT.1, by rw [x856, tM_k (by omega)]; exact hT.2.1, hn, by rw [x856, tM_6], by omega, fun j hj => by rw [x857]; exact hT.2.2.2.2.2 j hj⟩, ⟨by rw [x856, tM_k (by omega)]; exact e3, by rw [x856, tM_k (by omega)]; exact e4⟩, x858, ⟨p1, x8⟩, hfr1, h2, by omega, by omega⟩
          refine hd_af g hH1 (by omega) ?_
          have hH2 : Hd0 T n S ρ μ (tM ν1 (blk T n H.1) t) (blk T n H.1) t (k + 1) (3 - d0) := by
            obtain ⟨y1, ⟨y2, y3⟩, y4, ⟨y5, y6⟩, y7, y8, y9, y10⟩ := hH1
            exact ⟨TpR_tM y1 (by omega), ⟨by rw [tM_k (by omega)]; exact y2, by rw [tM_k (by omega)]; exact y3⟩, tM_t, ⟨by rw [tM_o (by omega) (by omega)]; exact y5, by rw [tM_o (by omega) (by omega)]; exact y6⟩, FrP_tM y7, hb2, by omega, y10⟩
          have eHp : H = (H.1, 0, -1) := by rw [← eH]
          obtain ⟨B0, hB0⟩ : ∃ B0, bC (k + 1) (H, t) = B0 := ⟨_, rfl⟩
          refine hb d0 hd0 H.1 t (k + 1) (tM ν1 (blk T n H.1) t) B0 (by rw [← eHp]; exact hB0) hH2 (fun w0 ν' f1 f2 f3 => ?_) (fun w0 ν' z1 z2 z3 z4 z5 z6 z9 => ?_)
          · have cb := cTimes_b (T := T) (n := n) (dd := dd) (k := k) (bC := bC) (X := ((ltr T n q, 0, -1), t)) (B := B0) (by rw [hH0]; exact hB0) (by rw [hH0]; exact hb0) w0
            rw [cg _ (ci.trans cb)] at hB
            rw [cLoop_x (X := ((blk T n B0.1.1.1, B0.1.1.2), B0.1.2)) (Or.inl w0)] at hB
            have eB : B.1.1.2 = B0.1.1.2 := by rw [← hB]
            exact hbad (by rw [eB]; exact w0) ν' f1 (by rw [eB]; exact f2) (by rw [eB]; exact f3)
          · have cgg := cTimes_g (T := T) (n := n) (dd := dd) (k := k) (bC := bC) (X := ((ltr T n q, 0, -1), t)) (B := B0) (by rw [hH0]; exact hB0) (by rw [hH0]; exact hb0) w0
            rw [cg _ (ci.trans cgg)] at hB
            obtain ⟨zT, ⟨zf1, zf2⟩, zt, ⟨z7, z8⟩, zf, zn, zk, zo⟩ := id z1
            have okB : okw B0.1.1.2 := by rw [← hB0]; exact hbo _ _ okH
            have eB0 : B0.1.1.2 = (0, -1) := okw_0 okB w0
            have ov : ν' 865 (3 - dd) = nI k := by rw [z4 _ (by omega), tM_o (by omega) (by omega)]; exact xo
            intro i' hi'
            -- a bracket is wanting
            have badQ : ∀ (μ' : Mi), ¬ seeT T n B0.1.1.1 = 125 → FtF ν' μ' 1 (nI B0.1.1.1) → Rp none S μ' ρ ∧ ¬ μ' 856 3 = 0 := by
              intro μ' hs hft
              have eq : (pSign T n 125 B0.1.1).2 = (1, nI B0.1.1.1) := by
                unfold pSign
                dsimp only
                rw [z5, if_neg hs, eB0]
                rfl
              dsimp only at hB
              rw [eq, cLoop_x (X := ((blk T n (pSign T n 125 B0.1.1).1, 1, nI B0.1.1.1), B0.1.2)) (Or.inl (nz1 _))] at hB
              have eB : B.1.1.2 = (1, nI B0.1.1.1) := by rw [← hB]
              exact ⟨hbad (by rw [eB]; exact nz1 _) μ' (FrP_ft zf hft) (by rw [eB]; exact hft.2.1) (by rw [eB]; exact hft.2.2.1), by rw [hft.2.1]; decide⟩
            refine ⟨fun hlt2 => ?_, fun hge => ?_⟩
            · simp only [w_X9_parse_64, tAload, tIload, nth, tGetI, tGetR, tConst, tLconst, tBin, tUn, tI2l, tAld, tAldR, tAlen, tIast, tBast, tZast, tAast, tIret, tZret, tVret, tAret, tIf, tIf2, tGoto, tIstore, tAstore, sset, tIinc, tDup, tDup2, tPop, tPutI, tPutZ, tPutR, tCallV, tCallS, popN, tFn, tCopy, tMax, tMin, tSw, swc, tRem, tObjI, Option.toList, List.nil_append, List.cons_append, okR, true_and, and_true, true_or, or_true, Nat.zero_le, ne_eq, not_false_eq_true, Nat.reduceEqDiff, t1]
              by_cases cs : seeT T n B0.1.1.1 = 125
              · refine f_X9_parseItem (d := d) hZ hP zT hby zn zf1 zf2 z7 (by omega) z8 zo ?_ (fun y => absurd ⟨cs, by omega⟩ y) (fun y => absurd ⟨cs, by omega⟩ y) (fun y => absurd ⟨cs, by omega⟩ y)
                intro _ _
                have e31 : 3 - d0 - 1 = 3 - dd := by omega
                rw [e31]
                have eqs : pSign T n 125 B0.1.1 = (B0.1.1.1 + 1, 0, -1) := by
                  unfold pSign
                  rw [z5, if_pos cs, eB0]
                rw [eqs] at hB
                dsimp only at hB
                have nl : B0.1.1.1 + 1 ≤ n := by omega
                obtain ⟨nb1, nb2⟩ := blk_n (T := T) nl
                -- on behind the bracket, with the size and the items so far
                have go : ∀ (ν2 : Mi) (kk : Nat), kk = (if B0.2.length = 0 then k else k + 2 + B0.2.length) → Hd0 T n S ρ μ ν2 (B0.1.1.1 + 1) B0.1.2 kk (3 - dd) → aEq ν ν2 k → oEq ν ν2 (3 - dd) → (¬ B0.2.length = 0 → cdA ν2 ((100, -1, pNumV T n 0 (ltr T n q, 0, -1), 0, 0) :: (B0.2 ++ [(101, -1, nI k, 0, 0)])) k) → G 32 [.ref 856, .int (nI n), .ref 859, .int (nI (i' + 1))] [] S (0, 0) ν2 ρ := by
                  intro ν2 kk hkk h20 ha2 ho2 hc2
                  obtain ⟨V2, hV2⟩ : ∃ V2 : List In, V2 = if B0.2.length = 0 then [] else (100, -1, pNumV T n 0 (ltr T n q, 0, -1), 0, 0) :: (B0.2 ++ [(101, -1, nI k, 0, 0)]) := ⟨_, rfl⟩
                  rw [← hV2] at hB
                  have el : k + V2.length = kk := by
                    rw [hV2, hkk]
                    by_cases c : B0.2.length = 0
                    · rw [if_pos c, if_pos c]; rfl
                    · rw [if_neg c, if_neg c]
                      simp
                      omega
                  have hcV : cdA ν2 V2 k := by
                    rw [hV2]
                    by_cases c : B0.2.length = 0
                    · rw [if_pos c]; trivial
                    · rw [if_neg c]; exact hc2 c
                  refine hd_af g h20 (by omega) ?_
                  obtain ⟨y1, ⟨y2, y3⟩, y4, ⟨y5, y6⟩, y7, y8, y9, y10⟩ := id h20
                  have h21 : Hd0 T n S ρ μ (tM ν2 (blk T n (B0.1.1.1 + 1)) B0.1.2) (blk T n (B0.1.1.1 + 1)) B0.1.2 (k + V2.length) (3 - dd) := by
                    rw [el]
                    exact ⟨TpR_tM y1 (by omega), ⟨by rw [tM_k (by omega)]; exact y2, by rw [tM_k (by omega)]; exact y3⟩, tM_t, ⟨by rw [tM_o (by omega) (by omega)]; exact y5, by rw [tM_o (by omega) (by omega)]; exact y6⟩, FrP_tM y7, nb2, by omega, y10⟩
                  obtain ⟨W, hW⟩ : ∃ W, cLoop T n dd bC m (k + V2.length) ((blk T n (B0.1.1.1 + 1), 0, -1), B0.1.2) = W := ⟨_, rfl⟩
                  rw [hW] at hB
                  have eB1 : B.1 = W.1 := by rw [← hB]
                  have eB2 : B.2 = V2 ++ W.2 := by rw [← hB]
                  refine ih (blk T n (B0.1.1.1 + 1)) B0.1.2 (k + V2.length) _ W (by omega) blk_blk' hW h21 (fun w1 => by rw [← eB1] at w1 ⊢; exact hbad w1) (fun w1 ν3 u1 u2 u3 u4 u5 u6 u7 => ?_)
                  rw [← eB1] at w1 u1 u5 u6 u7 ⊢
                  have ha3 : aEq ν2 ν3 (k + V2.length) := by
                    intro j hj
                    have := u3 j hj
                    rw [tM_o (by omega) (by omega), tM_o (by omega) (by omega), tM_o (by omega) (by omega), tM_o (by omega) (by omega), tM_o (by omega) (by omega)] at this
                    exact this
                  refine hok w1 ν3 (by rw [eB2, List.length_append, ← Nat.add_assoc]; exact u1) ?_ (ha2.tr ha3 (by omega)) (fun j hj => ?_) u5 u6 (by omega)
                  · rw [eB2]
                    exact codeAt_app.mpr ⟨cdA_eq hcV ha3, u2⟩
                  · rw [u4 j hj, tM_o (by omega) (by omega)]; exact ho2 j hj
                have hmo : aEq ν ν' k := by
                  intro j hj
                  obtain ⟨a1, a2, a3, a4, a5⟩ := z3 j (by omega)
                  rw [tM_o (by omega) (by omega)] at a1 a2 a3 a4 a5
                  obtain ⟨c1', c2', c3', c4', c5'⟩ := xa j hj
                  exact ⟨a1.trans c1', a2.trans c2', a3.trans c3', a4.trans c4', a5.trans c5'⟩
                have hoo : ∀ j, j < 3 - dd → ν' 865 j = ν 865 j := fun j hj => by rw [z4 j (by omega), tM_o (by omega) (by omega)]; exact xo2 j hj
                refine ⟨k, ov, by omega, fun ez => ?_, fun ez => ?_⟩
                · show G 32 [.ref 856, .int (nI n), .ref 859, .int (nI i' + 1)] [] S (0, 0) (upI (upI (tM ν' (B0.1.1.1 + 1) (ν' 858)) 859 8 (nI (3 - dd))) 859 7 (nI k)) ρ
                  rw [nI_s1, zt]
                  have l0 : B0.2.length = 0 := by omega
                  obtain ⟨ν2, hν2⟩ : ∃ ν2, ν2 = upI (upI (tM ν' (B0.1.1.1 + 1) B0.1.2) 859 8 (nI (3 - dd))) 859 7 (nI k) := ⟨_, rfl⟩
                  rw [← hν2]
                  have q0 : ∀ a, a ≠ 859 → ν2 a = tM ν' (B0.1.1.1 + 1) B0.1.2 a := fun a ha => by rw [hν2, upI_ne ha, upI_ne ha]
                  refine go ν2 k (by rw [if_pos l0]) ⟨⟨hT.1, by rw [q0 _ (by omega), tM_k (by omega)]; exact zT.2.1, hn, by rw [q0 _ (by omega), tM_6], by omega, fun j hj => by rw [q0 _ (by omega), tM_o (by omega) (by omega)]; exact zT.2.2.2.2.2 j hj⟩, ⟨by rw [q0 _ (by omega), tM_k (by omega)]; exact zf1, by rw [q0 _ (by omega), tM_k (by omega)]; exact zf2⟩, by rw [q0 _ (by omega), tM_t], ⟨by rw [hν2, upI_at], by rw [hν2, upI_k (by omega), upI_at]⟩, by rw [hν2]; exact FrP_u (FrP_u (FrP_tM zf) (by omega)) (by omega), nl, by omega, by omega⟩ (fun j hj => ?_) (fun j hj => ?_) (fun y => absurd l0 y)
                  · rw [q0 _ (by omega), q0 _ (by omega), q0 _ (by omega), q0 _ (by omega), q0 _ (by omega), tM_o (by omega) (by omega), tM_o (by omega) (by omega), tM_o (by omega) (by omega), tM_o (by omega) (by omega), tM_o (by omega) (by omega)]
                    exact hmo j hj
                  · rw [q0 _ (by omega), tM_o (by omega) (by omega)]; exact hoo j hj
                · show G 32 [.ref 856, .int (nI n), .ref 859, .int (nI i' + 1)] [] S (0, 0) (pgA (upI (tM ν' (B0.1.1.1 + 1) (ν' 858)) 859 8 (nI (3 - dd))) (k + 1 + B0.2.length) 101 (-1) (nI k)) ρ
                  rw [nI_s1, zt]
                  have l0 : ¬ B0.2.length = 0 := by omega
                  obtain ⟨ν2, hν2⟩ : ∃ ν2, ν2 = pgA (upI (tM ν' (B0.1.1.1 + 1) B0.1.2) 859 8 (nI (3 - dd))) (k + 1 + B0.2.length) 101 (-1) (nI k) := ⟨_, rfl⟩
                  rw [← hν2]
                  obtain ⟨r1, r2, r3, r4, r5⟩ := pgA_v (ν := upI (tM ν' (B0.1.1.1 + 1) B0.1.2) 859 8 (nI (3 - dd))) (z := k + 1 + B0.2.length) (a := 101) (b := -1) (c := nI k)
                  rw [← hν2] at r1 r2 r3 r4 r5
                  have q0 : ∀ a, a ≠ 859 → a ≠ 860 → a ≠ 861 → a ≠ 862 → ν2 a = tM ν' (B0.1.1.1 + 1) B0.1.2 a := fun a b1 b2 b3 b4 => by rw [r3 a b1 b2 b3 b4, upI_ne b1]
                  have ha4 : aEq ν' ν2 (k + 1 + B0.2.length) := by
                    intro j hj
                    obtain ⟨a1, a2, a3⟩ := r5 j (by omega)
                    refine ⟨by rw [a1, upI_ne (by omega), tM_o (by omega) (by omega)], by rw [a2, upI_ne (by omega), tM_o (by omega) (by omega)], by rw [a3, upI_ne (by omega), tM_o (by omega) (by omega)], by rw [q0 _ (by omega) (by omega) (by omega) (by omega), tM_o (by omega) (by omega)], by rw [q0 _ (by omega) (by omega) (by omega) (by omega), tM_o (by omega) (by omega)]⟩
                  refine go ν2 (k + 2 + B0.2.length) (by rw [if_neg l0]) ⟨⟨hT.1, by rw [q0 _ (by omega) (by omega) (by omega) (by omega), tM_k (by omega)]; exact zT.2.1, hn, by rw [q0 _ (by omega) (by omega) (by omega) (by omega), tM_6], by omega, fun j hj => by rw [q0 _ (by omega) (by omega) (by omega) (by omega), tM_o (by omega) (by omega)]; exact zT.2.2.2.2.2 j hj⟩, ⟨by rw [q0 _ (by omega) (by omega) (by omega) (by omega), tM_k (by omega)]; exact zf1, by rw [q0 _ (by omega) (by omega) (by omega) (by omega), tM_k (by omega)]; exact zf2⟩, by rw [q0 _ (by omega) (by omega) (by omega) (by omega), tM_t], ⟨by rw [r1]; congr 1; omega, by rw [r2 _ (by omega), upI_at]⟩, by rw [hν2]; exact FrP_pgA (FrP_u (FrP_tM zf) (by omega)), nl, by omega, by omega⟩ (hmo.tr ha4 (by omega)) (fun j hj => ?_) (fun _ => ⟨⟨?_, ?_, ?_, fun y => absurd rfl y⟩, codeAt_app.mpr ⟨cdA_eq z2 ha4, ⟨r4.1, r4.2.1, r4.2.2, fun _ y => absurd rfl y⟩, trivial⟩⟩)
                  · rw [q0 _ (by omega) (by omega) (by omega) (by omega), tM_o (by omega) (by omega)]; exact hoo j hj
                  · rw [(ha4 k (by omega)).1, (z3 k (by omega)).1, tM_o (by omega) (by omega)]; exact p4.1
                  · rw [(ha4 k (by omega)).2.1, (z3 k (by omega)).2.1, tM_o (by omega) (by omega)]; exact p4.2.1
                  · rw [(ha4 k (by omega)).2.2.1, (z3 k (by omega)).2.2.1, tM_o (by omega) (by omega)]; exact p4.2.2
              · have nw := no_word z6
                refine f_X9_parseItem (d := d) hZ hP zT hby zn zf1 zf2 z7 (by omega) z8 zo (fun y => absurd y cs) ?_ (fun _ y => absurd (nw.symm.trans y) (by decide)) (fun _ wi hwi y => absurd (nw.symm.trans y).symm (nI_nm1 (by omega)))
                intro _ _ μ' hft
                show G 32 [.ref 856, .int (nI n), .ref 859, .int (nI i' + 1)] [] S (0, 0) μ' ρ
                rw [nI_s1]
                obtain ⟨b1, b2⟩ := badQ μ' cs hft
                exact hd_bad g t1 (by omega) b2 b1
            · have en : B0.1.1.1 = n := by omega
              have hs : ¬ seeT T n B0.1.1.1 = 125 := by rw [seeT_hi (by omega)]; decide
              have e5 : ν' 856 5 = nI n := zT.2.1
              have hP0 := hP.1
              simp only [w_X9_parse_75, w_X9_parse_98, tAload, tIload, nth, tGetI, tGetR, tConst, tLconst, tBin, tUn, tI2l, tAld, tAldR, tAlen, tIast, tBast, tZast, tAast, tIret, tZret, tVret, tAret, tIf, tIf2, tGoto, tIstore, tAstore, sset, tIinc, tDup, tDup2, tPop, tPutI, tPutZ, tPutR, tCallV, tCallS, popN, tFn, tCopy, tMax, tMin, tSw, swc, tRem, tObjI, Option.toList, List.nil_append, List.cons_append, okR, true_and, and_true, true_or, or_true, Nat.zero_le, ne_eq, not_false_eq_true, Nat.reduceEqDiff, F_X9_fail, t1, hP0, zf1, z8, e5]
              refine ⟨fun y => absurd trivial y, fun _ => ⟨fun y => absurd y (by rw [show (0 : Int32) = nI 0 from rfl, nI_leI (by omega) (by decide)]; omega), fun _ => ?_⟩⟩
              refine (badQ _ hs ?_).1
              have := FtF_tM (μ := ν') (q := B0.1.1.1) (t := ν' 858) (x := 1) (y := nI n)
              rw [tM_self zT.2.2.2.1] at this
              rw [en]
              exact this
      · intro _ wi hwi ew
        have ewv : pWord T n (q, 0, -1) = (ltr T n q, 0, -1) := by
          unfold pWord
          rw [epw, ew, if_pos (nI_nm1 (by omega)), hq]
        have cg := fun Y hY => cLoop_go (T := T) (n := n) (dd := dd) (m := m) (k := k) (bC := bC) (X := ((q, 0, -1), t)) (Y := Y) hY rfl c1 (by rw [ewv])
        obtain ⟨N, hN⟩ : ∃ N, N = pNums T n (nOf (nI wi)).toNatClampNeg 0 (ltr T n q, 0, -1) t := ⟨_, rfl⟩
        have ci : cItem T n dd bC k ((q, 0, -1), t) = ((pSign T n 59 N.1, N.2), [(nI wi, nI q, N.2 0, N.2 1, N.2 2)]) := by
          unfold cItem cPlain
          rw [epw, ew, if_pos (fun y => by
            have := (nI_eq (a := wi) (b := 17) (by omega) (by decide)).mp y
            omega), ewv, hN, hq]
        rw [cg _ ci] at hB
        rw [et, ← hN]
        obtain ⟨nn1, nn2⟩ := pNums_n (T := T) (n := n) (nOf (nI wi)).toNatClampNeg 0 (ltr T n q, 0, -1) t l2
        rw [← hN] at nn1 nn2
        dsimp only at nn1
        refine ⟨fun hb0 μ' hft => ?_, fun hb0 N' hN' => ?_⟩
        · show G 32 [.ref 856, .int (nI n), .ref 859, .int (nI i + 1)] [] S (0, 0) μ' ρ
          rw [nI_s1]
          dsimp only at hB
          rw [cLoop_x (X := ((blk T n (pSign T n 59 N.1).1, (pSign T n 59 N.1).2), N.2)) (Or.inl hb0)] at hB
          exact bad _ _ μ' hb0 (by rw [← hB]) hft
        · rw [hN']
          show G 32 [.ref 856, .int (nI n), .ref 859, .int (nI i + 1)] [] S (0, 0) (pgA (upI (upI (tM ν (pSign T n 59 N.1).1 N.2) 863 k (N.2 1)) 864 k (N.2 2)) k (nI wi) (nI q) (N.2 0)) ρ
          rw [nI_s1]
          obtain ⟨s1, s2, s3, s4, s5⟩ := pSign_n (T := T) (n := n) (c := 59) (P := N.1) (by decide) nn2 hb0
          have okN : okw N.1.2 := by rw [hN]; exact pNums_ok _ _ _ _ (Or.inl rfl)
          have eQ : (pSign T n 59 N.1).2 = (0, -1) := okw_0 (pSign_ok okN) hb0
          obtain ⟨Q, hQ⟩ : ∃ Q, Q = (pSign T n 59 N.1).1 := ⟨_, rfl⟩
          have ePQ : pSign T n 59 N.1 = (Q, 0, -1) := by rw [hQ, ← eQ]
          rw [ePQ] at hB s1 s2 ⊢
          dsimp only at hB s1 s2 ⊢
          obtain ⟨qb1, qb2⟩ := blk_n (T := T) s1
          obtain ⟨ν1, hν1⟩ : ∃ ν1, ν1 = pgA (upI (upI (tM ν Q N.2) 863 k (N.2 1)) 864 k (N.2 2)) k (nI wi) (nI q) (N.2 0) := ⟨_, rfl⟩
          rw [← hν1]
          obtain ⟨p1, p2, p3, p4, p5⟩ := pgA_v (ν := upI (upI (tM ν Q N.2) 863 k (N.2 1)) 864 k (N.2 2)) (z := k) (a := nI wi) (b := nI q) (c := N.2 0)
          rw [← hν1] at p1 p2 p3 p4 p5
          have x856 : ν1 856 = tM ν Q N.2 856 := by rw [p3 _ (by omega) (by omega) (by omega) (by omega), upI_ne (by omega), upI_ne (by omega)]
          have x857 : ν1 857 = ν 857 := by rw [p3 _ (by omega) (by omega) (by omega) (by omega), upI_ne (by omega), upI_ne (by omega), tM_o (by omega) (by omega)]
          have x858 : ν1 858 = N.2 := by rw [p3 _ (by omega) (by omega) (by omega) (by omega), upI_ne (by omega), upI_ne (by omega), tM_t]
          have x8 : ν1 859 8 = nI (3 - dd) := by rw [p2 _ (by omega), upI_ne (by omega), upI_ne (by omega), tM_o (by omega) (by omega)]; exact e8
          have xo : ∀ j, ν1 865 j = ν 865 j := fun j => by rw [p3 _ (by omega) (by omega) (by omega) (by omega), upI_ne (by omega), upI_ne (by omega), tM_o (by omega) (by omega)]
          have y3 : ν1 863 k = N.2 1 := by rw [p3 _ (by omega) (by omega) (by omega) (by omega), upI_ne (by omega), upI_at]
          have y4 : ν1 864 k = N.2 2 := by rw [p3 _ (by omega) (by omega) (by omega) (by omega), upI_at]
          have xa : aEq ν ν1 k := by
            intro j hj
            obtain ⟨a1, a2, a3⟩ := p5 j (by omega)
            refine ⟨by rw [a1, upI_ne (by omega), upI_ne (by omega), tM_o (by omega) (by omega)], by rw [a2, upI_ne (by omega), upI_ne (by omega), tM_o (by omega) (by omega)], by rw [a3, upI_ne (by omega), upI_ne (by omega), tM_o (by omega) (by omega)], ?_, ?_⟩
            · rw [p3 _ (by omega) (by omega) (by omega) (by omega), upI_ne (by omega), upI_k (by omega), tM_o (by omega) (by omega)]
            · rw [p3 _ (by omega) (by omega) (by omega) (by omega), upI_k (by omega), upI_ne (by omega), tM_o (by omega) (by omega)]
          have hfr1 : FrP μ ν1 := by rw [hν1]; exact FrP_pgA (FrP_u (FrP_u (FrP_tM hf) (by omega)) (by omega))
          have hH1 : Hd0 T n S ρ μ ν1 Q N.2 (k + 1) (3 - dd) := ⟨⟨hT.1, by rw [x856, tM_k (by omega)]; exact hT.2.1, hn, by rw [x856, tM_6], by omega, fun j hj => by rw [x857]; exact hT.2.2.2.2.2 j hj⟩, ⟨by rw [x856, tM_k (by omega)]; exact e3, by rw [x856, tM_k (by omega)]; exact e4⟩, x858, ⟨p1, x8⟩, hfr1, s1, by omega, by omega⟩
          refine hd_af g hH1 (by omega) ?_
          have hH2 : Hd0 T n S ρ μ (tM ν1 (blk T n Q) N.2) (blk T n Q) N.2 (k + 1) (3 - dd) := by
            obtain ⟨y1, ⟨y2, y3⟩, y4, ⟨y5, y6⟩, y7, y8, y9, y10⟩ := hH1
            exact ⟨TpR_tM y1 (by omega), ⟨by rw [tM_k (by omega)]; exact y2, by rw [tM_k (by omega)]; exact y3⟩, tM_t, ⟨by rw [tM_o (by omega) (by omega)]; exact y5, by rw [tM_o (by omega) (by omega)]; exact y6⟩, FrP_tM y7, qb2, by omega, y10⟩
          obtain ⟨W, hW⟩ : ∃ W, cLoop T n dd bC m (k + 1) ((blk T n Q, 0, -1), N.2) = W := ⟨_, rfl⟩
          have hB' : (W.1, (nI wi, nI q, N.2 0, N.2 1, N.2 2) :: W.2) = B := by rw [← hB, ← hW]; rfl
          have eB1 : B.1 = W.1 := by rw [← hB']
          have eB2 : B.2 = (nI wi, nI q, N.2 0, N.2 1, N.2 2) :: W.2 := by rw [← hB']
          refine ih (blk T n Q) N.2 (k + 1) _ W (by omega) blk_blk' hW hH2 (fun w1 => by rw [← eB1] at w1 ⊢; exact hbad w1) (fun w1 ν3 u1 u2 u3 u4 u5 u6 u7 => ?_)
          rw [← eB1] at w1 u1 u5 u6 u7 ⊢
          have ha3 : aEq ν1 ν3 (k + 1) := by
            intro j hj
            have := u3 j hj
            rw [tM_o (by omega) (by omega), tM_o (by omega) (by omega), tM_o (by omega) (by omega), tM_o (by omega) (by omega), tM_o (by omega) (by omega)] at this
            exact this
          obtain ⟨k0, k1, k2, k3, k4⟩ := ha3 k (by omega)
          refine hok w1 ν3 (by rw [eB2, List.length_cons, show k + (W.2.length + 1) = k + 1 + W.2.length by omega]; exact u1) ?_ (xa.tr ha3 (by omega)) (fun j hj => ?_) u5 u6 (by omega)
          · rw [eB2]
            exact ⟨⟨by rw [k0]; exact p4.1, by rw [k1]; exact p4.2.1, by rw [k2]; exact p4.2.2, fun _ _ => ⟨by rw [k3]; exact y3, by rw [k4]; exact y4⟩⟩, u2⟩
          · rw [u4 j hj, tM_o (by omega) (by omega)]; exact xo j
    · rw [cLoop_x (X := ((q, 0, -1), t)) (Or.inr c1)] at hB
      subst hB
      exact hok rfl ν hH trivial (fun _ _ => ⟨rfl, rfl, rfl, rfl, rfl⟩) (fun _ _ => rfl) hq c1 (Nat.le_refl _)
theorem rd_acts (hZ : ZX Z) (hP : PgS S ρ) (hby : byT T n) (g : G32 Z d G Rp) : ∀ dd, dd ≤ 3 → RdOK Z d G Rp S ρ μ T n dd (cActs T n dd) := by
  intro dd
  induction dd with
  | zero =>
    intro _ p t k ν B hB hH hbad hok
    exact rd_loop hZ hP hby g (bC := fun _ Y => (Y, [])) (by omega) (fun d0 y => by omega) (fun _ _ h => h) (n + 1) (blk T n p) t k ν B (by omega) blk_blk' hB hH hbad hok
  | succ d0 ih =>
    intro hd p t k ν B hB hH hbad hok
    exact rd_loop hZ hP hby g (bC := cActs T n d0) hd (fun e y => by
      obtain rfl : d0 = e := by omega
      exact ih (by omega)) (fun k X h => cActs_ok d0 k X h) (n + 1) (blk T n p) t k ν B (by omega) blk_blk' hB hH hbad hok
end Rd
