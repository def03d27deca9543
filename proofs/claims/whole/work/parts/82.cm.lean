/-! ===== the class: links, messages that are sent ===== -/
theorem sh_bv {x : Int32} {k : Nat} (hk : k < 25) : (x >>> (nI k &&& 31)).toBitVec = x.toBitVec.sshiftRight k := by
  match k, hk with
  | 0, _ => rfl
  | 1, _ => rfl
  | 2, _ => rfl
  | 3, _ => rfl
  | 4, _ => rfl
  | 5, _ => rfl
  | 6, _ => rfl
  | 7, _ => rfl
  | 8, _ => rfl
  | 9, _ => rfl
  | 10, _ => rfl
  | 11, _ => rfl
  | 12, _ => rfl
  | 13, _ => rfl
  | 14, _ => rfl
  | 15, _ => rfl
  | 16, _ => rfl
  | 17, _ => rfl
  | 18, _ => rfl
  | 19, _ => rfl
  | 20, _ => rfl
  | 21, _ => rfl
  | 22, _ => rfl
  | 23, _ => rfl
  | 24, _ => rfl
  | k + 25, h => omega
theorem bit_lsb {x : Int32} {k : Nat} (hk : k < 25) : ((x >>> (nI k &&& 31)) &&& 1 = 1) ↔ x.toBitVec.getLsbD k = true := by
  have e : (x >>> (nI k &&& 31)).toBitVec.getLsbD 0 = x.toBitVec.getLsbD k := by
    rw [sh_bv hk, BitVec.getLsbD_sshiftRight]
    simp
    intro h
    omega
  rw [← e]
  generalize x >>> (nI k &&& 31) = z
  have h1 : ∀ i, (1#32).getLsbD i = decide (i = 0) := by
    intro i
    rw [BitVec.getLsbD_one]
    simp
  rw [← Int32.toBitVec_inj, Int32.toBitVec_and]
  show z.toBitVec &&& 1#32 = 1#32 ↔ _
  constructor
  · intro h
    have := congrArg (fun v => BitVec.getLsbD v 0) h
    simp only [BitVec.getLsbD_and, h1] at this
    simpa using this
  · intro h
    refine BitVec.eq_of_getLsbD_eq (fun i hi => ?_)
    rw [BitVec.getLsbD_and, h1]
    by_cases c : i = 0
    · subst c; rw [h]; rfl
    · simp [c]
theorem all_lsb {k : Nat} (hk : k < 25) : (33554431#32).getLsbD k = true := by
  have : ∀ k : Fin 25, (33554431#32).getLsbD k.val = true := by decide +kernel
  exact this ⟨k, hk⟩
theorem cut_bit {L : Int32} {k : Nat} (hk : k < 25) : (((L ^^^ 33554431) >>> (nI k &&& 31)) &&& 1 = 1) ↔ ¬ (L >>> (nI k &&& 31)) &&& 1 = 1 := by
  rw [bit_lsb hk, bit_lsb hk, Int32.toBitVec_xor, BitVec.getLsbD_xor]
  show (L.toBitVec.getLsbD k ^^ (33554431#32).getLsbD k) = true ↔ _
  rw [all_lsb hk]
  simp
theorem ix5 {s t : Nat} : (5 : Int32) * nI s + nI t = nI (5 * s + t) := by rw [show (5 : Int32) = nI 5 from rfl, pk_mul, nI_add]
theorem ix5' {s t : Nat} : nI s * (5 : Int32) + nI t = nI (5 * s + t) := by rw [Int32.mul_comm, ix5]
def w_X1_isCut_21 (M : CT) (G : Nat → PT) (Rp : RT) : PT := tZret Rp
def w_X1_isCut_20 (M : CT) (G : Nat → PT) (Rp : RT) : PT := tConst 0 <| w_X1_isCut_21 M G Rp
def w_X1_isCut_0 (M : CT) (G : Nat → PT) (Rp : RT) : PT := tAload 0 <| tGetI 1 6 5 <| tIload 1 <| tConst 5 <| tBin (fun x y => x * y) <| tIload 2 <| tBin (fun x y => x + y) <| tBin (fun x y => x >>> (y &&& 31)) <| tConst 1 <| tBin (fun x y => x &&& y) <| tConst 1 <| tIf2 (fun x y => x ≠ y) (w_X1_isCut_20 M G Rp) <| tConst 1 <| tGoto (w_X1_isCut_21 M G Rp)
set_option maxRecDepth 20000 in
theorem b_X1_isCut_21 {Z : Zt} {d : Nat} {p : Program} {e : Env} {R : Room} {s : State} {m : MethodId} {args : Array Value} {below : List Frame} {meth : Method} {c : Code} {Rp : RT} (C : Cx Z d jX1_isCut RX1 p R s m args meth c) : Sd Z jX1_isCut p e R s m args below meth c (MQ below (QcS Z Rp) args s 0 0 (fun a => Z.2.2.1 < a)) 21 (w_X1_isCut_21 (MS Z d) (Gw Z 3 p e R s m args below meth c (MQ below (QcS Z Rp) args s 0 0 (fun a => Z.2.2.1 < a))) Rp) := by
  unfold w_X1_isCut_21
  exact s_zret C rfl (by decide +kernel)
set_option maxRecDepth 20000 in
theorem b_X1_isCut_20 {Z : Zt} {d : Nat} {p : Program} {e : Env} {R : Room} {s : State} {m : MethodId} {args : Array Value} {below : List Frame} {meth : Method} {c : Code} {Rp : RT} (C : Cx Z d jX1_isCut RX1 p R s m args meth c) : Sd Z jX1_isCut p e R s m args below meth c (MQ below (QcS Z Rp) args s 0 0 (fun a => Z.2.2.1 < a)) 20 (w_X1_isCut_20 (MS Z d) (Gw Z 3 p e R s m args below meth c (MQ below (QcS Z Rp) args s 0 0 (fun a => Z.2.2.1 < a))) Rp) := by
  unfold w_X1_isCut_20
  refine s_iconst (n := 0) C (by decide +kernel) (by decide) ?_
  exact (b_X1_isCut_21 C)
set_option maxRecDepth 20000 in
theorem b_X1_isCut_0 {Z : Zt} {d : Nat} {p : Program} {e : Env} {R : Room} {s : State} {m : MethodId} {args : Array Value} {below : List Frame} {meth : Method} {c : Code} {Rp : RT} (C : Cx Z d jX1_isCut RX1 p R s m args meth c) : Sd Z jX1_isCut p e R s m args below meth c (MQ below (QcS Z Rp) args s 0 0 (fun a => Z.2.2.1 < a)) 0 (w_X1_isCut_0 (MS Z d) (Gw Z 3 p e R s m args below meth c (MQ below (QcS Z Rp) args s 0 0 (fun a => Z.2.2.1 < a))) Rp) := by
  unfold w_X1_isCut_0
  refine s_aload_n (k := 0) C (by decide +kernel) ?_
  refine s_getI C w_1_135 (by decide +kernel) rfl ?_
  refine s_iload_n (k := 1) C (by decide +kernel) ?_
  refine s_iconst (n := 5) C (by decide +kernel) (by decide) ?_
  refine s_imul C (by decide +kernel) ?_
  refine s_iload_n (k := 2) C (by decide +kernel) ?_
  refine s_iadd C (by decide +kernel) ?_
  refine s_ishr C (by decide +kernel) ?_
  refine s_iconst (n := 1) C (by decide +kernel) (by decide) ?_
  refine s_iand C (by decide +kernel) ?_
  refine s_iconst (n := 1) C (by decide +kernel) (by decide) ?_
  refine s_icmp_ne (off := 7) (tgt := 20) C (by decide +kernel) (by decide) (b_X1_isCut_20 C) ?_
  refine s_iconst (n := 1) C (by decide +kernel) (by decide) ?_
  exact s_goto (off := 4) (tgt := 21) C (by decide +kernel) (by decide) (b_X1_isCut_21 C)
theorem ms_X1_isCut {Z : Zt} {d : Nat} {S : Sh} {μ : Mi} {ρ : Mr} {Rp : RT} (a0 : Nat) (x1 : Int32) (x2 : Int32) (h : ∀ G : Nat → PT, w_X1_isCut_0 (MS Z d) G Rp [.ref a0, .int x1, .int x2] [] S (0, 0) μ ρ) : MS Z (d + 1) jX1_isCut [.ref a0, .int x1, .int x2] S μ ρ Rp :=
  MS_of [.ref a0, .int x1, .int x2] (by decide +kernel) rfl rfl (Nat.le_of_ble_eq_true rfl) rfl (fun p e R s m args below meth c C => b_X1_isCut_0 C _ _ _ _ _ _ (h _ ))
def F_X1_isCut : FT := fun As S μ ρ k => match As with
  | [.ref a, .int s, .int t] => S.2 a = (1, 6) ∧ k (some (.int (b2 ((μ a 5 >>> ((s * 5 + t) &&& 31)) &&& 1 = 1)))) μ
  | _ => False
theorem r_X1_isCut {As S μ ρ k} (h : F_X1_isCut As S μ ρ k) : ∃ a As', As = Value.ref a :: As' ∧ S.2 a = (1, 6) := by
  unfold F_X1_isCut at h
  split at h
  · exact ⟨_, _, rfl, h.1⟩
  · exact h.elim
set_option maxHeartbeats 1000000 in
theorem f_X1_isCut {Z : Zt} {d : Nat} {As : List Value} {S : Sh} {μ : Mi} {ρ : Mr} {Rp : RT} (h : F_X1_isCut As S μ ρ (fun r μ' => Rp r S μ' ρ)) : MS Z (d + 1) jX1_isCut As S μ ρ Rp := by
  unfold F_X1_isCut at h
  split at h
  · rename_i a s t
    obtain ⟨h1, h⟩ := h
    unfold b2 at h
    refine ms_X1_isCut _ _ _ (fun G => ?_)
    simp only [w_X1_isCut_0, w_X1_isCut_20, w_X1_isCut_21, tAload, tIload, nth, tGetI, tGetR, tConst, tLconst, tBin, tUn, tI2l, tAld, tAldR, tAlen, tIast, tBast, tZast, tAast, tIret, tZret, tVret, tAret, tIf, tIf2, tGoto, tIstore, tAstore, sset, tIinc, tDup, tDup2, tPop, tPutI, tPutZ, tPutR, tCallV, tCallS, popN, tFn, tCopy, tMax, tMin, tSw, swc, tRem, tObjI, Option.toList, List.nil_append, List.cons_append, okR, true_and, and_true, true_or, or_true, Nat.zero_le, ne_eq, not_false_eq_true, Nat.reduceEqDiff, h1, Decidable.not_not]
    refine ⟨fun c => ?_, fun c => ?_⟩
    · rw [if_neg c] at h; exact h
    · rw [if_pos c] at h; exact h
  · exact h.elim
/-- what post() leaves: the message is the one that lies behind all, or the one that nobody reads -/
def PostD (A : Rw) (w : Nat) (μ : Mi) (ρ : Mr) (s t q : Nat) (μ1 : Mi) : Prop :=
  (∀ y : Nat, y ≠ w + 2 → y ≠ q → μ1 y = μ y) ∧ ((okS A s t ∧ q = ρ (w + 3) (A 4510).toNatClampNeg ∧ μ1 (w + 2) = up (μ (w + 2)) 2 (A 4510 + 1)) ∨ (¬ okS A s t ∧ q = w + 4 ∧ μ1 (w + 2) = up (μ (w + 2)) 3 (A 4511 + 1)))
def wr4 (m : Rw) (f t kd tm : Int32) : Rw := fun i => if i = 0 then f else if i = 1 then t else if i = 2 then kd else if i = 3 then tm else if i < 9 then 0 else m i
theorem wr_eq {μ : Mi} {q : Nat} {f t kd tm : Int32} : upI (upI (upI (upI (upI (upI (upI (upI (upI μ q 0 f) q 1 t) q 2 kd) q 3 tm) q 4 0) q 5 0) q 6 0) q 7 0) q 8 0 = upF μ q (wr4 (μ q) f t kd tm) := by
  funext b i
  unfold upI upF wr4
  by_cases h : b = q
  · simp only [h, if_true]
    by_cases h9 : i < 9
    · rcases (by omega : i = 0 ∨ i = 1 ∨ i = 2 ∨ i = 3 ∨ i = 4 ∨ i = 5 ∨ i = 6 ∨ i = 7 ∨ i = 8) with z | z | z | z | z | z | z | z | z <;> subst z <;> simp
    · simp only [if_neg h9, if_neg (show ¬ i = 8 by omega), if_neg (show ¬ i = 7 by omega), if_neg (show ¬ i = 6 by omega), if_neg (show ¬ i = 5 by omega), if_neg (show ¬ i = 4 by omega), if_neg (show ¬ i = 3 by omega), if_neg (show ¬ i = 2 by omega), if_neg (show ¬ i = 1 by omega), if_neg (show ¬ i = 0 by omega)]
  · simp only [if_neg h]
theorem WOK_box {w i : Nat} {S : Sh} {ρ : Mr} (h : WOK w S ρ) (hi : i ≤ 60) : ∃ j, j ≤ 60 ∧ ρ (w + 3) i = w + 6 + 2 * j ∧ S.2 (ρ (w + 3) i) = (2, 10) ∧ S.2 (ρ (w + 3) i + 1) = (20, 6) ∧ ρ (ρ (w + 3) i) 9 = ρ (w + 3) i + 1 := by
  obtain ⟨j, j1, j2⟩ := h.2.2.2.2.2.1 i hi
  have := h.2.2.1 (j + 1) (by omega)
  refine ⟨j, j1, j2, ?_⟩
  rw [j2, show w + 6 + 2 * j = w + 4 + 2 * (j + 1) by omega, show w + 4 + 2 * (j + 1) + 1 = w + 5 + 2 * (j + 1) by omega]
  exact this
def msgAt (w q : Nat) (S : Sh) (ρ : Mr) : Prop := ∃ j, j ≤ 61 ∧ q = w + 4 + 2 * j ∧ S.2 q = (2, 10) ∧ S.2 (q + 1) = (20, 6) ∧ ρ q 9 = q + 1
def w_X1_post_65 (M : CT) (G : Nat → PT) (Rp : RT) : PT := tAload 5 <| tIload 1 <| tPutI 2 10 0 <| tAload 5 <| tIload 2 <| tPutI 2 10 1 <| tAload 5 <| tIload 3 <| tPutI 2 10 2 <| tAload 5 <| tIload 4 <| tPutI 2 10 3 <| tAload 5 <| tConst 0 <| tPutI 2 10 4 <| tAload 5 <| tConst 0 <| tPutI 2 10 5 <| tAload 5 <| tConst 0 <| tPutI 2 10 6 <| tAload 5 <| tConst 0 <| tPutI 2 10 7 <| tAload 5 <| tConst 0 <| tPutI 2 10 8 <| tAload 5 <| tAret Rp
def w_X1_post_44 (M : CT) (G : Nat → PT) (Rp : RT) : PT := tAload 0 <| tGetR 1 6 0 <| tAload 0 <| tGetI 1 6 2 <| tAldR 32 <| tAstore 5 <| tAload 0 <| tDup <| tGetI 1 6 2 <| tConst 1 <| tBin (fun x y => x + y) <| tPutI 1 6 2 <| w_X1_post_65 M G Rp
def w_X1_post_31 (M : CT) (G : Nat → PT) (Rp : RT) : PT := tAload 0 <| tDup <| tGetI 1 6 3 <| tConst 1 <| tBin (fun x y => x + y) <| tPutI 1 6 3 <| tGoto (w_X1_post_65 M G Rp)
def w_X1_post_0 (M : CT) (G : Nat → PT) (Rp : RT) : PT := tAload 0 <| tGetR 1 6 1 <| tAstore 5 <| tAload 0 <| tGetI 1 6 2 <| tConst 60 <| tIf2 (fun x y => y ≤ x) (w_X1_post_31 M G Rp) <| tAload 0 <| tGetI 1 6 5 <| tIload 1 <| tConst 5 <| tBin (fun x y => x * y) <| tIload 2 <| tBin (fun x y => x + y) <| tBin (fun x y => x >>> (y &&& 31)) <| tConst 1 <| tBin (fun x y => x &&& y) <| tConst 1 <| tIf2 (fun x y => x ≠ y) (w_X1_post_44 M G Rp) <| w_X1_post_31 M G Rp
set_option maxRecDepth 20000 in
theorem b_X1_post_65 {Z : Zt} {d : Nat} {p : Program} {e : Env} {R : Room} {s : State} {m : MethodId} {args : Array Value} {below : List Frame} {meth : Method} {c : Code} {Rp : RT} (C : Cx Z d jX1_post RX1 p R s m args meth c) : Sd Z jX1_post p e R s m args below meth c (MQ below (QcS Z Rp) args s 0 0 (fun a => Z.2.2.1 < a)) 65 (w_X1_post_65 (MS Z d) (Gw Z 6 p e R s m args below meth c (MQ below (QcS Z Rp) args s 0 0 (fun a => Z.2.2.1 < a))) Rp) := by
  unfold w_X1_post_65
  refine s_aload (k := 5) C (by decide +kernel) ?_
  refine s_iload_n (k := 1) C (by decide +kernel) ?_
  refine s_putI C w_1_53 (by decide +kernel) rfl (Or.inl rfl) ?_
  refine s_aload (k := 5) C (by decide +kernel) ?_
  refine s_iload_n (k := 2) C (by decide +kernel) ?_
  refine s_putI C w_1_58 (by decide +kernel) rfl (Or.inl rfl) ?_
  refine s_aload (k := 5) C (by decide +kernel) ?_
  refine s_iload_n (k := 3) C (by decide +kernel) ?_
  refine s_putI C w_1_63 (by decide +kernel) rfl (Or.inl rfl) ?_
  refine s_aload (k := 5) C (by decide +kernel) ?_
  refine s_iload (k := 4) C (by decide +kernel) ?_
  refine s_putI C w_1_68 (by decide +kernel) rfl (Or.inl rfl) ?_
  refine s_aload (k := 5) C (by decide +kernel) ?_
  refine s_iconst (n := 0) C (by decide +kernel) (by decide) ?_
  refine s_putI C w_1_72 (by decide +kernel) rfl (Or.inl rfl) ?_
  refine s_aload (k := 5) C (by decide +kernel) ?_
  refine s_iconst (n := 0) C (by decide +kernel) (by decide) ?_
  refine s_putI C w_1_77 (by decide +kernel) rfl (Or.inl rfl) ?_
  refine s_aload (k := 5) C (by decide +kernel) ?_
  refine s_iconst (n := 0) C (by decide +kernel) (by decide) ?_
  refine s_putI C w_1_82 (by decide +kernel) rfl (Or.inl rfl) ?_
  refine s_aload (k := 5) C (by decide +kernel) ?_
  refine s_iconst (n := 0) C (by decide +kernel) (by decide) ?_
  refine s_putI C w_1_87 (by decide +kernel) rfl (Or.inl rfl) ?_
  refine s_aload (k := 5) C (by decide +kernel) ?_
  refine s_iconst (n := 0) C (by decide +kernel) (by decide) ?_
  refine s_putI C w_1_91 (by decide +kernel) rfl (Or.inl rfl) ?_
  refine s_aload (k := 5) C (by decide +kernel) ?_
  exact s_aret C rfl (by decide +kernel)
set_option maxRecDepth 20000 in
theorem b_X1_post_44 {Z : Zt} {d : Nat} {p : Program} {e : Env} {R : Room} {s : State} {m : MethodId} {args : Array Value} {below : List Frame} {meth : Method} {c : Code} {Rp : RT} (C : Cx Z d jX1_post RX1 p R s m args meth c) : Sd Z jX1_post p e R s m args below meth c (MQ below (QcS Z Rp) args s 0 0 (fun a => Z.2.2.1 < a)) 44 (w_X1_post_44 (MS Z d) (Gw Z 6 p e R s m args below meth c (MQ below (QcS Z Rp) args s 0 0 (fun a => Z.2.2.1 < a))) Rp) := by
  unfold w_X1_post_44
  refine s_aload_n (k := 0) C (by decide +kernel) ?_
  refine s_getR C w_1_118 (by decide +kernel) rfl ?_
  refine s_aload_n (k := 0) C (by decide +kernel) ?_
  refine s_getI C w_1_123 (by decide +kernel) rfl ?_
  refine s_aald C rfl (by decide +kernel) ?_
  refine s_astore (k := 5) C (by decide +kernel) ?_
  refine s_aload_n (k := 0) C (by decide +kernel) ?_
  refine s_dup C (by decide +kernel) ?_
  refine s_getI C w_1_123 (by decide +kernel) rfl ?_
  refine s_iconst (n := 1) C (by decide +kernel) (by decide) ?_
  refine s_iadd C (by decide +kernel) ?_
  refine s_putI C w_1_123 (by decide +kernel) rfl (Or.inl rfl) ?_
  exact (b_X1_post_65 C)
set_option maxRecDepth 20000 in
theorem b_X1_post_31 {Z : Zt} {d : Nat} {p : Program} {e : Env} {R : Room} {s : State} {m : MethodId} {args : Array Value} {below : List Frame} {meth : Method} {c : Code} {Rp : RT} (C : Cx Z d jX1_post RX1 p R s m args meth c) : Sd Z jX1_post p e R s m args below meth c (MQ below (QcS Z Rp) args s 0 0 (fun a => Z.2.2.1 < a)) 31 (w_X1_post_31 (MS Z d) (Gw Z 6 p e R s m args below meth c (MQ below (QcS Z Rp) args s 0 0 (fun a => Z.2.2.1 < a))) Rp) := by
  unfold w_X1_post_31
  refine s_aload_n (k := 0) C (by decide +kernel) ?_
  refine s_dup C (by decide +kernel) ?_
  refine s_getI C w_1_128 (by decide +kernel) rfl ?_
  refine s_iconst (n := 1) C (by decide +kernel) (by decide) ?_
  refine s_iadd C (by decide +kernel) ?_
  refine s_putI C w_1_128 (by decide +kernel) rfl (Or.inl rfl) ?_
  exact s_goto (off := 24) (tgt := 65) C (by decide +kernel) (by decide) (b_X1_post_65 C)
set_option maxRecDepth 20000 in
theorem b_X1_post_0 {Z : Zt} {d : Nat} {p : Program} {e : Env} {R : Room} {s : State} {m : MethodId} {args : Array Value} {below : List Frame} {meth : Method} {c : Code} {Rp : RT} (C : Cx Z d jX1_post RX1 p R s m args meth c) : Sd Z jX1_post p e R s m args below meth c (MQ below (QcS Z Rp) args s 0 0 (fun a => Z.2.2.1 < a)) 0 (w_X1_post_0 (MS Z d) (Gw Z 6 p e R s m args below meth c (MQ below (QcS Z Rp) args s 0 0 (fun a => Z.2.2.1 < a))) Rp) := by
  unfold w_X1_post_0
  refine s_aload_n (k := 0) C (by decide +kernel) ?_
  refine s_getR C w_1_122 (by decide +kernel) rfl ?_
  refine s_astore (k := 5) C (by decide +kernel) ?_
  refine s_aload_n (k := 0) C (by decide +kernel) ?_
  refine s_getI C w_1_123 (by decide +kernel) rfl ?_
  refine s_bipush (n := 60) C (by decide +kernel) (by decide) ?_
  refine s_icmp_ge (off := 19) (tgt := 31) C (by decide +kernel) (by decide) (b_X1_post_31 C) ?_
  refine s_aload_n (k := 0) C (by decide +kernel) ?_
  refine s_getI C w_1_135 (by decide +kernel) rfl ?_
  refine s_iload_n (k := 1) C (by decide +kernel) ?_
  refine s_iconst (n := 5) C (by decide +kernel) (by decide) ?_
  refine s_imul C (by decide +kernel) ?_
  refine s_iload_n (k := 2) C (by decide +kernel) ?_
  refine s_iadd C (by decide +kernel) ?_
  refine s_ishr C (by decide +kernel) ?_
  refine s_iconst (n := 1) C (by decide +kernel) (by decide) ?_
  refine s_iand C (by decide +kernel) ?_
  refine s_iconst (n := 1) C (by decide +kernel) (by decide) ?_
  refine s_icmp_ne (off := 16) (tgt := 44) C (by decide +kernel) (by decide) (b_X1_post_44 C) ?_
  exact (b_X1_post_31 C)
theorem ms_X1_post {Z : Zt} {d : Nat} {S : Sh} {μ : Mi} {ρ : Mr} {Rp : RT} (a0 : Nat) (x1 : Int32) (x2 : Int32) (x3 : Int32) (x4 : Int32) (h : ∀ G : Nat → PT, w_X1_post_0 (MS Z d) G Rp [.ref a0, .int x1, .int x2, .int x3, .int x4, .null] [] S (0, 0) μ ρ) : MS Z (d + 1) jX1_post [.ref a0, .int x1, .int x2, .int x3, .int x4] S μ ρ Rp :=
  MS_of [.ref a0, .int x1, .int x2, .int x3, .int x4, .null] (by decide +kernel) rfl rfl (Nat.le_of_ble_eq_true rfl) rfl (fun p e R s m args below meth c C => b_X1_post_0 C _ _ _ _ _ _ (h _ ))
def F_X1_post : FT := fun As S μ ρ k => match As with
  | [.ref a, .int f, .int t, .int kd, .int tm] => S.2 a = (1, 6) ∧ ∃ (w s t' : Nat) (A : Rw), a = w + 2 ∧ R0 A w S μ ρ ∧ f = nI s ∧ t = nI t' ∧ s < 5 ∧ t' < 5 ∧ ¬ s = t' ∧ ∀ (q : Nat) (μ1 : Mi), PostD A w μ ρ s t' q μ1 → msgAt w q S ρ → (μ1 q 0 = f ∧ μ1 q 1 = t ∧ μ1 q 2 = kd ∧ μ1 q 3 = tm ∧ ∀ i, 4 ≤ i → i < 9 → μ1 q i = 0) → k (some (.ref q)) μ1
  | _ => False
theorem r_X1_post {As S μ ρ k} (h : F_X1_post As S μ ρ k) : ∃ a As', As = Value.ref a :: As' ∧ S.2 a = (1, 6) := by
  unfold F_X1_post at h
  split at h
  · exact ⟨_, _, rfl, h.1⟩
  · exact h.elim
set_option maxHeartbeats 1000000 in
theorem f_X1_post {Z : Zt} {d : Nat} {As : List Value} {S : Sh} {μ : Mi} {ρ : Mr} {Rp : RT} (h : F_X1_post As S μ ρ (fun r μ' => Rp r S μ' ρ)) : MS Z (d + 1) jX1_post As S μ ρ Rp := by
  unfold F_X1_post at h
  split at h
  · rename_i a f t kd tm
    obtain ⟨a, hNa⟩ : ∃ n : Nat, n = a := ⟨a, rfl⟩
    subst hNa
    obtain ⟨h1, w, s, t', A, rfl, hR, rfl, rfl, hs, ht, hst, h⟩ := h
    refine ms_X1_post _ _ _ _ _ (fun G => ?_)
    obtain ⟨hW, -, hM, -, -⟩ := hR
    have hr := hW.2.2.2.2.1
    have hn := hW.2.2.1 0 (by omega)
    rw [show w + 4 + 2 * 0 = w + 4 by omega, show w + 5 + 2 * 0 = w + 5 by omega] at hn
    obtain ⟨wn, w1, w2, -, w3⟩ := rg_ex hM.2.1.1
    have e2 : μ (w + 2) 2 = nI wn := hM.1.1.trans w1
    have e3 : μ (w + 2) 3 = A 4511 := hM.1.2.1
    have e5 : μ (w + 2) 5 = A 4513 ^^^ 33554431 := hM.1.2.2.2
    have c60 : (60 : Int32) ≤ μ (w + 2) 2 ↔ A 4510 = 60 := by
      rw [e2, w1, show (60 : Int32) = nI 60 from rfl, nI_leI (by decide) w2, nI_eq w2 (by decide)]
      omega
    have cc : ((μ (w + 2) 5 >>> ((nI s * 5 + nI t') &&& 31)) &&& 1 = 1) ↔ ¬ (A 4513 >>> ((5 * nI s + nI t') &&& 31)) &&& 1 = 1 := by
      rw [ix5', ix5, e5]
      exact cut_bit (by omega)
    have fields : ∀ (ν : Mi) (q : Nat), upF ν q (wr4 (ν q) (nI s) (nI t') kd tm) q 0 = nI s ∧ upF ν q (wr4 (ν q) (nI s) (nI t') kd tm) q 1 = nI t' ∧ upF ν q (wr4 (ν q) (nI s) (nI t') kd tm) q 2 = kd ∧ upF ν q (wr4 (ν q) (nI s) (nI t') kd tm) q 3 = tm ∧ ∀ i, 4 ≤ i → i < 9 → upF ν q (wr4 (ν q) (nI s) (nI t') kd tm) q i = 0 := by
      intro ν q
      rw [upF_same]
      refine ⟨rfl, rfl, rfl, rfl, fun i i1 i2 => ?_⟩
      unfold wr4
      simp only [if_neg (show ¬ i = 0 by omega), if_neg (show ¬ i = 1 by omega), if_neg (show ¬ i = 2 by omega), if_neg (show ¬ i = 3 by omega), if_pos i2]
    have bad : ¬ okS A s t' → w_X1_post_31 (MS Z d) G Rp [.ref (w + 2), .int (nI s), .int (nI t'), .int kd, .int tm, .ref (w + 4)] [] S (0, 0) μ ρ := by
      intro c
      simp only [w_X1_post_31, w_X1_post_65, tAload, tIload, nth, tGetI, tGetR, tConst, tLconst, tBin, tUn, tI2l, tAld, tAldR, tAlen, tIast, tBast, tZast, tAast, tIret, tZret, tVret, tAret, tIf, tIf2, tGoto, tIstore, tAstore, sset, tIinc, tDup, tDup2, tPop, tPutI, tPutZ, tPutR, tCallV, tCallS, popN, tFn, tCopy, tMax, tMin, tSw, swc, tRem, tObjI, Option.toList, List.nil_append, List.cons_append, okR, true_and, and_true, true_or, or_true, Nat.zero_le, ne_eq, not_false_eq_true, Nat.reduceEqDiff, h1, hr, hn, e3]
      rw [wr_eq]
      refine h (w + 4) _ ⟨fun y y1 y2 => ?_, Or.inr ⟨c, rfl, ?_⟩⟩ ⟨0, by omega, by omega, hn⟩ (fields _ _)
      · rw [upF_ne y2, upI_ne y1]
      · rw [upF_ne (by omega), upI_upF, upF_same]
    simp only [w_X1_post_0, tAload, tIload, nth, tGetI, tGetR, tConst, tLconst, tBin, tUn, tI2l, tAld, tAldR, tAlen, tIast, tBast, tZast, tAast, tIret, tZret, tVret, tAret, tIf, tIf2, tGoto, tIstore, tAstore, sset, tIinc, tDup, tDup2, tPop, tPutI, tPutZ, tPutR, tCallV, tCallS, popN, tFn, tCopy, tMax, tMin, tSw, swc, tRem, tObjI, Option.toList, List.nil_append, List.cons_append, okR, true_and, and_true, true_or, or_true, Nat.zero_le, ne_eq, not_false_eq_true, Nat.reduceEqDiff, h1, hr]
    refine ⟨fun c => bad (fun z => z.2.1 (c60.mp c)), fun c => ⟨fun c2 => ?_, fun c2 => bad (fun z => ?_)⟩⟩
    · have c3 : okS A s t' := ⟨hst, fun z => c (c60.mpr z), Classical.not_not.mp (fun z => c2 (cc.mpr z))⟩
      have hwn : wn < 60 := by
        have := c3.2.1
        rw [w1, show (60 : Int32) = nI 60 from rfl, nI_eq w2 (by decide)] at this
        omega
      obtain ⟨j, j1, j2, j3, j4, j5⟩ := WOK_box hW (i := wn) (by omega)
      simp only [w_X1_post_44, w_X1_post_65, tAload, tIload, nth, tGetI, tGetR, tConst, tLconst, tBin, tUn, tI2l, tAld, tAldR, tAlen, tIast, tBast, tZast, tAast, tIret, tZret, tVret, tAret, tIf, tIf2, tGoto, tIstore, tAstore, sset, tIinc, tDup, tDup2, tPop, tPutI, tPutZ, tPutR, tCallV, tCallS, popN, tFn, tCopy, tMax, tMin, tSw, swc, tRem, tObjI, Option.toList, List.nil_append, List.cons_append, okR, true_and, and_true, true_or, or_true, Nat.zero_le, ne_eq, not_false_eq_true, Nat.reduceEqDiff, h1, hr, hW.2.1.2.2.2.1, e2, nI_clamp w2, j3]
      refine ⟨inb_nI (by omega) (by decide), by omega, ?_⟩
      rw [wr_eq]
      refine h _ _ ⟨fun y y1 y2 => ?_, Or.inl ⟨c3, by rw [w1, nI_clamp w2], ?_⟩⟩ ⟨j + 1, by omega, by omega, j3, j4, j5⟩ (fields _ _)
      · rw [upF_ne y2, upI_ne y1]
      · rw [upF_ne (by omega), upI_upF, upF_same, w1]
    · exact (cc.mp (Classical.not_not.mp c2)) z.2.2
  · exact h.elim
