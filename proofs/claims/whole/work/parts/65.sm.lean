/-! ===== the reference: acts ===== -/
theorem aLoop_s {T : Rw} {n dd m : Nat} {meant : Int32} {body : Ps × Es → Ps × Es} {X : Ps × Es} : aLoop T n dd meant body (m + 1) X = if ¬ X.1.2.1 = 0 ∨ ¬ X.2.1 = 0 ∨ ¬ rgd (seeT T n X.1.1) 97 122 then X else
      if ¬ (pWord T n X.1).2.1 = 0 then (pWord T n X.1, X.2) else
      aLoop T n dd meant body m ((blk T n (if ¬ pWordV T n X.1 = 17 then pPlain T n meant (pWordV T n X.1) (nI (blk T n X.1.1)) (pWord T n X.1, X.2) else pTimes T n dd meant body (pWord T n X.1, X.2)).1.1, (if ¬ pWordV T n X.1 = 17 then pPlain T n meant (pWordV T n X.1) (nI (blk T n X.1.1)) (pWord T n X.1, X.2) else pTimes T n dd meant body (pWord T n X.1, X.2)).1.2), (if ¬ pWordV T n X.1 = 17 then pPlain T n meant (pWordV T n X.1) (nI (blk T n X.1.1)) (pWord T n X.1, X.2) else pTimes T n dd meant body (pWord T n X.1, X.2)).2) := rfl
theorem aLoop_x {T : Rw} {n dd : Nat} {meant : Int32} {body : Ps × Es → Ps × Es} {X : Ps × Es} (h : ¬ X.1.2.1 = 0 ∨ ¬ X.2.1 = 0 ∨ ¬ rgd (seeT T n X.1.1) 97 122) : ∀ m, aLoop T n dd meant body m X = X := by
  intro m
  cases m with
  | zero => rfl
  | succ m => rw [aLoop_s, if_pos h]
theorem word_gt {T : Rw} {n : Nat} {P : Ps} (h : rgd (seeT T n P.1) 97 122) : P.1 + 1 ≤ (pWord T n P).1 := by
  have hp := see_lt h (by decide)
  have h32 : ¬ seeT T n P.1 = 32 := fun z => by
    rw [z] at h
    exact absurd h (by decide)
  show P.1 + 1 ≤ ltr T n (blk T n P.1)
  rw [blk_e h32, ltr_s h]
  exact (ltr_le (by omega)).1
theorem nOf_13 {w : Int32} : ∃ k : Nat, nOf w = nI k ∧ k ≤ 3 := by
  unfold nOf
  split
  · exact ⟨3, rfl, by decide⟩
  · split
    · exact ⟨2, rfl, by decide⟩
    · exact ⟨1, rfl, by decide⟩
def w_X12_acts_129 (M : CT) (G : Nat → PT) (Rp : RT) : PT := tVret Rp
def w_X12_acts_122 (M : CT) (G : Nat → PT) (Rp : RT) : PT := tAload 0 <| tFn 1 F_X12_blanks <| tGoto (G 4)
def w_X12_acts_107 (M : CT) (G : Nat → PT) (Rp : RT) : PT := tAload 0 <| tConst 59 <| tFn 2 F_X12_sign <| tIload 2 <| tIf (fun x => x = 0) (w_X12_acts_122 M G Rp) <| tAload 0 <| tIload 3 <| tFn 2 F_X12_act <| w_X12_acts_122 M G Rp
def w_X12_acts_97 (M : CT) (G : Nat → PT) (Rp : RT) : PT := tFn 2 F_X12_number <| tIast <| tIinc 5 1 <| tGoto (G 72)
def w_X12_acts_96 (M : CT) (G : Nat → PT) (Rp : RT) : PT := tConst 0 <| w_X12_acts_97 M G Rp
def w_X12_acts_72 (M : CT) (G : Nat → PT) (Rp : RT) : PT := tIload 5 <| tIload 4 <| tIf2 (fun x y => y ≤ x) (w_X12_acts_107 M G Rp) <| tAload 0 <| tGetR 12 27 24 <| tIload 5 <| tAload 0 <| tIload 5 <| tConst 2 <| tIf2 (fun x y => x ≠ y) (w_X12_acts_96 M G Rp) <| tConst 1 <| tGoto (w_X12_acts_97 M G Rp)
def w_X12_acts_63 (M : CT) (G : Nat → PT) (Rp : RT) : PT := tIload 3 <| tFn 1 F_X12_numbersOf <| tIstore 4 <| tConst 0 <| tIstore 5 <| G 72
def w_X12_acts_48 (M : CT) (G : Nat → PT) (Rp : RT) : PT := tIload 3 <| tConst 17 <| tIf2 (fun x y => x ≠ y) (w_X12_acts_63 M G Rp) <| tAload 0 <| tIload 1 <| tIload 2 <| tCallV M jX12_times 12 27 2 <| tGoto (w_X12_acts_122 M G Rp)
def w_X12_acts_4 (M : CT) (G : Nat → PT) (Rp : RT) : PT := tAload 0 <| tGetI 12 27 17 <| tIf (fun x => x ≠ 0) (w_X12_acts_129 M G Rp) <| tAload 0 <| tGetI 12 27 26 <| tIf (fun x => x ≠ 0) (w_X12_acts_129 M G Rp) <| tAload 0 <| tFn 1 F_X12_see <| tI2l <| tLconst 97 <| tLconst 122 <| tFn 3 F_X12_within <| tIf (fun x => x = 0) (w_X12_acts_129 M G Rp) <| tAload 0 <| tFn 1 F_X12_word <| tIstore 3 <| tAload 0 <| tGetI 12 27 17 <| tIf (fun x => x = 0) (w_X12_acts_48 M G Rp) <| tVret Rp
def w_X12_acts_0 (M : CT) (G : Nat → PT) (Rp : RT) : PT := tAload 0 <| tFn 1 F_X12_blanks <| G 4
set_option maxRecDepth 20000 in
theorem b_X12_acts_129 {Z : Zt} {d : Nat} {p : Program} {e : Env} {R : Room} {s : State} {m : MethodId} {args : Array Value} {below : List Frame} {meth : Method} {c : Code} {Rp : RT} (C : Cx Z (d + 40) jX12_acts RX12 p R s m args meth c) : Sd Z jX12_acts p e R s m args below meth c (MQ below (QcS Z Rp) args s 0 0 (fun a => Z.2.2.1 < a)) 129 (w_X12_acts_129 (MS Z (d + 40)) (Gw Z 6 p e R s m args below meth c (MQ below (QcS Z Rp) args s 0 0 (fun a => Z.2.2.1 < a))) Rp) := by
  unfold w_X12_acts_129
  exact s_vret C rfl (by decide +kernel)
set_option maxRecDepth 20000 in
theorem b_X12_acts_122 {Z : Zt} {d : Nat} {p : Program} {e : Env} {R : Room} {s : State} {m : MethodId} {args : Array Value} {below : List Frame} {meth : Method} {c : Code} {Rp : RT} (C : Cx Z (d + 40) jX12_acts RX12 p R s m args meth c) : Sd Z jX12_acts p e R s m args below meth c (MQ below (QcS Z Rp) args s 0 0 (fun a => Z.2.2.1 < a)) 122 (w_X12_acts_122 (MS Z (d + 40)) (Gw Z 6 p e R s m args below meth c (MQ below (QcS Z Rp) args s 0 0 (fun a => Z.2.2.1 < a))) Rp) := by
  unfold w_X12_acts_122
  refine s_aload_n (k := 0) C (by decide +kernel) ?_
  refine s_fnV C (j2 := jX12_blanks) (cl := 12) (nf := 27) rfl rfl (by decide +kernel) rfl w_8_37 w_8_39 w_p7_2 w_1_13 w_8_40 (by decide +kernel) (fun _ _ _ _ _ h => f_X12_blanks h) (fun _ _ _ _ _ h => r_X12_blanks h) ?_
  exact s_goto (off := (-122)) (tgt := 4) C (by decide +kernel) (by decide) (fun _ _ _ _ _ _ h => h)
set_option maxRecDepth 20000 in
theorem b_X12_acts_107 {Z : Zt} {d : Nat} {p : Program} {e : Env} {R : Room} {s : State} {m : MethodId} {args : Array Value} {below : List Frame} {meth : Method} {c : Code} {Rp : RT} (C : Cx Z (d + 40) jX12_acts RX12 p R s m args meth c) : Sd Z jX12_acts p e R s m args below meth c (MQ below (QcS Z Rp) args s 0 0 (fun a => Z.2.2.1 < a)) 107 (w_X12_acts_107 (MS Z (d + 40)) (Gw Z 6 p e R s m args below meth c (MQ below (QcS Z Rp) args s 0 0 (fun a => Z.2.2.1 < a))) Rp) := by
  unfold w_X12_acts_107
  refine s_aload_n (k := 0) C (by decide +kernel) ?_
  refine s_bipush (n := 59) C (by decide +kernel) (by decide) ?_
  refine s_fnV C (j2 := jX12_sign) (cl := 12) (nf := 27) rfl rfl (by decide +kernel) rfl w_8_70 w_8_72 w_p7_9 w_1_13 w_8_73 (by decide +kernel) (fun _ _ _ _ _ h => f_X12_sign h) (fun _ _ _ _ _ h => r_X12_sign h) ?_
  refine s_iload_n (k := 2) C (by decide +kernel) ?_
  refine s_if_eq (off := 8) (tgt := 122) C (by decide +kernel) (by decide) (b_X12_acts_122 C) ?_
  refine s_aload_n (k := 0) C (by decide +kernel) ?_
  refine s_iload_n (k := 3) C (by decide +kernel) ?_
  refine s_fnV C (j2 := jX12_act) (cl := 12) (nf := 27) rfl rfl (by decide +kernel) rfl w_8_77 w_8_79 w_p7_10 w_1_13 w_8_80 (by decide +kernel) (fun _ _ _ _ _ h => f_X12_act h) (fun _ _ _ _ _ h => r_X12_act h) ?_
  exact (b_X12_acts_122 C)
set_option maxRecDepth 20000 in
theorem b_X12_acts_97 {Z : Zt} {d : Nat} {p : Program} {e : Env} {R : Room} {s : State} {m : MethodId} {args : Array Value} {below : List Frame} {meth : Method} {c : Code} {Rp : RT} (C : Cx Z (d + 40) jX12_acts RX12 p R s m args meth c) : Sd Z jX12_acts p e R s m args below meth c (MQ below (QcS Z Rp) args s 0 0 (fun a => Z.2.2.1 < a)) 97 (w_X12_acts_97 (MS Z (d + 40)) (Gw Z 6 p e R s m args below meth c (MQ below (QcS Z Rp) args s 0 0 (fun a => Z.2.2.1 < a))) Rp) := by
  unfold w_X12_acts_97
  refine s_fnV C (j2 := jX12_number) (cl := 12) (nf := 27) rfl rfl (by decide +kernel) rfl w_8_63 w_8_65 w_p7_8 w_1_13 w_8_66 (by decide +kernel) (fun _ _ _ _ _ h => f_X12_number h) (fun _ _ _ _ _ h => r_X12_number h) ?_
  refine s_iast C (by decide +kernel) ?_
  refine s_iinc (n := 1) C (by decide +kernel) (by decide) ?_
  exact s_goto (off := (-32)) (tgt := 72) C (by decide +kernel) (by decide) (fun _ _ _ _ _ _ h => h)
set_option maxRecDepth 20000 in
theorem b_X12_acts_96 {Z : Zt} {d : Nat} {p : Program} {e : Env} {R : Room} {s : State} {m : MethodId} {args : Array Value} {below : List Frame} {meth : Method} {c : Code} {Rp : RT} (C : Cx Z (d + 40) jX12_acts RX12 p R s m args meth c) : Sd Z jX12_acts p e R s m args below meth c (MQ below (QcS Z Rp) args s 0 0 (fun a => Z.2.2.1 < a)) 96 (w_X12_acts_96 (MS Z (d + 40)) (Gw Z 6 p e R s m args below meth c (MQ below (QcS Z Rp) args s 0 0 (fun a => Z.2.2.1 < a))) Rp) := by
  unfold w_X12_acts_96
  refine s_iconst (n := 0) C (by decide +kernel) (by decide) ?_
  exact (b_X12_acts_97 C)
set_option maxRecDepth 20000 in
theorem b_X12_acts_72 {Z : Zt} {d : Nat} {p : Program} {e : Env} {R : Room} {s : State} {m : MethodId} {args : Array Value} {below : List Frame} {meth : Method} {c : Code} {Rp : RT} (C : Cx Z (d + 40) jX12_acts RX12 p R s m args meth c) : Sd Z jX12_acts p e R s m args below meth c (MQ below (QcS Z Rp) args s 0 0 (fun a => Z.2.2.1 < a)) 72 (w_X12_acts_72 (MS Z (d + 40)) (Gw Z 6 p e R s m args below meth c (MQ below (QcS Z Rp) args s 0 0 (fun a => Z.2.2.1 < a))) Rp) := by
  unfold w_X12_acts_72
  refine s_iload (k := 5) C (by decide +kernel) ?_
  refine s_iload (k := 4) C (by decide +kernel) ?_
  refine s_icmp_ge (off := 31) (tgt := 107) C (by decide +kernel) (by decide) (b_X12_acts_107 C) ?_
  refine s_aload_n (k := 0) C (by decide +kernel) ?_
  refine s_getR C w_6_111 (by decide +kernel) rfl ?_
  refine s_iload (k := 5) C (by decide +kernel) ?_
  refine s_aload_n (k := 0) C (by decide +kernel) ?_
  refine s_iload (k := 5) C (by decide +kernel) ?_
  refine s_iconst (n := 2) C (by decide +kernel) (by decide) ?_
  refine s_icmp_ne (off := 7) (tgt := 96) C (by decide +kernel) (by decide) (b_X12_acts_96 C) ?_
  refine s_iconst (n := 1) C (by decide +kernel) (by decide) ?_
  exact s_goto (off := 4) (tgt := 97) C (by decide +kernel) (by decide) (b_X12_acts_97 C)
set_option maxRecDepth 20000 in
theorem b_X12_acts_63 {Z : Zt} {d : Nat} {p : Program} {e : Env} {R : Room} {s : State} {m : MethodId} {args : Array Value} {below : List Frame} {meth : Method} {c : Code} {Rp : RT} (C : Cx Z (d + 40) jX12_acts RX12 p R s m args meth c) : Sd Z jX12_acts p e R s m args below meth c (MQ below (QcS Z Rp) args s 0 0 (fun a => Z.2.2.1 < a)) 63 (w_X12_acts_63 (MS Z (d + 40)) (Gw Z 6 p e R s m args below meth c (MQ below (QcS Z Rp) args s 0 0 (fun a => Z.2.2.1 < a))) Rp) := by
  unfold w_X12_acts_63
  refine s_iload_n (k := 3) C (by decide +kernel) ?_
  refine s_fnS C (j2 := jX12_numbersOf) (by decide +kernel) rfl w_8_74 w_8_75 w_1_13 w_8_76 (by decide +kernel) (fun _ _ _ _ _ h => f_X12_numbersOf h) ?_
  refine s_istore (k := 4) C (by decide +kernel) ?_
  refine s_iconst (n := 0) C (by decide +kernel) (by decide) ?_
  refine s_istore (k := 5) C (by decide +kernel) ?_
  exact (fun _ _ _ _ _ _ h => h)
set_option maxRecDepth 20000 in
theorem b_X12_acts_48 {Z : Zt} {d : Nat} {p : Program} {e : Env} {R : Room} {s : State} {m : MethodId} {args : Array Value} {below : List Frame} {meth : Method} {c : Code} {Rp : RT} (C : Cx Z (d + 40) jX12_acts RX12 p R s m args meth c) : Sd Z jX12_acts p e R s m args below meth c (MQ below (QcS Z Rp) args s 0 0 (fun a => Z.2.2.1 < a)) 48 (w_X12_acts_48 (MS Z (d + 40)) (Gw Z 6 p e R s m args below meth c (MQ below (QcS Z Rp) args s 0 0 (fun a => Z.2.2.1 < a))) Rp) := by
  unfold w_X12_acts_48
  refine s_iload_n (k := 3) C (by decide +kernel) ?_
  refine s_bipush (n := 17) C (by decide +kernel) (by decide) ?_
  refine s_icmp_ne (off := 12) (tgt := 63) C (by decide +kernel) (by decide) (b_X12_acts_63 C) ?_
  refine s_aload_n (k := 0) C (by decide +kernel) ?_
  refine s_iload_n (k := 1) C (by decide +kernel) ?_
  refine s_iload_n (k := 2) C (by decide +kernel) ?_
  refine s_callV C rfl rfl (by decide +kernel) rfl w_8_59 w_8_61 w_p7_7 w_1_13 w_8_62 (by decide +kernel) ?_
  exact s_goto (off := 62) (tgt := 122) C (by decide +kernel) (by decide) (b_X12_acts_122 C)
set_option maxRecDepth 20000 in
theorem b_X12_acts_4 {Z : Zt} {d : Nat} {p : Program} {e : Env} {R : Room} {s : State} {m : MethodId} {args : Array Value} {below : List Frame} {meth : Method} {c : Code} {Rp : RT} (C : Cx Z (d + 40) jX12_acts RX12 p R s m args meth c) : Sd Z jX12_acts p e R s m args below meth c (MQ below (QcS Z Rp) args s 0 0 (fun a => Z.2.2.1 < a)) 4 (w_X12_acts_4 (MS Z (d + 40)) (Gw Z 6 p e R s m args below meth c (MQ below (QcS Z Rp) args s 0 0 (fun a => Z.2.2.1 < a))) Rp) := by
  unfold w_X12_acts_4
  refine s_aload_n (k := 0) C (by decide +kernel) ?_
  refine s_getI C w_6_104 (by decide +kernel) rfl ?_
  refine s_if_ne (off := 121) (tgt := 129) C (by decide +kernel) (by decide) (b_X12_acts_129 C) ?_
  refine s_aload_n (k := 0) C (by decide +kernel) ?_
  refine s_getI C w_6_113 (by decide +kernel) rfl ?_
  refine s_if_ne (off := 114) (tgt := 129) C (by decide +kernel) (by decide) (b_X12_acts_129 C) ?_
  refine s_aload_n (k := 0) C (by decide +kernel) ?_
  refine s_fnV C (j2 := jX12_see) (cl := 12) (nf := 27) rfl rfl (by decide +kernel) rfl w_8_41 w_8_43 w_p7_3 w_1_13 w_8_44 (by decide +kernel) (fun _ _ _ _ _ h => f_X12_see h) (fun _ _ _ _ _ h => r_X12_see h) ?_
  refine s_i2l C (by decide +kernel) ?_
  refine s_ldc2 C w_8_45 (by decide +kernel) ?_
  refine s_ldc2 C w_8_46 (by decide +kernel) ?_
  refine s_fnS C (j2 := jX12_within) (by decide +kernel) rfl w_6_175 w_6_176 w_1_13 w_6_177 (by decide +kernel) (fun _ _ _ _ _ h => f_X12_within h) ?_
  refine s_if_eq (off := 97) (tgt := 129) C (by decide +kernel) (by decide) (b_X12_acts_129 C) ?_
  refine s_aload_n (k := 0) C (by decide +kernel) ?_
  refine s_fnV C (j2 := jX12_word) (cl := 12) (nf := 27) rfl rfl (by decide +kernel) rfl w_8_47 w_8_49 w_p7_4 w_1_13 w_8_50 (by decide +kernel) (fun _ _ _ _ _ h => f_X12_word h) (fun _ _ _ _ _ h => r_X12_word h) ?_
  refine s_istore_n (k := 3) C (by decide +kernel) ?_
  refine s_aload_n (k := 0) C (by decide +kernel) ?_
  refine s_getI C w_6_104 (by decide +kernel) rfl ?_
  refine s_if_eq (off := 4) (tgt := 48) C (by decide +kernel) (by decide) (b_X12_acts_48 C) ?_
  exact s_vret C rfl (by decide +kernel)
set_option maxRecDepth 20000 in
theorem b_X12_acts_0 {Z : Zt} {d : Nat} {p : Program} {e : Env} {R : Room} {s : State} {m : MethodId} {args : Array Value} {below : List Frame} {meth : Method} {c : Code} {Rp : RT} (C : Cx Z (d + 40) jX12_acts RX12 p R s m args meth c) : Sd Z jX12_acts p e R s m args below meth c (MQ below (QcS Z Rp) args s 0 0 (fun a => Z.2.2.1 < a)) 0 (w_X12_acts_0 (MS Z (d + 40)) (Gw Z 6 p e R s m args below meth c (MQ below (QcS Z Rp) args s 0 0 (fun a => Z.2.2.1 < a))) Rp) := by
  unfold w_X12_acts_0
  refine s_aload_n (k := 0) C (by decide +kernel) ?_
  refine s_fnV C (j2 := jX12_blanks) (cl := 12) (nf := 27) rfl rfl (by decide +kernel) rfl w_8_37 w_8_39 w_p7_2 w_1_13 w_8_40 (by decide +kernel) (fun _ _ _ _ _ h => f_X12_blanks h) (fun _ _ _ _ _ h => r_X12_blanks h) ?_
  exact (fun _ _ _ _ _ _ h => h)
theorem ms_X12_acts {Z : Zt} {d : Nat} {S : Sh} {μ : Mi} {ρ : Mr} {Rp : RT} (a0 : Nat) (x1 : Int32) (x2 : Int32) (h : ∀ G : Nat → PT, (∀ (L st : List Value) (S : Sh) (q : Nat × Nat) (μ : Mi) (ρ : Mr), w_X12_acts_4 (MS Z (d + 40)) G Rp L st S q μ ρ → G 4 L st S q μ ρ) → (∀ (L st : List Value) (S : Sh) (q : Nat × Nat) (μ : Mi) (ρ : Mr), w_X12_acts_72 (MS Z (d + 40)) G Rp L st S q μ ρ → G 72 L st S q μ ρ) → w_X12_acts_0 (MS Z (d + 40)) G Rp [.ref a0, .int x1, .int x2, .null, .null, .null] [] S (0, 0) μ ρ) : MS Z (d + 41) jX12_acts [.ref a0, .int x1, .int x2] S μ ρ Rp :=
  MS_of [.ref a0, .int x1, .int x2, .null, .null, .null] (by decide +kernel) rfl rfl (Nat.le_of_ble_eq_true rfl) rfl (fun p e R s m args below meth c C => b_X12_acts_0 C _ _ _ _ _ _ (h _ (b_X12_acts_4 C) (b_X12_acts_72 C)))
set_option maxHeartbeats 1000000 in
theorem acts_lvl {Z : Zt} {S : Sh} {ρ : Mr} {μ : Mi} {n dd d : Nat} {meant : Int32} {body : Ps × Es → Ps × Es} (hdd : dd ≤ 3) (hS0 : RS S ρ) (hm : meant = 0 ∨ meant = 1) (hw : wdOK (μ 2746)) (hbody : ¬ dd = 0 → actsC Z S ρ μ n meant (d + 39) (nI (3 - dd) + 1) body) :
    actsC Z S ρ μ n meant (d + 41) (nI (3 - dd)) (fun X => aLoop (μ 2745) n dd meant body (n + 1) ((blk (μ 2745) n X.1.1, X.1.2), X.2)) := by
  intro ν X Rp hP hB hg h
  have hS := hS0
  unfold RS at hS
  have hn := hB.1
  refine ms_X12_acts _ _ _ (fun G g4 g72 => ?_)
  have loop : ∀ (m : Nat) (ν : Mi) (Y : Ps × Es) (v3 v4 v5 : Value), n + 1 ≤ m + Y.1.1 → PR μ ν n Y → PB n Y.1 → good Y.2.2.2.2.2.2 → X.1.1 ≤ Y.1.1 → (∀ ν', PR μ ν' n (aLoop (μ 2745) n dd meant body m Y) → PB n (aLoop (μ 2745) n dd meant body m Y).1 → good (aLoop (μ 2745) n dd meant body m Y).2.2.2.2.2.2 → X.1.1 ≤ (aLoop (μ 2745) n dd meant body m Y).1.1 → Rp none S ν' ρ) → G 4 [.ref 2737, .int (nI (3 - dd)), .int meant, v3, v4, v5] [] S (0, 0) ν ρ := by
    intro m
    induction m with
    | zero =>
      intro ν Y v3 v4 v5 hmm hY hYB hYg hle hq
      refine g4 _ _ _ _ _ _ ?_
      have e17 : ν 2737 17 = Y.1.2.1 := hY.2.2.2.2.2.1
      have e26 : ν 2737 26 = Y.2.1 := hY.2.2.2.2.2.2.2.1
      have hc := PR_c hY hYB
      have hT := (PR_T hY).1
      have fin : Rp none S ν ρ := hq ν hY hYB hYg hle
      have hsee : seeT (μ 2745) n Y.1.1 = -1 := seeT_hi (by omega)
      simp only [w_X12_acts_4, w_X12_acts_129, tAload, tIload, nth, tGetI, tGetR, tConst, tLconst, tBin, tUn, tI2l, tAld, tAldR, tAlen, tIast, tBast, tZast, tAast, tIret, tZret, tVret, tAret, tIf, tIf2, tGoto, tIstore, tAstore, sset, tIinc, tDup, tDup2, tPop, tPutI, tPutZ, tPutR, tCallV, tCallS, popN, tFn, tCopy, tMax, tMin, tSw, swc, tRem, tObjI, Option.toList, List.nil_append, List.cons_append, okR, true_and, and_true, true_or, or_true, Nat.zero_le, ne_eq, not_false_eq_true, Nat.reduceEqDiff, F_X12_see, F_X12_within, hS0, hS, e17, e26, hc.1, hc.2, hT, hsee, b2_z, Decidable.not_not, l_leC, l_geC, il_97, il_122]
      refine ⟨fun _ => fin, fun _ => ⟨fun _ => fin, fun _ => ⟨PR_sp hY hYB, fun _ => fin, fun z => absurd z (by decide)⟩⟩⟩
    | succ m ih =>
      intro ν Y v3 v4 v5 hmm hY hYB hYg hle hq
      refine g4 _ _ _ _ _ _ ?_
      have e17 : ν 2737 17 = Y.1.2.1 := hY.2.2.2.2.2.1
      have e26 : ν 2737 26 = Y.2.1 := hY.2.2.2.2.2.2.2.1
      have hc := PR_c hY hYB
      have hT := (PR_T hY).1
      have stop : (¬ Y.1.2.1 = 0 ∨ ¬ Y.2.1 = 0 ∨ ¬ rgd (seeT (μ 2745) n Y.1.1) 97 122) → Rp none S ν ρ := by
        intro z
        have := hq ν
        rw [aLoop_x z] at this
        exact this hY hYB hYg hle
      simp only [w_X12_acts_4, w_X12_acts_129, tAload, tIload, nth, tGetI, tGetR, tConst, tLconst, tBin, tUn, tI2l, tAld, tAldR, tAlen, tIast, tBast, tZast, tAast, tIret, tZret, tVret, tAret, tIf, tIf2, tGoto, tIstore, tAstore, sset, tIinc, tDup, tDup2, tPop, tPutI, tPutZ, tPutR, tCallV, tCallS, popN, tFn, tCopy, tMax, tMin, tSw, swc, tRem, tObjI, Option.toList, List.nil_append, List.cons_append, okR, true_and, and_true, true_or, or_true, Nat.zero_le, ne_eq, not_false_eq_true, Nat.reduceEqDiff, F_X12_see, F_X12_within, F_X12_word, hS0, hS, e17, e26, hc.1, hc.2, hT, b2_z, Decidable.not_not, l_leC, l_geC, il_97, il_122]
      refine ⟨fun z => stop (Or.inl z), fun z1 => ⟨fun z => stop (Or.inr (Or.inl z)), fun z2 => ⟨PR_sp hY hYB, fun z => stop (Or.inr (Or.inr z)), fun z3 => ?_⟩⟩⟩
      have hlt := see_lt z3 (by decide)
      have hwd := PR_word hY hYB (by omega)
      have hgt := word_gt (P := Y.1) z3
      rw [hT] at hwd
      have f17 : upF ν 2737 (qWord (μ 2745) (ν 2737)).2 2737 17 = (pWord (μ 2745) n Y.1).2.1 := hwd.1.2.2.2.2.2.1
      have f23 : upF ν 2737 (qWord (μ 2745) (ν 2737)).2 2737 23 = nI (blk (μ 2745) n Y.1.1) := by rw [upF_same]; exact hwd.2.2.2.1
      have hle' : (ν 2737 16).toInt ≤ (ν 2737 15).toInt := by
        rw [hY.2.2.2.1, hY.2.2.2.2.1, nI_toInt (by omega), nI_toInt (by omega)]
        omega
      rw [aLoop_s, if_neg (fun z => by rcases z with z | z | z; exact z z1; exact z z2; exact z z3)] at hq
      simp only [f17, hwd.2.2.1]
      refine ⟨PR_sp hY hYB, hle', by rw [(PR_T hY).2]; exact hw, fun z4 => ?_, fun z4 => ?_⟩
      · -- an act, or a repetition
        rw [if_neg (not_not_intro z4)] at hq
        generalize hwv : pWordV (μ 2745) n Y.1 = wv at *
        generalize hP1 : pWord (μ 2745) n Y.1 = P1 at *
        generalize hν1 : upF ν 2737 (qWord (μ 2745) (ν 2737)).2 = ν1 at *
        generalize hwat : nI (blk (μ 2745) n Y.1.1) = wat at *
        have back : ∀ (ν2 : Mi) (Y2 : Ps × Es) (v3 v4 v5 : Value), PR μ ν2 n Y2 → PB n Y2.1 → good Y2.2.2.2.2.2.2 → P1.1 ≤ Y2.1.1 → Y2 = (if ¬ wv = 17 then pPlain (μ 2745) n meant wv wat (P1, Y.2) else pTimes (μ 2745) n dd meant body (P1, Y.2)) → w_X12_acts_122 (MS Z (d + 40)) G Rp [.ref 2737, .int (nI (3 - dd)), .int meant, v3, v4, v5] [] S (0, 0) ν2 ρ := by
          intro ν2 Y2 v3 v4 v5 r1 r2 r3 r4 r5
          rw [← r5] at hq
          have hbl := PR_blanks r1 r2
          have hb1 := (blk_le (T := μ 2745) (n := n) (p := Y2.1.1)).1
          simp only [w_X12_acts_122, tAload, tIload, nth, tGetI, tGetR, tConst, tLconst, tBin, tUn, tI2l, tAld, tAldR, tAlen, tIast, tBast, tZast, tAast, tIret, tZret, tVret, tAret, tIf, tIf2, tGoto, tIstore, tAstore, sset, tIinc, tDup, tDup2, tPop, tPutI, tPutZ, tPutR, tCallV, tCallS, popN, tFn, tCopy, tMax, tMin, tSw, swc, tRem, tObjI, Option.toList, List.nil_append, List.cons_append, okR, true_and, and_true, true_or, or_true, Nat.zero_le, ne_eq, not_false_eq_true, Nat.reduceEqDiff, F_X12_blanks, hS0]
          refine ⟨PR_sp r1 r2, ih _ _ _ _ _ ?_ hbl.1 hbl.2 r3 ?_ hq⟩
          · show n + 1 ≤ m + blk _ _ _; omega
          · show X.1.1 ≤ blk _ _ _; omega
        simp only [w_X12_acts_48, w_X12_acts_63, tAload, tIload, nth, tGetI, tGetR, tConst, tLconst, tBin, tUn, tI2l, tAld, tAldR, tAlen, tIast, tBast, tZast, tAast, tIret, tZret, tVret, tAret, tIf, tIf2, tGoto, tIstore, tAstore, sset, tIinc, tDup, tDup2, tPop, tPutI, tPutZ, tPutR, tCallV, tCallS, popN, tFn, tCopy, tMax, tMin, tSw, swc, tRem, tObjI, Option.toList, List.nil_append, List.cons_append, okR, true_and, and_true, true_or, or_true, Nat.zero_le, ne_eq, not_false_eq_true, Nat.reduceEqDiff, F_X12_numbersOf, hS, Decidable.not_not]
        refine ⟨fun z5 => ?_, fun z5 => ?_⟩
        · obtain ⟨many, em, em3⟩ := nOf_13 (w := wv)
          rw [em]
          have nums : ∀ (r k : Nat) (ν2 : Mi) (P : Ps) (t : Rw), r + k = many → PR μ ν2 n (P, (Y.2.1, Y.2.2.1, Y.2.2.2.1, Y.2.2.2.2.1, t, Y.2.2.2.2.2.2)) → PB n P → P.1 ≤ n → P1.1 ≤ P.1 → ν2 2737 23 = wat → pNums (μ 2745) n r k P t = pNums (μ 2745) n many 0 P1 Y.2.2.2.2.2.1 → G 72 [.ref 2737, .int (nI (3 - dd)), .int meant, .int wv, .int (nI many), .int (nI k)] [] S (0, 0) ν2 ρ := by
            intro r
            induction r with
            | zero =>
              intro k ν2 P t hk r1 r2 r3 r4 r5 r6
              obtain rfl : k = many := by omega
              refine g72 _ _ _ _ _ _ ?_
              have hs := PR_sign (c := 59) r1 r2 (by show P.1 ≤ 399; omega) (by decide)
              have f23' : upF ν2 2737 (qSign (ν2 2745) (ν2 2737) 59) 2737 23 = wat := by rw [upF_same, qSign_23]; exact r5
              have hge : P1.1 ≤ (pSign (μ 2745) n 59 P).1 := by
                have := (blk_le (T := μ 2745) (n := n) (p := P.1)).1
                show P1.1 ≤ blk _ _ _ + 1
                omega
              have r6' : (P, t) = pNums (μ 2745) n k 0 P1 Y.2.2.2.2.2.1 := r6
              have ekk : (nOf wv).toNatClampNeg = k := by rw [em, nI_clamp (by omega)]
              have hgA : upF ν2 2737 (qSign (ν2 2745) (ν2 2737) 59) 2738 = Y.2.2.2.2.2.2 := hs.1.2.1
              simp only [w_X12_acts_72, w_X12_acts_107, tAload, tIload, nth, tGetI, tGetR, tConst, tLconst, tBin, tUn, tI2l, tAld, tAldR, tAlen, tIast, tBast, tZast, tAast, tIret, tZret, tVret, tAret, tIf, tIf2, tGoto, tIstore, tAstore, sset, tIinc, tDup, tDup2, tPop, tPutI, tPutZ, tPutR, tCallV, tCallS, popN, tFn, tCopy, tMax, tMin, tSw, swc, tRem, tObjI, Option.toList, List.nil_append, List.cons_append, okR, true_and, and_true, true_or, or_true, Nat.zero_le, ne_eq, not_false_eq_true, Nat.reduceEqDiff, F_X12_sign, F_X12_act, hS0, hgA, f23']
              refine ⟨fun _ => ⟨PR_sp r1 r2, fun c => ?_, fun c => ⟨hYg, fun t' g' => ?_⟩⟩, fun z => absurd (Int32.le_refl _) z⟩
              · refine back _ _ _ _ _ hs.1 hs.2 hYg hge ?_
                rw [if_pos z5]
                unfold pPlain
                rw [ekk]
                simp only [← r6', if_pos c]
              · have ha := PR_act (w := wv) (wat := wat) (g := g') (t := t') hs.1
                rw [hgA] at ha
                refine back _ _ _ _ _ ha hs.2 (good_act hYg) hge ?_
                rw [if_pos z5]
                unfold pPlain
                rw [ekk]
                simp only [← r6', if_neg c]
            | succ r ihr =>
              intro k ν2 P t hk r1 r2 r3 r4 r5 r6
              refine g72 _ _ _ _ _ _ ?_
              rw [pNums_s] at r6
              have lt : ¬ nI many ≤ nI k := by rw [nI_leI (by omega) (by omega)]; omega
              have numS : ∀ (b : Int32), b = (if k = 2 then 1 else 0) → w_X12_acts_97 (MS Z (d + 40)) G Rp [.ref 2737, .int (nI (3 - dd)), .int meant, .int wv, .int (nI many), .int (nI k)] [.int b, .ref 2737, .int (nI k), .ref 2747] S (0, 0) ν2 ρ := by
                intro b hb
                have hnum := PR_num (b := b) r1 r2 (by show P.1 ≤ 399; omega)
                have hge := pNum_ge (T := μ 2745) (n := n) (b := b) (P := P)
                simp only [w_X12_acts_97, tAload, tIload, nth, tGetI, tGetR, tConst, tLconst, tBin, tUn, tI2l, tAld, tAldR, tAlen, tIast, tBast, tZast, tAast, tIret, tZret, tVret, tAret, tIf, tIf2, tGoto, tIstore, tAstore, sset, tIinc, tDup, tDup2, tPop, tPutI, tPutZ, tPutR, tCallV, tCallS, popN, tFn, tCopy, tMax, tMin, tSw, swc, tRem, tObjI, Option.toList, List.nil_append, List.cons_append, okR, true_and, and_true, true_or, or_true, Nat.zero_le, ne_eq, not_false_eq_true, Nat.reduceEqDiff, F_X12_number, hS0, hS, hnum.2.2.1, nI_1]
                simp (disch := omega) only [nI_clamp, nI_inb]
                rw [← hb] at r6
                refine ⟨PR_sp r1 r2, by omega, ihr (k + 1) _ _ _ (by omega) (PR_told hnum.1) hnum.2.1 ?_ ?_ ?_ r6⟩
                · show (pNum (μ 2745) n b P).1 ≤ n
                  have r3' : P.1 ≤ n := r3
                  have : (pNum (μ 2745) n b P).1 ≤ n ∨ (pNum (μ 2745) n b P).1 ≤ P.1 := hnum.2.2.2.2
                  omega
                · exact Nat.le_trans r4 hge
                · rw [upI_upF, upF_ne (by decide), upF_same, qNum_23]; exact r5
              simp only [w_X12_acts_72, w_X12_acts_96, tAload, tIload, nth, tGetI, tGetR, tConst, tLconst, tBin, tUn, tI2l, tAld, tAldR, tAlen, tIast, tBast, tZast, tAast, tIret, tZret, tVret, tAret, tIf, tIf2, tGoto, tIstore, tAstore, sset, tIinc, tDup, tDup2, tPop, tPutI, tPutZ, tPutR, tCallV, tCallS, popN, tFn, tCopy, tMax, tMin, tSw, swc, tRem, tObjI, Option.toList, List.nil_append, List.cons_append, okR, true_and, and_true, true_or, or_true, Nat.zero_le, ne_eq, not_false_eq_true, Nat.reduceEqDiff, hS, Decidable.not_not]
              refine ⟨fun z => absurd z lt, fun _ => ⟨fun c => numS 0 ?_, fun c => numS 1 ?_⟩⟩
              · rw [show (2 : Int32) = nI 2 from rfl, nI_eq (by omega) (by decide)] at c
                rw [if_neg c]
              · rw [show (2 : Int32) = nI 2 from rfl, nI_eq (by omega) (by decide)] at c
                rw [if_pos c]
          exact nums many 0 ν1 P1 Y.2.2.2.2.2.1 rfl hwd.1 hwd.2.1 hwd.2.2.2.2 (Nat.le_refl _) f23 rfl
        · refine times_core hdd hS0 hm hbody ν1 (P1, Y.2) _ hwd.1 hwd.2.1 hwd.2.2.2.2 hYg (fun ν' p1 p2 p3 p4 => ?_)
          simp only [tAload, tIload, nth, tGetI, tGetR, tConst, tLconst, tBin, tUn, tI2l, tAld, tAldR, tAlen, tIast, tBast, tZast, tAast, tIret, tZret, tVret, tAret, tIf, tIf2, tGoto, tIstore, tAstore, sset, tIinc, tDup, tDup2, tPop, tPutI, tPutZ, tPutR, tCallV, tCallS, popN, tFn, tCopy, tMax, tMin, tSw, swc, tRem, tObjI, Option.toList, List.nil_append, List.cons_append, okR, true_and, and_true, true_or, or_true, Nat.zero_le, ne_eq, not_false_eq_true, Nat.reduceEqDiff]
          exact back _ _ _ _ _ p1 p2 p3 p4 (by rw [if_neg (not_not_intro z5)])
      · rw [if_pos z4] at hq
        exact hq _ hwd.1 hwd.2.1 hYg (by show X.1.1 ≤ (pWord (μ 2745) n Y.1).1; omega)
  have hbl := PR_blanks hP hB
  have hb1 := (blk_le (T := μ 2745) (n := n) (p := X.1.1)).1
  simp only [w_X12_acts_0, tAload, tIload, nth, tGetI, tGetR, tConst, tLconst, tBin, tUn, tI2l, tAld, tAldR, tAlen, tIast, tBast, tZast, tAast, tIret, tZret, tVret, tAret, tIf, tIf2, tGoto, tIstore, tAstore, sset, tIinc, tDup, tDup2, tPop, tPutI, tPutZ, tPutR, tCallV, tCallS, popN, tFn, tCopy, tMax, tMin, tSw, swc, tRem, tObjI, Option.toList, List.nil_append, List.cons_append, okR, true_and, and_true, true_or, or_true, Nat.zero_le, ne_eq, not_false_eq_true, Nat.reduceEqDiff, F_X12_blanks, hS0]
  refine ⟨PR_sp hP hB, loop (n + 1) _ _ _ _ _ (by show n + 1 ≤ n + 1 + blk _ _ _; omega) hbl.1 hbl.2 hg hb1 h⟩
/-- acts, however deep -/
theorem acts_core {Z : Zt} {S : Sh} {ρ : Mr} {μ : Mi} {n : Nat} {meant : Int32} (hS0 : RS S ρ) (hm : meant = 0 ∨ meant = 1) (hw : wdOK (μ 2746)) : ∀ (dd d : Nat), dd ≤ 3 → actsC Z S ρ μ n meant (d + 2 * dd + 41) (nI (3 - dd)) (pActs (μ 2745) n meant dd) := by
  intro dd
  induction dd with
  | zero =>
    intro d h
    exact acts_lvl (dd := 0) (d := d) (by omega) hS0 hm hw (fun z => absurd rfl z)
  | succ dd ih =>
    intro d h
    have := acts_lvl (Z := Z) (n := n) (dd := dd + 1) (d := d + 2 * (dd + 1)) (body := pActs (μ 2745) n meant dd) h hS0 hm hw (fun _ => by
      have h1 := ih d (by omega)
      rw [show d + 2 * (dd + 1) + 39 = d + 2 * dd + 41 by omega, show nI (3 - (dd + 1)) + 1 = nI (3 - dd) from by rw [nI_1, show 3 - (dd + 1) + 1 = 3 - dd by omega]]
      exact h1)
    exact this
