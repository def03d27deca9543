/-! ===== the reference: a word, an act of a script ===== -/
def ltF (T : Rw) (n : Nat) : Nat → Nat → Nat := fun m p => match m with
  | 0 => p
  | m + 1 => if rgd (seeT T n p) 97 122 then ltF T n m (p + 1) else p
theorem ltF_s {T : Rw} {n m p : Nat} : ltF T n (m + 1) p = if rgd (seeT T n p) 97 122 then ltF T n m (p + 1) else p := rfl
/-- behind the letters -/
def ltr (T : Rw) (n p : Nat) : Nat := ltF T n (n - p) p
theorem ltr_s {T : Rw} {n p : Nat} (h : rgd (seeT T n p) 97 122) : ltr T n p = ltr T n (p + 1) := by
  unfold ltr
  have hp := see_lt h (by decide)
  obtain ⟨m, hm⟩ : ∃ m, n - p = m + 1 := ⟨n - p - 1, by omega⟩
  rw [hm, ltF_s, if_pos h, show n - (p + 1) = m by omega]
theorem ltr_e {T : Rw} {n p : Nat} (h : ¬ rgd (seeT T n p) 97 122) : ltr T n p = p := by
  unfold ltr
  cases hm : n - p with
  | zero => rfl
  | succ m => rw [ltF_s, if_neg h]
theorem ltF_le {T : Rw} {n : Nat} : ∀ {m p : Nat}, p ≤ ltF T n m p ∧ ltF T n m p ≤ p + m := by
  intro m
  induction m with
  | zero => intro p; exact ⟨Nat.le_refl _, Nat.le_refl _⟩
  | succ m ih =>
    intro p
    rw [ltF_s]
    split
    · have := @ih (p + 1); omega
    · omega
theorem ltr_le {T : Rw} {n p : Nat} (h : p ≤ n) : p ≤ ltr T n p ∧ ltr T n p ≤ n := by
  have := ltF_le (T := T) (n := n) (m := n - p) (p := p)
  unfold ltr
  omega
def qWord1 (F : Rw) (w : Int32) (b e : Nat) : Rw := let F2 := up (up (up F 16 (nI b)) 23 (nI b)) 16 (nI e); if ¬ w = -1 then F2 else qFails F2 1 (nI b)
def qWord (T F : Rw) : Int32 × Rw :=
  let b := blk T (F 15).toNatClampNeg (F 16).toNatClampNeg
  let e := ltr T (F 15).toNatClampNeg b
  (qWordFrom T b e, qWord1 F (qWordFrom T b e) b e)
def w_X12_word_65 (M : CT) (G : Nat → PT) (Rp : RT) : PT := tIload 1 <| tIret Rp
def w_X12_word_42 (M : CT) (G : Nat → PT) (Rp : RT) : PT := tAload 0 <| tAload 0 <| tGetI 12 27 23 <| tFn 2 F_X12_wordFrom <| tIstore 1 <| tIload 1 <| tConst (-1) <| tIf2 (fun x y => x ≠ y) (w_X12_word_65 M G Rp) <| tAload 0 <| tConst 1 <| tAload 0 <| tGetI 12 27 23 <| tFn 3 F_X12_fails <| w_X12_word_65 M G Rp
def w_X12_word_12 (M : CT) (G : Nat → PT) (Rp : RT) : PT := tAload 0 <| tFn 1 F_X12_see <| tI2l <| tLconst 97 <| tLconst 122 <| tFn 3 F_X12_within <| tIf (fun x => x = 0) (w_X12_word_42 M G Rp) <| tAload 0 <| tDup <| tGetI 12 27 16 <| tConst 1 <| tBin (fun x y => x + y) <| tPutI 12 27 16 <| tGoto (G 12)
def w_X12_word_0 (M : CT) (G : Nat → PT) (Rp : RT) : PT := tAload 0 <| tFn 1 F_X12_blanks <| tAload 0 <| tAload 0 <| tGetI 12 27 16 <| tPutI 12 27 23 <| G 12
set_option maxRecDepth 20000 in
theorem b_X12_word_65 {Z : Zt} {d : Nat} {p : Program} {e : Env} {R : Room} {s : State} {m : MethodId} {args : Array Value} {below : List Frame} {meth : Method} {c : Code} {Rp : RT} (C : Cx Z (d + 2) jX12_word RX12 p R s m args meth c) : Sd Z jX12_word p e R s m args below meth c (MQ below (QcS Z Rp) args s 0 0 (fun a => Z.2.2.1 < a)) 65 (w_X12_word_65 (MS Z (d + 2)) (Gw Z 2 p e R s m args below meth c (MQ below (QcS Z Rp) args s 0 0 (fun a => Z.2.2.1 < a))) Rp) := by
  unfold w_X12_word_65
  refine s_iload_n (k := 1) C (by decide +kernel) ?_
  exact s_iret C rfl (by decide +kernel)
set_option maxRecDepth 20000 in
theorem b_X12_word_42 {Z : Zt} {d : Nat} {p : Program} {e : Env} {R : Room} {s : State} {m : MethodId} {args : Array Value} {below : List Frame} {meth : Method} {c : Code} {Rp : RT} (C : Cx Z (d + 2) jX12_word RX12 p R s m args meth c) : Sd Z jX12_word p e R s m args below meth c (MQ below (QcS Z Rp) args s 0 0 (fun a => Z.2.2.1 < a)) 42 (w_X12_word_42 (MS Z (d + 2)) (Gw Z 2 p e R s m args below meth c (MQ below (QcS Z Rp) args s 0 0 (fun a => Z.2.2.1 < a))) Rp) := by
  unfold w_X12_word_42
  refine s_aload_n (k := 0) C (by decide +kernel) ?_
  refine s_aload_n (k := 0) C (by decide +kernel) ?_
  refine s_getI C w_6_110 (by decide +kernel) rfl ?_
  refine s_fnV C (j2 := jX12_wordFrom) (cl := 12) (nf := 27) rfl rfl (by decide +kernel) rfl w_8_51 w_8_53 w_p7_5 w_1_13 w_8_54 (by decide +kernel) (fun _ _ _ _ _ h => f_X12_wordFrom h) (fun _ _ _ _ _ h => r_X12_wordFrom h) ?_
  refine s_istore_n (k := 1) C (by decide +kernel) ?_
  refine s_iload_n (k := 1) C (by decide +kernel) ?_
  refine s_iconst (n := (-1)) C (by decide +kernel) (by decide) ?_
  refine s_icmp_ne (off := 12) (tgt := 65) C (by decide +kernel) (by decide) (b_X12_word_65 C) ?_
  refine s_aload_n (k := 0) C (by decide +kernel) ?_
  refine s_iconst (n := 1) C (by decide +kernel) (by decide) ?_
  refine s_aload_n (k := 0) C (by decide +kernel) ?_
  refine s_getI C w_6_110 (by decide +kernel) rfl ?_
  refine s_fnV C (j2 := jX12_fails) (cl := 12) (nf := 27) rfl rfl (by decide +kernel) rfl w_8_55 w_8_57 w_p7_6 w_1_13 w_8_58 (by decide +kernel) (fun _ _ _ _ _ h => f_X12_fails h) (fun _ _ _ _ _ h => r_X12_fails h) ?_
  exact (b_X12_word_65 C)
set_option maxRecDepth 20000 in
theorem b_X12_word_12 {Z : Zt} {d : Nat} {p : Program} {e : Env} {R : Room} {s : State} {m : MethodId} {args : Array Value} {below : List Frame} {meth : Method} {c : Code} {Rp : RT} (C : Cx Z (d + 2) jX12_word RX12 p R s m args meth c) : Sd Z jX12_word p e R s m args below meth c (MQ below (QcS Z Rp) args s 0 0 (fun a => Z.2.2.1 < a)) 12 (w_X12_word_12 (MS Z (d + 2)) (Gw Z 2 p e R s m args below meth c (MQ below (QcS Z Rp) args s 0 0 (fun a => Z.2.2.1 < a))) Rp) := by
  unfold w_X12_word_12
  refine s_aload_n (k := 0) C (by decide +kernel) ?_
  refine s_fnV C (j2 := jX12_see) (cl := 12) (nf := 27) rfl rfl (by decide +kernel) rfl w_8_41 w_8_43 w_p7_3 w_1_13 w_8_44 (by decide +kernel) (fun _ _ _ _ _ h => f_X12_see h) (fun _ _ _ _ _ h => r_X12_see h) ?_
  refine s_i2l C (by decide +kernel) ?_
  refine s_ldc2 C w_8_45 (by decide +kernel) ?_
  refine s_ldc2 C w_8_46 (by decide +kernel) ?_
  refine s_fnS C (j2 := jX12_within) (by decide +kernel) rfl w_6_175 w_6_176 w_1_13 w_6_177 (by decide +kernel) (fun _ _ _ _ _ h => f_X12_within h) ?_
  refine s_if_eq (off := 16) (tgt := 42) C (by decide +kernel) (by decide) (b_X12_word_42 C) ?_
  refine s_aload_n (k := 0) C (by decide +kernel) ?_
  refine s_dup C (by decide +kernel) ?_
  refine s_getI C w_6_103 (by decide +kernel) rfl ?_
  refine s_iconst (n := 1) C (by decide +kernel) (by decide) ?_
  refine s_iadd C (by decide +kernel) ?_
  refine s_putI C w_6_103 (by decide +kernel) rfl (Or.inl rfl) ?_
  exact s_goto (off := (-27)) (tgt := 12) C (by decide +kernel) (by decide) (fun _ _ _ _ _ _ h => h)
set_option maxRecDepth 20000 in
theorem b_X12_word_0 {Z : Zt} {d : Nat} {p : Program} {e : Env} {R : Room} {s : State} {m : MethodId} {args : Array Value} {below : List Frame} {meth : Method} {c : Code} {Rp : RT} (C : Cx Z (d + 2) jX12_word RX12 p R s m args meth c) : Sd Z jX12_word p e R s m args below meth c (MQ below (QcS Z Rp) args s 0 0 (fun a => Z.2.2.1 < a)) 0 (w_X12_word_0 (MS Z (d + 2)) (Gw Z 2 p e R s m args below meth c (MQ below (QcS Z Rp) args s 0 0 (fun a => Z.2.2.1 < a))) Rp) := by
  unfold w_X12_word_0
  refine s_aload_n (k := 0) C (by decide +kernel) ?_
  refine s_fnV C (j2 := jX12_blanks) (cl := 12) (nf := 27) rfl rfl (by decide +kernel) rfl w_8_37 w_8_39 w_p7_2 w_1_13 w_8_40 (by decide +kernel) (fun _ _ _ _ _ h => f_X12_blanks h) (fun _ _ _ _ _ h => r_X12_blanks h) ?_
  refine s_aload_n (k := 0) C (by decide +kernel) ?_
  refine s_aload_n (k := 0) C (by decide +kernel) ?_
  refine s_getI C w_6_103 (by decide +kernel) rfl ?_
  refine s_putI C w_6_110 (by decide +kernel) rfl (Or.inl rfl) ?_
  exact (fun _ _ _ _ _ _ h => h)
theorem ms_X12_word {Z : Zt} {d : Nat} {S : Sh} {μ : Mi} {ρ : Mr} {Rp : RT} (a0 : Nat) (h : ∀ G : Nat → PT, (∀ (L st : List Value) (S : Sh) (q : Nat × Nat) (μ : Mi) (ρ : Mr), w_X12_word_12 (MS Z (d + 2)) G Rp L st S q μ ρ → G 12 L st S q μ ρ) → w_X12_word_0 (MS Z (d + 2)) G Rp [.ref a0, .null] [] S (0, 0) μ ρ) : MS Z (d + 3) jX12_word [.ref a0] S μ ρ Rp :=
  MS_of [.ref a0, .null] (by decide +kernel) rfl rfl (Nat.le_of_ble_eq_true rfl) rfl (fun p e R s m args below meth c C => b_X12_word_0 C _ _ _ _ _ _ (h _ (b_X12_word_12 C)))
def F_X12_word : FT := fun As S μ ρ k => match As with
  | [.ref a] => a = 2737 ∧ RS S ρ ∧ spOK (μ 2737) ∧ (μ 2737 16).toInt ≤ (μ 2737 15).toInt ∧ wdOK (μ 2746) ∧ k (some (.int (qWord (μ 2745) (μ 2737)).1)) (upF μ 2737 (qWord (μ 2745) (μ 2737)).2)
  | _ => False
theorem r_X12_word {As S μ ρ k} (h : F_X12_word As S μ ρ k) : ∃ a As', As = Value.ref a :: As' ∧ S.2 a = (12, 27) := by
  unfold F_X12_word at h
  split at h
  · exact ⟨_, _, rfl, by rw [h.1]; exact h.2.1.1⟩
  · exact h.elim
set_option maxHeartbeats 1000000 in
theorem f_X12_word {Z : Zt} {d : Nat} {As : List Value} {S : Sh} {μ : Mi} {ρ : Mr} {Rp : RT} (h : F_X12_word As S μ ρ (fun r μ' => Rp r S μ' ρ)) : MS Z (d + 3) jX12_word As S μ ρ Rp := by
  unfold F_X12_word at h
  split at h
  · rename_i a
    obtain ⟨rfl, hS, h⟩ := h
    have hS0 := hS
    unfold RS at hS
    obtain ⟨hs, hle, hw, h⟩ := h
    have hb := spOK_blk (T := μ 2745) hs
    obtain ⟨n, en, en0, -, en1⟩ := rg_ex hs.1
    obtain ⟨p, ep, ep0, -, ep1⟩ := rg_ex hs.2
    rw [en, ep, nI_toInt en0, nI_toInt ep0] at hle
    have hble := blk_le (T := μ 2745) (n := n) (p := p)
    unfold qWord at h
    rw [en, ep, nI_clamp en0, nI_clamp ep0] at h hb
    have n1 : (2745 : Nat) ≠ 2737 := by decide
    have n2 : (2746 : Nat) ≠ 2737 := by decide
    refine ms_X12_word _ (fun G g12 => ?_)
    have hbn : blk (μ 2745) n p ≤ n := by omega
    have hln := ltr_le (T := μ 2745) hbn
    simp only at h
    generalize hbb : blk (μ 2745) n p = b at *
    have loop : ∀ (m q : Nat) (v : Value), n + 1 - q ≤ m → b ≤ q → q ≤ n → ltr (μ 2745) n q = ltr (μ 2745) n b → G 12 [.ref 2737, v] [] S (0, 0) (upF μ 2737 (up (up (up (μ 2737) 16 (nI b)) 23 (nI b)) 16 (nI q))) ρ := by
      intro m
      induction m with
      | zero => intro q v q1 q2 q3 q4; omega
      | succ m ih =>
        intro q v q1 q2 q3 q4
        refine g12 _ _ _ _ _ _ ?_
        have eF : up (up (up (μ 2737) 16 (nI b)) 23 (nI b)) 16 (nI q) 15 = nI n := by rw [up_ne (by decide), up_ne (by decide), up_ne (by decide)]; exact en
        have e23 : up (up (up (μ 2737) 16 (nI b)) 23 (nI b)) 16 (nI q) 23 = nI b := by rw [up_ne (by decide), up_at]
        have hsp : spOK (up (up (up (μ 2737) 16 (nI b)) 23 (nI b)) 16 (nI q)) := ⟨by rw [eF, rg_nI en0]; omega, by rw [up_at, rg_nI (by omega)]; omega⟩
        simp only [w_X12_word_12, w_X12_word_42, w_X12_word_65, tAload, tIload, nth, tGetI, tGetR, tConst, tLconst, tBin, tUn, tI2l, tAld, tAldR, tAlen, tIast, tBast, tZast, tAast, tIret, tZret, tVret, tAret, tIf, tIf2, tGoto, tIstore, tAstore, sset, tIinc, tDup, tDup2, tPop, tPutI, tPutZ, tPutR, tCallV, tCallS, popN, tFn, tCopy, tMax, tMin, tSw, swc, tRem, tObjI, Option.toList, List.nil_append, List.cons_append, okR, true_and, and_true, true_or, or_true, Nat.zero_le, ne_eq, not_false_eq_true, Nat.reduceEqDiff, F_X12_see, F_X12_within, F_X12_wordFrom, F_X12_fails, hS0, hS, upF_same, upF_upF, upF_ne n1, upF_ne n2, up_at, up_up, eF, e23, upI_row, nI_1, b2_z, Decidable.not_not, l_leC, l_geC, il_97, il_122]
        simp (disch := omega) only [nI_clamp, nI_toInt]
        refine ⟨hsp, fun c => ?_, fun c => ?_⟩
        · rw [ltr_e c] at q4
          rw [← q4] at h
          unfold qWord1 at h
          refine ⟨by rw [rg_nI (by omega)]; omega, by rw [rg_nI (by omega)]; omega, by omega, hw, fun c2 => ?_, fun c2 => ?_⟩
          · simp only [if_pos c2] at h; exact h
          · simp only [if_neg (not_not_intro c2)] at h; exact h
        · have hq := see_lt c (by decide)
          exact ih (q + 1) _ (by omega) (by omega) (by omega) (by rw [← ltr_s c]; exact q4)
    simp only [w_X12_word_0, tAload, tIload, nth, tGetI, tGetR, tConst, tLconst, tBin, tUn, tI2l, tAld, tAldR, tAlen, tIast, tBast, tZast, tAast, tIret, tZret, tVret, tAret, tIf, tIf2, tGoto, tIstore, tAstore, sset, tIinc, tDup, tDup2, tPop, tPutI, tPutZ, tPutR, tCallV, tCallS, popN, tFn, tCopy, tMax, tMin, tSw, swc, tRem, tObjI, Option.toList, List.nil_append, List.cons_append, okR, true_and, and_true, true_or, or_true, Nat.zero_le, ne_eq, not_false_eq_true, Nat.reduceEqDiff, F_X12_blanks, hS0, hS, en, ep, upF_same, upI_row]
    simp (disch := omega) only [nI_clamp, hbb, up_at]
    refine ⟨hs, ?_⟩
    have := loop (n + 1) b .null (by omega) (Nat.le_refl _) hbn rfl
    have e : up (up (up (μ 2737) 16 (nI b)) 23 (nI b)) 16 (nI b) = up (up (μ 2737) 16 (nI b)) 23 (nI b) := by
      funext i
      unfold up
      by_cases z : i = 16
      · rw [if_pos z, if_neg (by omega), if_pos z]
      · rw [if_neg z]
    rw [e] at this
    exact this
  · exact h.elim
def nOf (w : Int32) : Int32 := if w = 2 ∨ w = 3 then 3 else if w = 4 ∨ w = 5 ∨ w = 6 ∨ w = 10 ∨ w = 11 then 2 else 1
def w_X12_numbersOf_45 (M : CT) (G : Nat → PT) (Rp : RT) : PT := tIret Rp
def w_X12_numbersOf_44 (M : CT) (G : Nat → PT) (Rp : RT) : PT := tConst 1 <| w_X12_numbersOf_45 M G Rp
def w_X12_numbersOf_40 (M : CT) (G : Nat → PT) (Rp : RT) : PT := tConst 2 <| tGoto (w_X12_numbersOf_45 M G Rp)
def w_X12_numbersOf_12 (M : CT) (G : Nat → PT) (Rp : RT) : PT := tIload 0 <| tConst 4 <| tIf2 (fun x y => x = y) (w_X12_numbersOf_40 M G Rp) <| tIload 0 <| tConst 5 <| tIf2 (fun x y => x = y) (w_X12_numbersOf_40 M G Rp) <| tIload 0 <| tConst 6 <| tIf2 (fun x y => x = y) (w_X12_numbersOf_40 M G Rp) <| tIload 0 <| tConst 10 <| tIf2 (fun x y => x = y) (w_X12_numbersOf_40 M G Rp) <| tIload 0 <| tConst 11 <| tIf2 (fun x y => x ≠ y) (w_X12_numbersOf_44 M G Rp) <| w_X12_numbersOf_40 M G Rp
def w_X12_numbersOf_10 (M : CT) (G : Nat → PT) (Rp : RT) : PT := tConst 3 <| tIret Rp
def w_X12_numbersOf_0 (M : CT) (G : Nat → PT) (Rp : RT) : PT := tIload 0 <| tConst 2 <| tIf2 (fun x y => x = y) (w_X12_numbersOf_10 M G Rp) <| tIload 0 <| tConst 3 <| tIf2 (fun x y => x ≠ y) (w_X12_numbersOf_12 M G Rp) <| w_X12_numbersOf_10 M G Rp
set_option maxRecDepth 20000 in
theorem b_X12_numbersOf_45 {Z : Zt} {d : Nat} {p : Program} {e : Env} {R : Room} {s : State} {m : MethodId} {args : Array Value} {below : List Frame} {meth : Method} {c : Code} {Rp : RT} (C : Cx Z d jX12_numbersOf RX12 p R s m args meth c) : Sd Z jX12_numbersOf p e R s m args below meth c (MQ below (QcS Z Rp) args s 0 0 (fun a => Z.2.2.1 < a)) 45 (w_X12_numbersOf_45 (MS Z d) (Gw Z 1 p e R s m args below meth c (MQ below (QcS Z Rp) args s 0 0 (fun a => Z.2.2.1 < a))) Rp) := by
  unfold w_X12_numbersOf_45
  exact s_iret C rfl (by decide +kernel)
set_option maxRecDepth 20000 in
theorem b_X12_numbersOf_44 {Z : Zt} {d : Nat} {p : Program} {e : Env} {R : Room} {s : State} {m : MethodId} {args : Array Value} {below : List Frame} {meth : Method} {c : Code} {Rp : RT} (C : Cx Z d jX12_numbersOf RX12 p R s m args meth c) : Sd Z jX12_numbersOf p e R s m args below meth c (MQ below (QcS Z Rp) args s 0 0 (fun a => Z.2.2.1 < a)) 44 (w_X12_numbersOf_44 (MS Z d) (Gw Z 1 p e R s m args below meth c (MQ below (QcS Z Rp) args s 0 0 (fun a => Z.2.2.1 < a))) Rp) := by
  unfold w_X12_numbersOf_44
  refine s_iconst (n := 1) C (by decide +kernel) (by decide) ?_
  exact (b_X12_numbersOf_45 C)
set_option maxRecDepth 20000 in
theorem b_X12_numbersOf_40 {Z : Zt} {d : Nat} {p : Program} {e : Env} {R : Room} {s : State} {m : MethodId} {args : Array Value} {below : List Frame} {meth : Method} {c : Code} {Rp : RT} (C : Cx Z d jX12_numbersOf RX12 p R s m args meth c) : Sd Z jX12_numbersOf p e R s m args below meth c (MQ below (QcS Z Rp) args s 0 0 (fun a => Z.2.2.1 < a)) 40 (w_X12_numbersOf_40 (MS Z d) (Gw Z 1 p e R s m args below meth c (MQ below (QcS Z Rp) args s 0 0 (fun a => Z.2.2.1 < a))) Rp) := by
  unfold w_X12_numbersOf_40
  refine s_iconst (n := 2) C (by decide +kernel) (by decide) ?_
  exact s_goto (off := 4) (tgt := 45) C (by decide +kernel) (by decide) (b_X12_numbersOf_45 C)
set_option maxRecDepth 20000 in
theorem b_X12_numbersOf_12 {Z : Zt} {d : Nat} {p : Program} {e : Env} {R : Room} {s : State} {m : MethodId} {args : Array Value} {below : List Frame} {meth : Method} {c : Code} {Rp : RT} (C : Cx Z d jX12_numbersOf RX12 p R s m args meth c) : Sd Z jX12_numbersOf p e R s m args below meth c (MQ below (QcS Z Rp) args s 0 0 (fun a => Z.2.2.1 < a)) 12 (w_X12_numbersOf_12 (MS Z d) (Gw Z 1 p e R s m args below meth c (MQ below (QcS Z Rp) args s 0 0 (fun a => Z.2.2.1 < a))) Rp) := by
  unfold w_X12_numbersOf_12
  refine s_iload_n (k := 0) C (by decide +kernel) ?_
  refine s_iconst (n := 4) C (by decide +kernel) (by decide) ?_
  refine s_icmp_eq (off := 26) (tgt := 40) C (by decide +kernel) (by decide) (b_X12_numbersOf_40 C) ?_
  refine s_iload_n (k := 0) C (by decide +kernel) ?_
  refine s_iconst (n := 5) C (by decide +kernel) (by decide) ?_
  refine s_icmp_eq (off := 21) (tgt := 40) C (by decide +kernel) (by decide) (b_X12_numbersOf_40 C) ?_
  refine s_iload_n (k := 0) C (by decide +kernel) ?_
  refine s_bipush (n := 6) C (by decide +kernel) (by decide) ?_
  refine s_icmp_eq (off := 15) (tgt := 40) C (by decide +kernel) (by decide) (b_X12_numbersOf_40 C) ?_
  refine s_iload_n (k := 0) C (by decide +kernel) ?_
  refine s_bipush (n := 10) C (by decide +kernel) (by decide) ?_
  refine s_icmp_eq (off := 9) (tgt := 40) C (by decide +kernel) (by decide) (b_X12_numbersOf_40 C) ?_
  refine s_iload_n (k := 0) C (by decide +kernel) ?_
  refine s_bipush (n := 11) C (by decide +kernel) (by decide) ?_
  refine s_icmp_ne (off := 7) (tgt := 44) C (by decide +kernel) (by decide) (b_X12_numbersOf_44 C) ?_
  exact (b_X12_numbersOf_40 C)
set_option maxRecDepth 20000 in
theorem b_X12_numbersOf_10 {Z : Zt} {d : Nat} {p : Program} {e : Env} {R : Room} {s : State} {m : MethodId} {args : Array Value} {below : List Frame} {meth : Method} {c : Code} {Rp : RT} (C : Cx Z d jX12_numbersOf RX12 p R s m args meth c) : Sd Z jX12_numbersOf p e R s m args below meth c (MQ below (QcS Z Rp) args s 0 0 (fun a => Z.2.2.1 < a)) 10 (w_X12_numbersOf_10 (MS Z d) (Gw Z 1 p e R s m args below meth c (MQ below (QcS Z Rp) args s 0 0 (fun a => Z.2.2.1 < a))) Rp) := by
  unfold w_X12_numbersOf_10
  refine s_iconst (n := 3) C (by decide +kernel) (by decide) ?_
  exact s_iret C rfl (by decide +kernel)
set_option maxRecDepth 20000 in
theorem b_X12_numbersOf_0 {Z : Zt} {d : Nat} {p : Program} {e : Env} {R : Room} {s : State} {m : MethodId} {args : Array Value} {below : List Frame} {meth : Method} {c : Code} {Rp : RT} (C : Cx Z d jX12_numbersOf RX12 p R s m args meth c) : Sd Z jX12_numbersOf p e R s m args below meth c (MQ below (QcS Z Rp) args s 0 0 (fun a => Z.2.2.1 < a)) 0 (w_X12_numbersOf_0 (MS Z d) (Gw Z 1 p e R s m args below meth c (MQ below (QcS Z Rp) args s 0 0 (fun a => Z.2.2.1 < a))) Rp) := by
  unfold w_X12_numbersOf_0
  refine s_iload_n (k := 0) C (by decide +kernel) ?_
  refine s_iconst (n := 2) C (by decide +kernel) (by decide) ?_
  refine s_icmp_eq (off := 8) (tgt := 10) C (by decide +kernel) (by decide) (b_X12_numbersOf_10 C) ?_
  refine s_iload_n (k := 0) C (by decide +kernel) ?_
  refine s_iconst (n := 3) C (by decide +kernel) (by decide) ?_
  refine s_icmp_ne (off := 5) (tgt := 12) C (by decide +kernel) (by decide) (b_X12_numbersOf_12 C) ?_
  exact (b_X12_numbersOf_10 C)
theorem ms_X12_numbersOf {Z : Zt} {d : Nat} {S : Sh} {μ : Mi} {ρ : Mr} {Rp : RT} (x1 : Int32) (h : ∀ G : Nat → PT, w_X12_numbersOf_0 (MS Z d) G Rp [.int x1] [] S (0, 0) μ ρ) : MS Z (d + 1) jX12_numbersOf [.int x1] S μ ρ Rp :=
  MS_of [.int x1] (by decide +kernel) rfl rfl (Nat.le_of_ble_eq_true rfl) rfl (fun p e R s m args below meth c C => b_X12_numbersOf_0 C _ _ _ _ _ _ (h _ ))
def F_X12_numbersOf : FT := fun As S μ ρ k => match As with
  | [.int w] => k (some (.int (nOf w))) μ
  | _ => False
set_option maxHeartbeats 1000000 in
theorem f_X12_numbersOf {Z : Zt} {d : Nat} {As : List Value} {S : Sh} {μ : Mi} {ρ : Mr} {Rp : RT} (h : F_X12_numbersOf As S μ ρ (fun r μ' => Rp r S μ' ρ)) : MS Z (d + 1) jX12_numbersOf As S μ ρ Rp := by
  unfold F_X12_numbersOf at h
  split at h
  · rename_i w
    refine ms_X12_numbersOf _ (fun G => ?_)
    unfold nOf at h
    simp only [w_X12_numbersOf_0, w_X12_numbersOf_10, w_X12_numbersOf_12, w_X12_numbersOf_40, w_X12_numbersOf_44, w_X12_numbersOf_45, tAload, tIload, nth, tGetI, tGetR, tConst, tLconst, tBin, tUn, tI2l, tAld, tAldR, tAlen, tIast, tBast, tZast, tAast, tIret, tZret, tVret, tAret, tIf, tIf2, tGoto, tIstore, tAstore, sset, tIinc, tDup, tDup2, tPop, tPutI, tPutZ, tPutR, tCallV, tCallS, popN, tFn, tCopy, tMax, tMin, tSw, swc, tRem, tObjI, Option.toList, List.nil_append, List.cons_append, okR, true_and, and_true, true_or, or_true, Nat.zero_le, ne_eq, not_false_eq_true, Nat.reduceEqDiff, Decidable.not_not]
    refine ⟨fun c => ?_, fun c2 => ⟨fun c3 => ⟨fun c => ?_, fun c4 => ⟨fun c => ?_, fun c5 => ⟨fun c => ?_, fun c6 => ⟨fun c => ?_, fun c10 => ⟨fun c => ?_, fun c => ?_⟩⟩⟩⟩⟩, fun c => ?_⟩⟩
    · rw [if_pos (Or.inl c)] at h; exact h
    · rw [if_neg (fun z => z.elim c2 c3), if_pos (Or.inl c)] at h; exact h
    · rw [if_neg (fun z => z.elim c2 c3), if_pos (Or.inr (Or.inl c))] at h; exact h
    · rw [if_neg (fun z => z.elim c2 c3), if_pos (Or.inr (Or.inr (Or.inl c)))] at h; exact h
    · rw [if_neg (fun z => z.elim c2 c3), if_pos (Or.inr (Or.inr (Or.inr (Or.inl c))))] at h; exact h
    · rw [if_neg (fun z => z.elim c2 c3), if_neg (fun z => by rcases z with z | z | z | z | z; exact c4 z; exact c5 z; exact c6 z; exact c10 z; exact c z)] at h; exact h
    · rw [if_neg (fun z => z.elim c2 c3), if_pos (Or.inr (Or.inr (Or.inr (Or.inr c))))] at h; exact h
    · rw [if_pos (Or.inr c)] at h; exact h
  · exact h.elim
def aDo (A : Rw) (w : Int32) (t : Rw) : Int32 × Rw :=
  if w = 0 then aTimeout A (t 0) else if w = 1 then aBeat A (t 0) else if w = 2 then aPropose A (t 0) 1 (t 1) (t 2) else if w = 3 then aPropose A (t 0) 2 (t 1) (t 2) else if w = 4 then aRead A (t 0) (t 1) else if w = 5 then aHand A (t 0) (t 1) else if w = 6 then aChange A (t 0) (t 1) else if w = 7 then aCompact A (t 0) else if w = 8 then aStop A (t 0) else if w = 9 then aStart A (t 0) else if w = 10 then aLink A (t 0) (t 1) 0 else if w = 11 then aLink A (t 0) (t 1) 1 else if w = 12 then aCome A (t 0) else if w = 13 then aLose A (t 0) else if w = 14 then aTwice A (t 0) else if w = 15 then aSettle A (t 0) else aCareful A (t 0)
def w_X12_does__211 (M : CT) (G : Nat → PT) (Rp : RT) : PT := tAload 0 <| tIload 2 <| tFn 2 F_X12_actCareful <| tIret Rp
def w_X12_does__205 (M : CT) (G : Nat → PT) (Rp : RT) : PT := tAload 0 <| tIload 2 <| tFn 2 F_X12_actSettle <| tIret Rp
def w_X12_does__199 (M : CT) (G : Nat → PT) (Rp : RT) : PT := tAload 0 <| tIload 2 <| tFn 2 F_X12_actTwice <| tIret Rp
def w_X12_does__193 (M : CT) (G : Nat → PT) (Rp : RT) : PT := tAload 0 <| tIload 2 <| tFn 2 F_X12_actLose <| tIret Rp
def w_X12_does__187 (M : CT) (G : Nat → PT) (Rp : RT) : PT := tAload 0 <| tIload 2 <| tFn 2 F_X12_actCome <| tIret Rp
def w_X12_does__179 (M : CT) (G : Nat → PT) (Rp : RT) : PT := tAload 0 <| tIload 2 <| tIload 3 <| tConst 1 <| tFn 4 F_X12_actLink <| tIret Rp
def w_X12_does__171 (M : CT) (G : Nat → PT) (Rp : RT) : PT := tAload 0 <| tIload 2 <| tIload 3 <| tConst 0 <| tFn 4 F_X12_actLink <| tIret Rp
def w_X12_does__165 (M : CT) (G : Nat → PT) (Rp : RT) : PT := tAload 0 <| tIload 2 <| tFn 2 F_X12_actStart <| tIret Rp
def w_X12_does__159 (M : CT) (G : Nat → PT) (Rp : RT) : PT := tAload 0 <| tIload 2 <| tFn 2 F_X12_actStop <| tIret Rp
def w_X12_does__153 (M : CT) (G : Nat → PT) (Rp : RT) : PT := tAload 0 <| tIload 2 <| tFn 2 F_X12_actCompact <| tIret Rp
def w_X12_does__146 (M : CT) (G : Nat → PT) (Rp : RT) : PT := tAload 0 <| tIload 2 <| tIload 3 <| tFn 3 F_X12_actChange <| tIret Rp
def w_X12_does__139 (M : CT) (G : Nat → PT) (Rp : RT) : PT := tAload 0 <| tIload 2 <| tIload 3 <| tFn 3 F_X12_actHand <| tIret Rp
def w_X12_does__132 (M : CT) (G : Nat → PT) (Rp : RT) : PT := tAload 0 <| tIload 2 <| tIload 3 <| tFn 3 F_X12_actRead <| tIret Rp
def w_X12_does__118 (M : CT) (G : Nat → PT) (Rp : RT) : PT := tAload 0 <| tIload 2 <| tConst 2 <| tIload 3 <| tAload 0 <| tGetR 12 27 24 <| tConst 2 <| tAld 20 <| tFn 5 F_X12_actPropose <| tIret Rp
def w_X12_does__104 (M : CT) (G : Nat → PT) (Rp : RT) : PT := tAload 0 <| tIload 2 <| tConst 1 <| tIload 3 <| tAload 0 <| tGetR 12 27 24 <| tConst 2 <| tAld 20 <| tFn 5 F_X12_actPropose <| tIret Rp
def w_X12_does__98 (M : CT) (G : Nat → PT) (Rp : RT) : PT := tAload 0 <| tIload 2 <| tFn 2 F_X12_actBeat <| tIret Rp
def w_X12_does__92 (M : CT) (G : Nat → PT) (Rp : RT) : PT := tAload 0 <| tIload 2 <| tFn 2 F_X12_actTimeout <| tIret Rp
def w_X12_does__0 (M : CT) (G : Nat → PT) (Rp : RT) : PT := tAload 0 <| tGetR 12 27 24 <| tConst 0 <| tAld 20 <| tIstore 2 <| tAload 0 <| tGetR 12 27 24 <| tConst 1 <| tAld 20 <| tIstore 3 <| tIload 1 <| tSw [(0, w_X12_does__92 M G Rp), (1, w_X12_does__98 M G Rp), (2, w_X12_does__104 M G Rp), (3, w_X12_does__118 M G Rp), (4, w_X12_does__132 M G Rp), (5, w_X12_does__139 M G Rp), (6, w_X12_does__146 M G Rp), (7, w_X12_does__153 M G Rp), (8, w_X12_does__159 M G Rp), (9, w_X12_does__165 M G Rp), (10, w_X12_does__171 M G Rp), (11, w_X12_does__179 M G Rp), (12, w_X12_does__187 M G Rp), (13, w_X12_does__193 M G Rp), (14, w_X12_does__199 M G Rp), (15, w_X12_does__205 M G Rp)] (w_X12_does__211 M G Rp)
set_option maxRecDepth 20000 in
theorem b_X12_does__211 {Z : Zt} {d : Nat} {p : Program} {e : Env} {R : Room} {s : State} {m : MethodId} {args : Array Value} {below : List Frame} {meth : Method} {c : Code} {Rp : RT} (C : Cx Z (d + 13) jX12_does_ RX12 p R s m args meth c) : Sd Z jX12_does_ p e R s m args below meth c (MQ below (QcS Z Rp) args s 0 0 (fun a => Z.2.2.1 < a)) 211 (w_X12_does__211 (MS Z (d + 13)) (Gw Z 4 p e R s m args below meth c (MQ below (QcS Z Rp) args s 0 0 (fun a => Z.2.2.1 < a))) Rp) := by
  unfold w_X12_does__211
  refine s_aload_n (k := 0) C (by decide +kernel) ?_
  refine s_iload_n (k := 2) C (by decide +kernel) ?_
  refine s_fnV C (j2 := jX12_actCareful) (cl := 12) (nf := 27) rfl rfl (by decide +kernel) rfl w_6_196 w_6_198 w_p3_7 w_1_13 w_6_199 (by decide +kernel) (fun _ _ _ _ _ h => f_X12_actCareful h) (fun _ _ _ _ _ h => r_X12_actCareful h) ?_
  exact s_iret C rfl (by decide +kernel)
set_option maxRecDepth 20000 in
theorem b_X12_does__205 {Z : Zt} {d : Nat} {p : Program} {e : Env} {R : Room} {s : State} {m : MethodId} {args : Array Value} {below : List Frame} {meth : Method} {c : Code} {Rp : RT} (C : Cx Z (d + 13) jX12_does_ RX12 p R s m args meth c) : Sd Z jX12_does_ p e R s m args below meth c (MQ below (QcS Z Rp) args s 0 0 (fun a => Z.2.2.1 < a)) 205 (w_X12_does__205 (MS Z (d + 13)) (Gw Z 4 p e R s m args below meth c (MQ below (QcS Z Rp) args s 0 0 (fun a => Z.2.2.1 < a))) Rp) := by
  unfold w_X12_does__205
  refine s_aload_n (k := 0) C (by decide +kernel) ?_
  refine s_iload_n (k := 2) C (by decide +kernel) ?_
  refine s_fnV C (j2 := jX12_actSettle) (cl := 12) (nf := 27) rfl rfl (by decide +kernel) rfl w_8_16 w_8_18 w_p6_15 w_1_13 w_8_19 (by decide +kernel) (fun _ _ _ _ _ h => f_X12_actSettle h) (fun _ _ _ _ _ h => r_X12_actSettle h) ?_
  exact s_iret C rfl (by decide +kernel)
set_option maxRecDepth 20000 in
theorem b_X12_does__199 {Z : Zt} {d : Nat} {p : Program} {e : Env} {R : Room} {s : State} {m : MethodId} {args : Array Value} {below : List Frame} {meth : Method} {c : Code} {Rp : RT} (C : Cx Z (d + 13) jX12_does_ RX12 p R s m args meth c) : Sd Z jX12_does_ p e R s m args below meth c (MQ below (QcS Z Rp) args s 0 0 (fun a => Z.2.2.1 < a)) 199 (w_X12_does__199 (MS Z (d + 13)) (Gw Z 4 p e R s m args below meth c (MQ below (QcS Z Rp) args s 0 0 (fun a => Z.2.2.1 < a))) Rp) := by
  unfold w_X12_does__199
  refine s_aload_n (k := 0) C (by decide +kernel) ?_
  refine s_iload_n (k := 2) C (by decide +kernel) ?_
  refine s_fnV C (j2 := jX12_actTwice) (cl := 12) (nf := 27) rfl rfl (by decide +kernel) rfl w_8_8 w_8_10 w_p6_14 w_1_13 w_8_11 (by decide +kernel) (fun _ _ _ _ _ h => f_X12_actTwice h) (fun _ _ _ _ _ h => r_X12_actTwice h) ?_
  exact s_iret C rfl (by decide +kernel)
set_option maxRecDepth 20000 in
theorem b_X12_does__193 {Z : Zt} {d : Nat} {p : Program} {e : Env} {R : Room} {s : State} {m : MethodId} {args : Array Value} {below : List Frame} {meth : Method} {c : Code} {Rp : RT} (C : Cx Z (d + 13) jX12_does_ RX12 p R s m args meth c) : Sd Z jX12_does_ p e R s m args below meth c (MQ below (QcS Z Rp) args s 0 0 (fun a => Z.2.2.1 < a)) 193 (w_X12_does__193 (MS Z (d + 13)) (Gw Z 4 p e R s m args below meth c (MQ below (QcS Z Rp) args s 0 0 (fun a => Z.2.2.1 < a))) Rp) := by
  unfold w_X12_does__193
  refine s_aload_n (k := 0) C (by decide +kernel) ?_
  refine s_iload_n (k := 2) C (by decide +kernel) ?_
  refine s_fnV C (j2 := jX12_actLose) (cl := 12) (nf := 27) rfl rfl (by decide +kernel) rfl w_8_0 w_8_2 w_p6_13 w_1_13 w_8_3 (by decide +kernel) (fun _ _ _ _ _ h => f_X12_actLose h) (fun _ _ _ _ _ h => r_X12_actLose h) ?_
  exact s_iret C rfl (by decide +kernel)
set_option maxRecDepth 20000 in
theorem b_X12_does__187 {Z : Zt} {d : Nat} {p : Program} {e : Env} {R : Room} {s : State} {m : MethodId} {args : Array Value} {below : List Frame} {meth : Method} {c : Code} {Rp : RT} (C : Cx Z (d + 13) jX12_does_ RX12 p R s m args meth c) : Sd Z jX12_does_ p e R s m args below meth c (MQ below (QcS Z Rp) args s 0 0 (fun a => Z.2.2.1 < a)) 187 (w_X12_does__187 (MS Z (d + 13)) (Gw Z 4 p e R s m args below meth c (MQ below (QcS Z Rp) args s 0 0 (fun a => Z.2.2.1 < a))) Rp) := by
  unfold w_X12_does__187
  refine s_aload_n (k := 0) C (by decide +kernel) ?_
  refine s_iload_n (k := 2) C (by decide +kernel) ?_
  refine s_fnV C (j2 := jX12_actCome) (cl := 12) (nf := 27) rfl rfl (by decide +kernel) rfl w_7_164 w_7_166 w_p5_11 w_1_13 w_7_167 (by decide +kernel) (fun _ _ _ _ _ h => f_X12_actCome h) (fun _ _ _ _ _ h => r_X12_actCome h) ?_
  exact s_iret C rfl (by decide +kernel)
set_option maxRecDepth 20000 in
theorem b_X12_does__179 {Z : Zt} {d : Nat} {p : Program} {e : Env} {R : Room} {s : State} {m : MethodId} {args : Array Value} {below : List Frame} {meth : Method} {c : Code} {Rp : RT} (C : Cx Z (d + 13) jX12_does_ RX12 p R s m args meth c) : Sd Z jX12_does_ p e R s m args below meth c (MQ below (QcS Z Rp) args s 0 0 (fun a => Z.2.2.1 < a)) 179 (w_X12_does__179 (MS Z (d + 13)) (Gw Z 4 p e R s m args below meth c (MQ below (QcS Z Rp) args s 0 0 (fun a => Z.2.2.1 < a))) Rp) := by
  unfold w_X12_does__179
  refine s_aload_n (k := 0) C (by decide +kernel) ?_
  refine s_iload_n (k := 2) C (by decide +kernel) ?_
  refine s_iload_n (k := 3) C (by decide +kernel) ?_
  refine s_iconst (n := 1) C (by decide +kernel) (by decide) ?_
  refine s_fnV C (j2 := jX12_actLink) (cl := 12) (nf := 27) rfl rfl (by decide +kernel) rfl w_7_156 w_7_158 w_p5_10 w_1_13 w_7_159 (by decide +kernel) (fun _ _ _ _ _ h => f_X12_actLink h) (fun _ _ _ _ _ h => r_X12_actLink h) ?_
  exact s_iret C rfl (by decide +kernel)
set_option maxRecDepth 20000 in
theorem b_X12_does__171 {Z : Zt} {d : Nat} {p : Program} {e : Env} {R : Room} {s : State} {m : MethodId} {args : Array Value} {below : List Frame} {meth : Method} {c : Code} {Rp : RT} (C : Cx Z (d + 13) jX12_does_ RX12 p R s m args meth c) : Sd Z jX12_does_ p e R s m args below meth c (MQ below (QcS Z Rp) args s 0 0 (fun a => Z.2.2.1 < a)) 171 (w_X12_does__171 (MS Z (d + 13)) (Gw Z 4 p e R s m args below meth c (MQ below (QcS Z Rp) args s 0 0 (fun a => Z.2.2.1 < a))) Rp) := by
  unfold w_X12_does__171
  refine s_aload_n (k := 0) C (by decide +kernel) ?_
  refine s_iload_n (k := 2) C (by decide +kernel) ?_
  refine s_iload_n (k := 3) C (by decide +kernel) ?_
  refine s_iconst (n := 0) C (by decide +kernel) (by decide) ?_
  refine s_fnV C (j2 := jX12_actLink) (cl := 12) (nf := 27) rfl rfl (by decide +kernel) rfl w_7_156 w_7_158 w_p5_10 w_1_13 w_7_159 (by decide +kernel) (fun _ _ _ _ _ h => f_X12_actLink h) (fun _ _ _ _ _ h => r_X12_actLink h) ?_
  exact s_iret C rfl (by decide +kernel)
set_option maxRecDepth 20000 in
theorem b_X12_does__165 {Z : Zt} {d : Nat} {p : Program} {e : Env} {R : Room} {s : State} {m : MethodId} {args : Array Value} {below : List Frame} {meth : Method} {c : Code} {Rp : RT} (C : Cx Z (d + 13) jX12_does_ RX12 p R s m args meth c) : Sd Z jX12_does_ p e R s m args below meth c (MQ below (QcS Z Rp) args s 0 0 (fun a => Z.2.2.1 < a)) 165 (w_X12_does__165 (MS Z (d + 13)) (Gw Z 4 p e R s m args below meth c (MQ below (QcS Z Rp) args s 0 0 (fun a => Z.2.2.1 < a))) Rp) := by
  unfold w_X12_does__165
  refine s_aload_n (k := 0) C (by decide +kernel) ?_
  refine s_iload_n (k := 2) C (by decide +kernel) ?_
  refine s_fnV C (j2 := jX12_actStart) (cl := 12) (nf := 27) rfl rfl (by decide +kernel) rfl w_7_148 w_7_150 w_p5_9 w_1_13 w_7_151 (by decide +kernel) (fun _ _ _ _ _ h => f_X12_actStart h) (fun _ _ _ _ _ h => r_X12_actStart h) ?_
  exact s_iret C rfl (by decide +kernel)
set_option maxRecDepth 20000 in
theorem b_X12_does__159 {Z : Zt} {d : Nat} {p : Program} {e : Env} {R : Room} {s : State} {m : MethodId} {args : Array Value} {below : List Frame} {meth : Method} {c : Code} {Rp : RT} (C : Cx Z (d + 13) jX12_does_ RX12 p R s m args meth c) : Sd Z jX12_does_ p e R s m args below meth c (MQ below (QcS Z Rp) args s 0 0 (fun a => Z.2.2.1 < a)) 159 (w_X12_does__159 (MS Z (d + 13)) (Gw Z 4 p e R s m args below meth c (MQ below (QcS Z Rp) args s 0 0 (fun a => Z.2.2.1 < a))) Rp) := by
  unfold w_X12_does__159
  refine s_aload_n (k := 0) C (by decide +kernel) ?_
  refine s_iload_n (k := 2) C (by decide +kernel) ?_
  refine s_fnV C (j2 := jX12_actStop) (cl := 12) (nf := 27) rfl rfl (by decide +kernel) rfl w_7_140 w_7_142 w_p5_8 w_1_13 w_7_143 (by decide +kernel) (fun _ _ _ _ _ h => f_X12_actStop h) (fun _ _ _ _ _ h => r_X12_actStop h) ?_
  exact s_iret C rfl (by decide +kernel)
set_option maxRecDepth 20000 in
theorem b_X12_does__153 {Z : Zt} {d : Nat} {p : Program} {e : Env} {R : Room} {s : State} {m : MethodId} {args : Array Value} {below : List Frame} {meth : Method} {c : Code} {Rp : RT} (C : Cx Z (d + 13) jX12_does_ RX12 p R s m args meth c) : Sd Z jX12_does_ p e R s m args below meth c (MQ below (QcS Z Rp) args s 0 0 (fun a => Z.2.2.1 < a)) 153 (w_X12_does__153 (MS Z (d + 13)) (Gw Z 4 p e R s m args below meth c (MQ below (QcS Z Rp) args s 0 0 (fun a => Z.2.2.1 < a))) Rp) := by
  unfold w_X12_does__153
  refine s_aload_n (k := 0) C (by decide +kernel) ?_
  refine s_iload_n (k := 2) C (by decide +kernel) ?_
  refine s_fnV C (j2 := jX12_actCompact) (cl := 12) (nf := 27) rfl rfl (by decide +kernel) rfl w_7_132 w_7_134 w_p5_7 w_1_13 w_7_135 (by decide +kernel) (fun _ _ _ _ _ h => f_X12_actCompact h) (fun _ _ _ _ _ h => r_X12_actCompact h) ?_
  exact s_iret C rfl (by decide +kernel)
set_option maxRecDepth 20000 in
theorem b_X12_does__146 {Z : Zt} {d : Nat} {p : Program} {e : Env} {R : Room} {s : State} {m : MethodId} {args : Array Value} {below : List Frame} {meth : Method} {c : Code} {Rp : RT} (C : Cx Z (d + 13) jX12_does_ RX12 p R s m args meth c) : Sd Z jX12_does_ p e R s m args below meth c (MQ below (QcS Z Rp) args s 0 0 (fun a => Z.2.2.1 < a)) 146 (w_X12_does__146 (MS Z (d + 13)) (Gw Z 4 p e R s m args below meth c (MQ below (QcS Z Rp) args s 0 0 (fun a => Z.2.2.1 < a))) Rp) := by
  unfold w_X12_does__146
  refine s_aload_n (k := 0) C (by decide +kernel) ?_
  refine s_iload_n (k := 2) C (by decide +kernel) ?_
  refine s_iload_n (k := 3) C (by decide +kernel) ?_
  refine s_fnV C (j2 := jX12_actChange) (cl := 12) (nf := 27) rfl rfl (by decide +kernel) rfl w_7_124 w_7_126 w_p5_6 w_1_13 w_7_127 (by decide +kernel) (fun _ _ _ _ _ h => f_X12_actChange h) (fun _ _ _ _ _ h => r_X12_actChange h) ?_
  exact s_iret C rfl (by decide +kernel)
set_option maxRecDepth 20000 in
theorem b_X12_does__139 {Z : Zt} {d : Nat} {p : Program} {e : Env} {R : Room} {s : State} {m : MethodId} {args : Array Value} {below : List Frame} {meth : Method} {c : Code} {Rp : RT} (C : Cx Z (d + 13) jX12_does_ RX12 p R s m args meth c) : Sd Z jX12_does_ p e R s m args below meth c (MQ below (QcS Z Rp) args s 0 0 (fun a => Z.2.2.1 < a)) 139 (w_X12_does__139 (MS Z (d + 13)) (Gw Z 4 p e R s m args below meth c (MQ below (QcS Z Rp) args s 0 0 (fun a => Z.2.2.1 < a))) Rp) := by
  unfold w_X12_does__139
  refine s_aload_n (k := 0) C (by decide +kernel) ?_
  refine s_iload_n (k := 2) C (by decide +kernel) ?_
  refine s_iload_n (k := 3) C (by decide +kernel) ?_
  refine s_fnV C (j2 := jX12_actHand) (cl := 12) (nf := 27) rfl rfl (by decide +kernel) rfl w_7_116 w_7_118 w_p5_5 w_1_13 w_7_119 (by decide +kernel) (fun _ _ _ _ _ h => f_X12_actHand h) (fun _ _ _ _ _ h => r_X12_actHand h) ?_
  exact s_iret C rfl (by decide +kernel)
set_option maxRecDepth 20000 in
theorem b_X12_does__132 {Z : Zt} {d : Nat} {p : Program} {e : Env} {R : Room} {s : State} {m : MethodId} {args : Array Value} {below : List Frame} {meth : Method} {c : Code} {Rp : RT} (C : Cx Z (d + 13) jX12_does_ RX12 p R s m args meth c) : Sd Z jX12_does_ p e R s m args below meth c (MQ below (QcS Z Rp) args s 0 0 (fun a => Z.2.2.1 < a)) 132 (w_X12_does__132 (MS Z (d + 13)) (Gw Z 4 p e R s m args below meth c (MQ below (QcS Z Rp) args s 0 0 (fun a => Z.2.2.1 < a))) Rp) := by
  unfold w_X12_does__132
  refine s_aload_n (k := 0) C (by decide +kernel) ?_
  refine s_iload_n (k := 2) C (by decide +kernel) ?_
  refine s_iload_n (k := 3) C (by decide +kernel) ?_
  refine s_fnV C (j2 := jX12_actRead) (cl := 12) (nf := 27) rfl rfl (by decide +kernel) rfl w_7_104 w_7_106 w_p5_3 w_1_13 w_7_107 (by decide +kernel) (fun _ _ _ _ _ h => f_X12_actRead h) (fun _ _ _ _ _ h => r_X12_actRead h) ?_
  exact s_iret C rfl (by decide +kernel)
set_option maxRecDepth 20000 in
theorem b_X12_does__118 {Z : Zt} {d : Nat} {p : Program} {e : Env} {R : Room} {s : State} {m : MethodId} {args : Array Value} {below : List Frame} {meth : Method} {c : Code} {Rp : RT} (C : Cx Z (d + 13) jX12_does_ RX12 p R s m args meth c) : Sd Z jX12_does_ p e R s m args below meth c (MQ below (QcS Z Rp) args s 0 0 (fun a => Z.2.2.1 < a)) 118 (w_X12_does__118 (MS Z (d + 13)) (Gw Z 4 p e R s m args below meth c (MQ below (QcS Z Rp) args s 0 0 (fun a => Z.2.2.1 < a))) Rp) := by
  unfold w_X12_does__118
  refine s_aload_n (k := 0) C (by decide +kernel) ?_
  refine s_iload_n (k := 2) C (by decide +kernel) ?_
  refine s_iconst (n := 2) C (by decide +kernel) (by decide) ?_
  refine s_iload_n (k := 3) C (by decide +kernel) ?_
  refine s_aload_n (k := 0) C (by decide +kernel) ?_
  refine s_getR C w_6_111 (by decide +kernel) rfl ?_
  refine s_iconst (n := 2) C (by decide +kernel) (by decide) ?_
  refine s_iald C (by decide +kernel) ?_
  refine s_fnV C (j2 := jX12_actPropose) (cl := 12) (nf := 27) rfl rfl (by decide +kernel) rfl w_7_85 w_7_87 w_p5_1 w_1_13 w_7_88 (by decide +kernel) (fun _ _ _ _ _ h => f_X12_actPropose h) (fun _ _ _ _ _ h => r_X12_actPropose h) ?_
  exact s_iret C rfl (by decide +kernel)
set_option maxRecDepth 20000 in
theorem b_X12_does__104 {Z : Zt} {d : Nat} {p : Program} {e : Env} {R : Room} {s : State} {m : MethodId} {args : Array Value} {below : List Frame} {meth : Method} {c : Code} {Rp : RT} (C : Cx Z (d + 13) jX12_does_ RX12 p R s m args meth c) : Sd Z jX12_does_ p e R s m args below meth c (MQ below (QcS Z Rp) args s 0 0 (fun a => Z.2.2.1 < a)) 104 (w_X12_does__104 (MS Z (d + 13)) (Gw Z 4 p e R s m args below meth c (MQ below (QcS Z Rp) args s 0 0 (fun a => Z.2.2.1 < a))) Rp) := by
  unfold w_X12_does__104
  refine s_aload_n (k := 0) C (by decide +kernel) ?_
  refine s_iload_n (k := 2) C (by decide +kernel) ?_
  refine s_iconst (n := 1) C (by decide +kernel) (by decide) ?_
  refine s_iload_n (k := 3) C (by decide +kernel) ?_
  refine s_aload_n (k := 0) C (by decide +kernel) ?_
  refine s_getR C w_6_111 (by decide +kernel) rfl ?_
  refine s_iconst (n := 2) C (by decide +kernel) (by decide) ?_
  refine s_iald C (by decide +kernel) ?_
  refine s_fnV C (j2 := jX12_actPropose) (cl := 12) (nf := 27) rfl rfl (by decide +kernel) rfl w_7_85 w_7_87 w_p5_1 w_1_13 w_7_88 (by decide +kernel) (fun _ _ _ _ _ h => f_X12_actPropose h) (fun _ _ _ _ _ h => r_X12_actPropose h) ?_
  exact s_iret C rfl (by decide +kernel)
set_option maxRecDepth 20000 in
theorem b_X12_does__98 {Z : Zt} {d : Nat} {p : Program} {e : Env} {R : Room} {s : State} {m : MethodId} {args : Array Value} {below : List Frame} {meth : Method} {c : Code} {Rp : RT} (C : Cx Z (d + 13) jX12_does_ RX12 p R s m args meth c) : Sd Z jX12_does_ p e R s m args below meth c (MQ below (QcS Z Rp) args s 0 0 (fun a => Z.2.2.1 < a)) 98 (w_X12_does__98 (MS Z (d + 13)) (Gw Z 4 p e R s m args below meth c (MQ below (QcS Z Rp) args s 0 0 (fun a => Z.2.2.1 < a))) Rp) := by
  unfold w_X12_does__98
  refine s_aload_n (k := 0) C (by decide +kernel) ?_
  refine s_iload_n (k := 2) C (by decide +kernel) ?_
  refine s_fnV C (j2 := jX12_actBeat) (cl := 12) (nf := 27) rfl rfl (by decide +kernel) rfl w_7_77 w_7_79 w_p5_0 w_1_13 w_7_80 (by decide +kernel) (fun _ _ _ _ _ h => f_X12_actBeat h) (fun _ _ _ _ _ h => r_X12_actBeat h) ?_
  exact s_iret C rfl (by decide +kernel)
set_option maxRecDepth 20000 in
theorem b_X12_does__92 {Z : Zt} {d : Nat} {p : Program} {e : Env} {R : Room} {s : State} {m : MethodId} {args : Array Value} {below : List Frame} {meth : Method} {c : Code} {Rp : RT} (C : Cx Z (d + 13) jX12_does_ RX12 p R s m args meth c) : Sd Z jX12_does_ p e R s m args below meth c (MQ below (QcS Z Rp) args s 0 0 (fun a => Z.2.2.1 < a)) 92 (w_X12_does__92 (MS Z (d + 13)) (Gw Z 4 p e R s m args below meth c (MQ below (QcS Z Rp) args s 0 0 (fun a => Z.2.2.1 < a))) Rp) := by
  unfold w_X12_does__92
  refine s_aload_n (k := 0) C (by decide +kernel) ?_
  refine s_iload_n (k := 2) C (by decide +kernel) ?_
  refine s_fnV C (j2 := jX12_actTimeout) (cl := 12) (nf := 27) rfl rfl (by decide +kernel) rfl w_6_204 w_6_206 w_p3_8 w_1_13 w_6_207 (by decide +kernel) (fun _ _ _ _ _ h => f_X12_actTimeout h) (fun _ _ _ _ _ h => r_X12_actTimeout h) ?_
  exact s_iret C rfl (by decide +kernel)
set_option maxRecDepth 20000 in
theorem b_X12_does__0 {Z : Zt} {d : Nat} {p : Program} {e : Env} {R : Room} {s : State} {m : MethodId} {args : Array Value} {below : List Frame} {meth : Method} {c : Code} {Rp : RT} (C : Cx Z (d + 13) jX12_does_ RX12 p R s m args meth c) : Sd Z jX12_does_ p e R s m args below meth c (MQ below (QcS Z Rp) args s 0 0 (fun a => Z.2.2.1 < a)) 0 (w_X12_does__0 (MS Z (d + 13)) (Gw Z 4 p e R s m args below meth c (MQ below (QcS Z Rp) args s 0 0 (fun a => Z.2.2.1 < a))) Rp) := by
  unfold w_X12_does__0
  refine s_aload_n (k := 0) C (by decide +kernel) ?_
  refine s_getR C w_6_111 (by decide +kernel) rfl ?_
  refine s_iconst (n := 0) C (by decide +kernel) (by decide) ?_
  refine s_iald C (by decide +kernel) ?_
  refine s_istore_n (k := 2) C (by decide +kernel) ?_
  refine s_aload_n (k := 0) C (by decide +kernel) ?_
  refine s_getR C w_6_111 (by decide +kernel) rfl ?_
  refine s_iconst (n := 1) C (by decide +kernel) (by decide) ?_
  refine s_iald C (by decide +kernel) ?_
  refine s_istore_n (k := 3) C (by decide +kernel) ?_
  refine s_iload_n (k := 1) C (by decide +kernel) ?_
  refine s_tsw (df := 196) (lo := 0) (hi := 15) (offs := #[77, 83, 89, 103, 117, 124, 131, 138, 144, 150, 156, 164, 172, 178, 184, 190]) (len := 77) (tgt := 211) C (by decide +kernel) (by decide) (b_X12_does__211 C) (fun i r h => ?_) (fun x h => tsw_out 16 x (fun q hq => ?_))
  · match i, h with
    | 0, h => cases h; dsimp only; exact ⟨by decide, by decide, 77, 92, by rfl, by decide, (b_X12_does__92 C)⟩
    | 1, h => cases h; dsimp only; exact ⟨by decide, by decide, 83, 98, by rfl, by decide, (b_X12_does__98 C)⟩
    | 2, h => cases h; dsimp only; exact ⟨by decide, by decide, 89, 104, by rfl, by decide, (b_X12_does__104 C)⟩
    | 3, h => cases h; dsimp only; exact ⟨by decide, by decide, 103, 118, by rfl, by decide, (b_X12_does__118 C)⟩
    | 4, h => cases h; dsimp only; exact ⟨by decide, by decide, 117, 132, by rfl, by decide, (b_X12_does__132 C)⟩
    | 5, h => cases h; dsimp only; exact ⟨by decide, by decide, 124, 139, by rfl, by decide, (b_X12_does__139 C)⟩
    | 6, h => cases h; dsimp only; exact ⟨by decide, by decide, 131, 146, by rfl, by decide, (b_X12_does__146 C)⟩
    | 7, h => cases h; dsimp only; exact ⟨by decide, by decide, 138, 153, by rfl, by decide, (b_X12_does__153 C)⟩
    | 8, h => cases h; dsimp only; exact ⟨by decide, by decide, 144, 159, by rfl, by decide, (b_X12_does__159 C)⟩
    | 9, h => cases h; dsimp only; exact ⟨by decide, by decide, 150, 165, by rfl, by decide, (b_X12_does__165 C)⟩
    | 10, h => cases h; dsimp only; exact ⟨by decide, by decide, 156, 171, by rfl, by decide, (b_X12_does__171 C)⟩
    | 11, h => cases h; dsimp only; exact ⟨by decide, by decide, 164, 179, by rfl, by decide, (b_X12_does__179 C)⟩
    | 12, h => cases h; dsimp only; exact ⟨by decide, by decide, 172, 187, by rfl, by decide, (b_X12_does__187 C)⟩
    | 13, h => cases h; dsimp only; exact ⟨by decide, by decide, 178, 193, by rfl, by decide, (b_X12_does__193 C)⟩
    | 14, h => cases h; dsimp only; exact ⟨by decide, by decide, 184, 199, by rfl, by decide, (b_X12_does__199 C)⟩
    | 15, h => cases h; dsimp only; exact ⟨by decide, by decide, 190, 205, by rfl, by decide, (b_X12_does__205 C)⟩
    | q + 16, h => simp at h
  · match q, hq with
    | 0, _ => exact h _ (List.mem_of_getElem? (i := 0) rfl)
    | 1, _ => exact h _ (List.mem_of_getElem? (i := 1) rfl)
    | 2, _ => exact h _ (List.mem_of_getElem? (i := 2) rfl)
    | 3, _ => exact h _ (List.mem_of_getElem? (i := 3) rfl)
    | 4, _ => exact h _ (List.mem_of_getElem? (i := 4) rfl)
    | 5, _ => exact h _ (List.mem_of_getElem? (i := 5) rfl)
    | 6, _ => exact h _ (List.mem_of_getElem? (i := 6) rfl)
    | 7, _ => exact h _ (List.mem_of_getElem? (i := 7) rfl)
    | 8, _ => exact h _ (List.mem_of_getElem? (i := 8) rfl)
    | 9, _ => exact h _ (List.mem_of_getElem? (i := 9) rfl)
    | 10, _ => exact h _ (List.mem_of_getElem? (i := 10) rfl)
    | 11, _ => exact h _ (List.mem_of_getElem? (i := 11) rfl)
    | 12, _ => exact h _ (List.mem_of_getElem? (i := 12) rfl)
    | 13, _ => exact h _ (List.mem_of_getElem? (i := 13) rfl)
    | 14, _ => exact h _ (List.mem_of_getElem? (i := 14) rfl)
    | 15, _ => exact h _ (List.mem_of_getElem? (i := 15) rfl)
    | q + 16, hq => exact absurd hq (by omega)
theorem ms_X12_does_ {Z : Zt} {d : Nat} {S : Sh} {μ : Mi} {ρ : Mr} {Rp : RT} (a0 : Nat) (x1 : Int32) (h : ∀ G : Nat → PT, w_X12_does__0 (MS Z (d + 13)) G Rp [.ref a0, .int x1, .null, .null] [] S (0, 0) μ ρ) : MS Z (d + 14) jX12_does_ [.ref a0, .int x1] S μ ρ Rp :=
  MS_of [.ref a0, .int x1, .null, .null] (by decide +kernel) rfl rfl (Nat.le_of_ble_eq_true rfl) rfl (fun p e R s m args below meth c C => b_X12_does__0 C _ _ _ _ _ _ (h _ ))
def F_X12_does_ : FT := fun As S μ ρ k => match As with
  | [.ref a, .int w] => a = 2737 ∧ RS S ρ ∧ good (μ 2738) ∧ ∀ (t : T4) (g : Rw), k (some (.int (aDo (μ 2738) w (μ 2747)).1)) (M4 μ g t (aDo (μ 2738) w (μ 2747)).2)
  | _ => False
theorem r_X12_does_ {As S μ ρ k} (h : F_X12_does_ As S μ ρ k) : ∃ a As', As = Value.ref a :: As' ∧ S.2 a = (12, 27) := by
  unfold F_X12_does_ at h
  split at h
  · exact ⟨_, _, rfl, by rw [h.1]; exact h.2.1.1⟩
  · exact h.elim
set_option maxHeartbeats 1000000 in
theorem f_X12_does_ {Z : Zt} {d : Nat} {As : List Value} {S : Sh} {μ : Mi} {ρ : Mr} {Rp : RT} (h : F_X12_does_ As S μ ρ (fun r μ' => Rp r S μ' ρ)) : MS Z (d + 14) jX12_does_ As S μ ρ Rp := by
  unfold F_X12_does_ at h
  split at h
  · rename_i a w
    obtain ⟨rfl, hS, h⟩ := h
    have hS0 := hS
    unfold RS at hS
    obtain ⟨hg, h⟩ := h
    have j0 : inb 0 3 := inb_nI (k := 0) (by decide) (by decide)
    have j1 : inb 1 3 := inb_nI (k := 1) (by decide) (by decide)
    have j2 : inb 2 3 := inb_nI (k := 2) (by decide) (by decide)
    unfold aDo at h
    refine ms_X12_does_ _ _ (fun G => ?_)
    simp only [w_X12_does__0, w_X12_does__92, w_X12_does__98, w_X12_does__104, w_X12_does__118, w_X12_does__132, w_X12_does__139, w_X12_does__146, w_X12_does__153, w_X12_does__159, w_X12_does__165, w_X12_does__171, w_X12_does__179, w_X12_does__187, w_X12_does__193, w_X12_does__199, w_X12_does__205, w_X12_does__211, tAload, tIload, nth, tGetI, tGetR, tConst, tLconst, tBin, tUn, tI2l, tAld, tAldR, tAlen, tIast, tBast, tZast, tAast, tIret, tZret, tVret, tAret, tIf, tIf2, tGoto, tIstore, tAstore, sset, tIinc, tDup, tDup2, tPop, tPutI, tPutZ, tPutR, tCallV, tCallS, popN, tFn, tCopy, tMax, tMin, tSw, swc, tRem, tObjI, Option.toList, List.nil_append, List.cons_append, okR, true_and, and_true, true_or, or_true, Nat.zero_le, ne_eq, not_false_eq_true, Nat.reduceEqDiff, F_X12_actTimeout, F_X12_actBeat, F_X12_actPropose, F_X12_actRead, F_X12_actHand, F_X12_actChange, F_X12_actCompact, F_X12_actStop, F_X12_actStart, F_X12_actLink, F_X12_actCome, F_X12_actLose, F_X12_actTwice, F_X12_actSettle, F_X12_actCareful, hS0, hS, j0, j1, j2, cl_0, cl_1, cl_2]
    refine ⟨fun c0 => ⟨hg, fun t g => ?_⟩, fun n0 => ⟨fun c1 => ⟨hg, fun t g => ?_⟩, fun n1 => ⟨fun c2 => ⟨hg, fun t g => ?_⟩, fun n2 => ⟨fun c3 => ⟨hg, fun t g => ?_⟩, fun n3 => ⟨fun c4 => ⟨hg, fun t g => ?_⟩, fun n4 => ⟨fun c5 => ⟨hg, fun t g => ?_⟩, fun n5 => ⟨fun c6 => ⟨hg, fun t g => ?_⟩, fun n6 => ⟨fun c7 => ⟨hg, fun t g => ?_⟩, fun n7 => ⟨fun c8 => ⟨hg, fun t g => ?_⟩, fun n8 => ⟨fun c9 => ⟨hg, fun t g => ?_⟩, fun n9 => ⟨fun c10 => ⟨hg, fun t g => ?_⟩, fun n10 => ⟨fun c11 => ⟨hg, fun t g => ?_⟩, fun n11 => ⟨fun c12 => ⟨hg, fun t g => ?_⟩, fun n12 => ⟨fun c13 => ⟨hg, fun t g => ?_⟩, fun n13 => ⟨fun c14 => ⟨hg, fun t g => ?_⟩, fun n14 => ⟨fun c15 => ⟨hg, fun t g => ?_⟩, fun n15 => ⟨hg, fun t g => ?_⟩⟩⟩⟩⟩⟩⟩⟩⟩⟩⟩⟩⟩⟩⟩⟩⟩
    · have := h t g
      rw [if_pos c0] at this; exact this
    · have := h t g
      rw [if_neg n0, if_pos c1] at this; exact this
    · have := h t g
      rw [if_neg n0, if_neg n1, if_pos c2] at this; exact this
    · have := h t g
      rw [if_neg n0, if_neg n1, if_neg n2, if_pos c3] at this; exact this
    · have := h t g
      rw [if_neg n0, if_neg n1, if_neg n2, if_neg n3, if_pos c4] at this; exact this
    · have := h t g
      rw [if_neg n0, if_neg n1, if_neg n2, if_neg n3, if_neg n4, if_pos c5] at this; exact this
    · have := h t g
      rw [if_neg n0, if_neg n1, if_neg n2, if_neg n3, if_neg n4, if_neg n5, if_pos c6] at this; exact this
    · have := h t g
      rw [if_neg n0, if_neg n1, if_neg n2, if_neg n3, if_neg n4, if_neg n5, if_neg n6, if_pos c7] at this; exact this
    · have := h t g
      rw [if_neg n0, if_neg n1, if_neg n2, if_neg n3, if_neg n4, if_neg n5, if_neg n6, if_neg n7, if_pos c8] at this; exact this
    · have := h t g
      rw [if_neg n0, if_neg n1, if_neg n2, if_neg n3, if_neg n4, if_neg n5, if_neg n6, if_neg n7, if_neg n8, if_pos c9] at this; exact this
    · have := h t g
      rw [if_neg n0, if_neg n1, if_neg n2, if_neg n3, if_neg n4, if_neg n5, if_neg n6, if_neg n7, if_neg n8, if_neg n9, if_pos c10] at this; exact this
    · have := h t g
      rw [if_neg n0, if_neg n1, if_neg n2, if_neg n3, if_neg n4, if_neg n5, if_neg n6, if_neg n7, if_neg n8, if_neg n9, if_neg n10, if_pos c11] at this; exact this
    · have := h t g
      rw [if_neg n0, if_neg n1, if_neg n2, if_neg n3, if_neg n4, if_neg n5, if_neg n6, if_neg n7, if_neg n8, if_neg n9, if_neg n10, if_neg n11, if_pos c12] at this; exact this
    · have := h t g
      rw [if_neg n0, if_neg n1, if_neg n2, if_neg n3, if_neg n4, if_neg n5, if_neg n6, if_neg n7, if_neg n8, if_neg n9, if_neg n10, if_neg n11, if_neg n12, if_pos c13] at this; exact this
    · have := h t g
      rw [if_neg n0, if_neg n1, if_neg n2, if_neg n3, if_neg n4, if_neg n5, if_neg n6, if_neg n7, if_neg n8, if_neg n9, if_neg n10, if_neg n11, if_neg n12, if_neg n13, if_pos c14] at this; exact this
    · have := h t g
      rw [if_neg n0, if_neg n1, if_neg n2, if_neg n3, if_neg n4, if_neg n5, if_neg n6, if_neg n7, if_neg n8, if_neg n9, if_neg n10, if_neg n11, if_neg n12, if_neg n13, if_neg n14, if_pos c15] at this; exact this
    · have := h t g
      rw [if_neg n0, if_neg n1, if_neg n2, if_neg n3, if_neg n4, if_neg n5, if_neg n6, if_neg n7, if_neg n8, if_neg n9, if_neg n10, if_neg n11, if_neg n12, if_neg n13, if_neg n14, if_neg n15] at this; exact this
  · exact h.elim
/-- how an act of a script ends -/
def qActE (ν : Mi) (code wat : Int32) : Mi := if code < 0 then upI (upI (upI ν 2737 19 code) 2737 20 wat) 2737 26 1 else upI (upI ν 2737 21 (ν 2737 21 + 1)) 2737 26 (if ¬ ν 2737 21 + 1 = 400 then 0 else 1)
def w_X12_act_55 (M : CT) (G : Nat → PT) (Rp : RT) : PT := tPutZ 12 27 26 <| tVret Rp
def w_X12_act_54 (M : CT) (G : Nat → PT) (Rp : RT) : PT := tConst 0 <| w_X12_act_55 M G Rp
def w_X12_act_29 (M : CT) (G : Nat → PT) (Rp : RT) : PT := tAload 0 <| tDup <| tGetI 12 27 21 <| tConst 1 <| tBin (fun x y => x + y) <| tPutI 12 27 21 <| tAload 0 <| tAload 0 <| tGetI 12 27 21 <| tConst 400 <| tIf2 (fun x y => x ≠ y) (w_X12_act_54 M G Rp) <| tConst 1 <| tGoto (w_X12_act_55 M G Rp)
def w_X12_act_0 (M : CT) (G : Nat → PT) (Rp : RT) : PT := tAload 0 <| tIload 1 <| tFn 2 F_X12_does_ <| tIstore 2 <| tIload 2 <| tIf (fun x => 0 ≤ x) (w_X12_act_29 M G Rp) <| tAload 0 <| tIload 2 <| tPutI 12 27 19 <| tAload 0 <| tAload 0 <| tGetI 12 27 23 <| tPutI 12 27 20 <| tAload 0 <| tConst 1 <| tPutZ 12 27 26 <| tVret Rp
set_option maxRecDepth 20000 in
theorem b_X12_act_55 {Z : Zt} {d : Nat} {p : Program} {e : Env} {R : Room} {s : State} {m : MethodId} {args : Array Value} {below : List Frame} {meth : Method} {c : Code} {Rp : RT} (C : Cx Z (d + 14) jX12_act RX12 p R s m args meth c) : Sd Z jX12_act p e R s m args below meth c (MQ below (QcS Z Rp) args s 0 0 (fun a => Z.2.2.1 < a)) 55 (w_X12_act_55 (MS Z (d + 14)) (Gw Z 3 p e R s m args below meth c (MQ below (QcS Z Rp) args s 0 0 (fun a => Z.2.2.1 < a))) Rp) := by
  unfold w_X12_act_55
  refine s_putZ C w_6_113 (by decide +kernel) rfl (Or.inl rfl) ?_
  exact s_vret C rfl (by decide +kernel)
set_option maxRecDepth 20000 in
theorem b_X12_act_54 {Z : Zt} {d : Nat} {p : Program} {e : Env} {R : Room} {s : State} {m : MethodId} {args : Array Value} {below : List Frame} {meth : Method} {c : Code} {Rp : RT} (C : Cx Z (d + 14) jX12_act RX12 p R s m args meth c) : Sd Z jX12_act p e R s m args below meth c (MQ below (QcS Z Rp) args s 0 0 (fun a => Z.2.2.1 < a)) 54 (w_X12_act_54 (MS Z (d + 14)) (Gw Z 3 p e R s m args below meth c (MQ below (QcS Z Rp) args s 0 0 (fun a => Z.2.2.1 < a))) Rp) := by
  unfold w_X12_act_54
  refine s_iconst (n := 0) C (by decide +kernel) (by decide) ?_
  exact (b_X12_act_55 C)
set_option maxRecDepth 20000 in
theorem b_X12_act_29 {Z : Zt} {d : Nat} {p : Program} {e : Env} {R : Room} {s : State} {m : MethodId} {args : Array Value} {below : List Frame} {meth : Method} {c : Code} {Rp : RT} (C : Cx Z (d + 14) jX12_act RX12 p R s m args meth c) : Sd Z jX12_act p e R s m args below meth c (MQ below (QcS Z Rp) args s 0 0 (fun a => Z.2.2.1 < a)) 29 (w_X12_act_29 (MS Z (d + 14)) (Gw Z 3 p e R s m args below meth c (MQ below (QcS Z Rp) args s 0 0 (fun a => Z.2.2.1 < a))) Rp) := by
  unfold w_X12_act_29
  refine s_aload_n (k := 0) C (by decide +kernel) ?_
  refine s_dup C (by decide +kernel) ?_
  refine s_getI C w_6_108 (by decide +kernel) rfl ?_
  refine s_iconst (n := 1) C (by decide +kernel) (by decide) ?_
  refine s_iadd C (by decide +kernel) ?_
  refine s_putI C w_6_108 (by decide +kernel) rfl (Or.inl rfl) ?_
  refine s_aload_n (k := 0) C (by decide +kernel) ?_
  refine s_aload_n (k := 0) C (by decide +kernel) ?_
  refine s_getI C w_6_108 (by decide +kernel) rfl ?_
  refine s_sipush (n := 400) C (by decide +kernel) (by decide) ?_
  refine s_icmp_ne (off := 7) (tgt := 54) C (by decide +kernel) (by decide) (b_X12_act_54 C) ?_
  refine s_iconst (n := 1) C (by decide +kernel) (by decide) ?_
  exact s_goto (off := 4) (tgt := 55) C (by decide +kernel) (by decide) (b_X12_act_55 C)
set_option maxRecDepth 20000 in
theorem b_X12_act_0 {Z : Zt} {d : Nat} {p : Program} {e : Env} {R : Room} {s : State} {m : MethodId} {args : Array Value} {below : List Frame} {meth : Method} {c : Code} {Rp : RT} (C : Cx Z (d + 14) jX12_act RX12 p R s m args meth c) : Sd Z jX12_act p e R s m args below meth c (MQ below (QcS Z Rp) args s 0 0 (fun a => Z.2.2.1 < a)) 0 (w_X12_act_0 (MS Z (d + 14)) (Gw Z 3 p e R s m args below meth c (MQ below (QcS Z Rp) args s 0 0 (fun a => Z.2.2.1 < a))) Rp) := by
  unfold w_X12_act_0
  refine s_aload_n (k := 0) C (by decide +kernel) ?_
  refine s_iload_n (k := 1) C (by decide +kernel) ?_
  refine s_fnV C (j2 := jX12_does_) (cl := 12) (nf := 27) rfl rfl (by decide +kernel) rfl w_8_81 w_8_83 w_p7_11 w_1_13 w_8_84 (by decide +kernel) (fun _ _ _ _ _ h => f_X12_does_ h) (fun _ _ _ _ _ h => r_X12_does_ h) ?_
  refine s_istore_n (k := 2) C (by decide +kernel) ?_
  refine s_iload_n (k := 2) C (by decide +kernel) ?_
  refine s_if_ge (off := 22) (tgt := 29) C (by decide +kernel) (by decide) (b_X12_act_29 C) ?_
  refine s_aload_n (k := 0) C (by decide +kernel) ?_
  refine s_iload_n (k := 2) C (by decide +kernel) ?_
  refine s_putI C w_6_106 (by decide +kernel) rfl (Or.inl rfl) ?_
  refine s_aload_n (k := 0) C (by decide +kernel) ?_
  refine s_aload_n (k := 0) C (by decide +kernel) ?_
  refine s_getI C w_6_110 (by decide +kernel) rfl ?_
  refine s_putI C w_6_107 (by decide +kernel) rfl (Or.inl rfl) ?_
  refine s_aload_n (k := 0) C (by decide +kernel) ?_
  refine s_iconst (n := 1) C (by decide +kernel) (by decide) ?_
  refine s_putZ C w_6_113 (by decide +kernel) rfl (Or.inl rfl) ?_
  exact s_vret C rfl (by decide +kernel)
theorem ms_X12_act {Z : Zt} {d : Nat} {S : Sh} {μ : Mi} {ρ : Mr} {Rp : RT} (a0 : Nat) (x1 : Int32) (h : ∀ G : Nat → PT, w_X12_act_0 (MS Z (d + 14)) G Rp [.ref a0, .int x1, .null] [] S (0, 0) μ ρ) : MS Z (d + 15) jX12_act [.ref a0, .int x1] S μ ρ Rp :=
  MS_of [.ref a0, .int x1, .null] (by decide +kernel) rfl rfl (Nat.le_of_ble_eq_true rfl) rfl (fun p e R s m args below meth c C => b_X12_act_0 C _ _ _ _ _ _ (h _ ))
def F_X12_act : FT := fun As S μ ρ k => match As with
  | [.ref a, .int w] => a = 2737 ∧ RS S ρ ∧ good (μ 2738) ∧ ∀ (t : T4) (g : Rw), k none (qActE (M4 μ g t (aDo (μ 2738) w (μ 2747)).2) (aDo (μ 2738) w (μ 2747)).1 (μ 2737 23))
  | _ => False
theorem r_X12_act {As S μ ρ k} (h : F_X12_act As S μ ρ k) : ∃ a As', As = Value.ref a :: As' ∧ S.2 a = (12, 27) := by
  unfold F_X12_act at h
  split at h
  · exact ⟨_, _, rfl, by rw [h.1]; exact h.2.1.1⟩
  · exact h.elim
set_option maxHeartbeats 1000000 in
theorem f_X12_act {Z : Zt} {d : Nat} {As : List Value} {S : Sh} {μ : Mi} {ρ : Mr} {Rp : RT} (h : F_X12_act As S μ ρ (fun r μ' => Rp r S μ' ρ)) : MS Z (d + 15) jX12_act As S μ ρ Rp := by
  unfold F_X12_act at h
  split at h
  · rename_i a w
    obtain ⟨rfl, hS, h⟩ := h
    have hS0 := hS
    unfold RS at hS
    obtain ⟨hg, h⟩ := h
    unfold qActE at h
    refine ms_X12_act _ _ (fun G => ?_)
    have e1 : (1 : Int32) &&& 1 = 1 := by decide
    have e0 : (0 : Int32) &&& 1 = 0 := by decide
    have e23 : ∀ (t : T4) (g A : Rw) (x : Int32), upI (M4 μ g t A) 2737 19 x 2737 23 = μ 2737 23 := fun t g A x => by rw [upI_k (by decide)]; exact M4_f (by decide)
    simp only [w_X12_act_0, w_X12_act_29, w_X12_act_54, w_X12_act_55, tAload, tIload, nth, tGetI, tGetR, tConst, tLconst, tBin, tUn, tI2l, tAld, tAldR, tAlen, tIast, tBast, tZast, tAast, tIret, tZret, tVret, tAret, tIf, tIf2, tGoto, tIstore, tAstore, sset, tIinc, tDup, tDup2, tPop, tPutI, tPutZ, tPutR, tCallV, tCallS, popN, tFn, tCopy, tMax, tMin, tSw, swc, tRem, tObjI, Option.toList, List.nil_append, List.cons_append, okR, true_and, and_true, true_or, or_true, Nat.zero_le, ne_eq, not_false_eq_true, Nat.reduceEqDiff, F_X12_does_, hS0, hS, upI_at, e23, e1, e0, Decidable.not_not]
    refine ⟨hg, fun t g => ⟨fun c => ⟨fun c2 => ?_, fun c2 => ?_⟩, fun c => ?_⟩⟩
    · have := h t g
      rw [if_neg (Int32.not_lt.mpr c), if_pos c2] at this; exact this
    · have := h t g
      rw [if_neg (Int32.not_lt.mpr c), if_neg (not_not_intro c2)] at this; exact this
    · have := h t g
      rw [if_pos (Int32.not_le.mp c)] at this; exact this
  · exact h.elim
