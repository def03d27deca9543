/-! ===== the reference: its public acts ===== -/
/-- what was so is kept for undo -/
def pushD (A D : Rw) (n : Int32) : Rw × Int32 := if n = 8 then (cpF A (cpF D D 4516 0 31612) 0 31612 4516, 8) else (cpF A D 0 (4516 * n.toNatClampNeg) 4516, n + 1)
/-- what matters of the reference's memory -/
def RQ (μ μ' : Mi) (A D : Rw) (n : Int32) : Prop := (∀ a, a < 2737 ∨ 2747 < a → μ' a = μ a) ∧ μ' 2738 = A ∧ μ' 2739 = D ∧ μ' 2737 6 = n ∧ μ' 2743 = μ 2743 ∧ μ' 2745 = μ 2745 ∧ μ' 2746 = μ 2746 ∧ (∀ f, 14 ≤ f → f ≤ 20 → f ≠ 15 → f ≠ 16 → μ' 2737 f = μ 2737 f)
def w_X12_ends_43 (M : CT) (G : Nat → PT) (Rp : RT) : PT := tAload 0 <| tGetR 12 27 4 <| tConst 0 <| tAload 0 <| tGetR 12 27 2 <| tConst 4516 <| tAload 0 <| tGetI 12 27 6 <| tBin (fun x y => x * y) <| tConst 4516 <| tFn 5 F_X12_copies <| tAload 0 <| tDup <| tGetI 12 27 6 <| tConst 1 <| tBin (fun x y => x + y) <| tPutI 12 27 6 <| tIload 1 <| tIret Rp
def w_X12_ends_6 (M : CT) (G : Nat → PT) (Rp : RT) : PT := tAload 0 <| tGetI 12 27 6 <| tConst 8 <| tIf2 (fun x y => x ≠ y) (w_X12_ends_43 M G Rp) <| tAload 0 <| tGetR 12 27 2 <| tConst 4516 <| tAload 0 <| tGetR 12 27 2 <| tConst 0 <| tConst 31612 <| tFn 5 F_X12_copies <| tAload 0 <| tDup <| tGetI 12 27 6 <| tConst 1 <| tBin (fun x y => x - y) <| tPutI 12 27 6 <| w_X12_ends_43 M G Rp
def w_X12_ends_0 (M : CT) (G : Nat → PT) (Rp : RT) : PT := tIload 1 <| tIf (fun x => 0 ≤ x) (w_X12_ends_6 M G Rp) <| tIload 1 <| tIret Rp
set_option maxRecDepth 20000 in
theorem b_X12_ends_43 {Z : Zt} {d : Nat} {p : Program} {e : Env} {R : Room} {s : State} {m : MethodId} {args : Array Value} {below : List Frame} {meth : Method} {c : Code} {Rp : RT} (C : Cx Z (d + 1) jX12_ends RX12 p R s m args meth c) : Sd Z jX12_ends p e R s m args below meth c (MQ below (QcS Z Rp) args s 0 0 (fun a => Z.2.2.1 < a)) 43 (w_X12_ends_43 (MS Z (d + 1)) (Gw Z 2 p e R s m args below meth c (MQ below (QcS Z Rp) args s 0 0 (fun a => Z.2.2.1 < a))) Rp) := by
  unfold w_X12_ends_43
  refine s_aload_n (k := 0) C (by decide +kernel) ?_
  refine s_getR C w_6_91 (by decide +kernel) rfl ?_
  refine s_iconst (n := 0) C (by decide +kernel) (by decide) ?_
  refine s_aload_n (k := 0) C (by decide +kernel) ?_
  refine s_getR C w_6_89 (by decide +kernel) rfl ?_
  refine s_sipush (n := 4516) C (by decide +kernel) (by decide) ?_
  refine s_aload_n (k := 0) C (by decide +kernel) ?_
  refine s_getI C w_6_93 (by decide +kernel) rfl ?_
  refine s_imul C (by decide +kernel) ?_
  refine s_sipush (n := 4516) C (by decide +kernel) (by decide) ?_
  refine s_fnS C (j2 := jX12_copies) (by decide +kernel) rfl w_6_182 w_6_183 w_1_13 w_6_184 (by decide +kernel) (fun _ _ _ _ _ h => f_X12_copies h) ?_
  refine s_aload_n (k := 0) C (by decide +kernel) ?_
  refine s_dup C (by decide +kernel) ?_
  refine s_getI C w_6_93 (by decide +kernel) rfl ?_
  refine s_iconst (n := 1) C (by decide +kernel) (by decide) ?_
  refine s_iadd C (by decide +kernel) ?_
  refine s_putI C w_6_93 (by decide +kernel) rfl (Or.inl rfl) ?_
  refine s_iload_n (k := 1) C (by decide +kernel) ?_
  exact s_iret C rfl (by decide +kernel)
set_option maxRecDepth 20000 in
theorem b_X12_ends_6 {Z : Zt} {d : Nat} {p : Program} {e : Env} {R : Room} {s : State} {m : MethodId} {args : Array Value} {below : List Frame} {meth : Method} {c : Code} {Rp : RT} (C : Cx Z (d + 1) jX12_ends RX12 p R s m args meth c) : Sd Z jX12_ends p e R s m args below meth c (MQ below (QcS Z Rp) args s 0 0 (fun a => Z.2.2.1 < a)) 6 (w_X12_ends_6 (MS Z (d + 1)) (Gw Z 2 p e R s m args below meth c (MQ below (QcS Z Rp) args s 0 0 (fun a => Z.2.2.1 < a))) Rp) := by
  unfold w_X12_ends_6
  refine s_aload_n (k := 0) C (by decide +kernel) ?_
  refine s_getI C w_6_93 (by decide +kernel) rfl ?_
  refine s_bipush (n := 8) C (by decide +kernel) (by decide) ?_
  refine s_icmp_ne (off := 31) (tgt := 43) C (by decide +kernel) (by decide) (b_X12_ends_43 C) ?_
  refine s_aload_n (k := 0) C (by decide +kernel) ?_
  refine s_getR C w_6_89 (by decide +kernel) rfl ?_
  refine s_sipush (n := 4516) C (by decide +kernel) (by decide) ?_
  refine s_aload_n (k := 0) C (by decide +kernel) ?_
  refine s_getR C w_6_89 (by decide +kernel) rfl ?_
  refine s_iconst (n := 0) C (by decide +kernel) (by decide) ?_
  refine s_sipush (n := 31612) C (by decide +kernel) (by decide) ?_
  refine s_fnS C (j2 := jX12_copies) (by decide +kernel) rfl w_6_182 w_6_183 w_1_13 w_6_184 (by decide +kernel) (fun _ _ _ _ _ h => f_X12_copies h) ?_
  refine s_aload_n (k := 0) C (by decide +kernel) ?_
  refine s_dup C (by decide +kernel) ?_
  refine s_getI C w_6_93 (by decide +kernel) rfl ?_
  refine s_iconst (n := 1) C (by decide +kernel) (by decide) ?_
  refine s_isub C (by decide +kernel) ?_
  refine s_putI C w_6_93 (by decide +kernel) rfl (Or.inl rfl) ?_
  exact (b_X12_ends_43 C)
set_option maxRecDepth 20000 in
theorem b_X12_ends_0 {Z : Zt} {d : Nat} {p : Program} {e : Env} {R : Room} {s : State} {m : MethodId} {args : Array Value} {below : List Frame} {meth : Method} {c : Code} {Rp : RT} (C : Cx Z (d + 1) jX12_ends RX12 p R s m args meth c) : Sd Z jX12_ends p e R s m args below meth c (MQ below (QcS Z Rp) args s 0 0 (fun a => Z.2.2.1 < a)) 0 (w_X12_ends_0 (MS Z (d + 1)) (Gw Z 2 p e R s m args below meth c (MQ below (QcS Z Rp) args s 0 0 (fun a => Z.2.2.1 < a))) Rp) := by
  unfold w_X12_ends_0
  refine s_iload_n (k := 1) C (by decide +kernel) ?_
  refine s_if_ge (off := 5) (tgt := 6) C (by decide +kernel) (by decide) (b_X12_ends_6 C) ?_
  refine s_iload_n (k := 1) C (by decide +kernel) ?_
  exact s_iret C rfl (by decide +kernel)
theorem ms_X12_ends {Z : Zt} {d : Nat} {S : Sh} {μ : Mi} {ρ : Mr} {Rp : RT} (a0 : Nat) (x1 : Int32) (h : ∀ G : Nat → PT, w_X12_ends_0 (MS Z (d + 1)) G Rp [.ref a0, .int x1] [] S (0, 0) μ ρ) : MS Z (d + 2) jX12_ends [.ref a0, .int x1] S μ ρ Rp :=
  MS_of [.ref a0, .int x1] (by decide +kernel) rfl rfl (Nat.le_of_ble_eq_true rfl) rfl (fun p e R s m args below meth c C => b_X12_ends_0 C _ _ _ _ _ _ (h _ ))
def F_X12_ends : FT := fun As S μ ρ k => match As with
  | [.ref a, .int v] => a = 2737 ∧ RS S ρ ∧ rg (μ 2737 6) 0 8 ∧ k (some (.int v)) (if v < 0 then μ else upI (upF μ 2739 (pushD (μ 2741) (μ 2739) (μ 2737 6)).1) 2737 6 (pushD (μ 2741) (μ 2739) (μ 2737 6)).2)
  | _ => False
theorem r_X12_ends {As S μ ρ k} (h : F_X12_ends As S μ ρ k) : ∃ a As', As = Value.ref a :: As' ∧ S.2 a = (12, 27) := by
  unfold F_X12_ends at h
  split at h
  · exact ⟨_, _, rfl, by rw [h.1]; exact h.2.1.1⟩
  · exact h.elim
set_option maxHeartbeats 1000000 in
theorem f_X12_ends {Z : Zt} {d : Nat} {As : List Value} {S : Sh} {μ : Mi} {ρ : Mr} {Rp : RT} (h : F_X12_ends As S μ ρ (fun r μ' => Rp r S μ' ρ)) : MS Z (d + 2) jX12_ends As S μ ρ Rp := by
  unfold F_X12_ends at h
  split at h
  · rename_i a v
    obtain ⟨rfl, hS, h⟩ := h
    have hS0 := hS
    unfold RS at hS
    obtain ⟨h1, h⟩ := h
    obtain ⟨n, en, en0, -, en1⟩ := rg_ex h1
    refine ms_X12_ends _ _ (fun G => ?_)
    have n1 : (2737 : Nat) ≠ 2739 := by decide
    have n2 : (2741 : Nat) ≠ 2739 := by decide
    simp only [w_X12_ends_0, tAload, tIload, nth, tGetI, tGetR, tConst, tLconst, tBin, tUn, tI2l, tAld, tAldR, tAlen, tIast, tBast, tZast, tAast, tIret, tZret, tVret, tAret, tIf, tIf2, tGoto, tIstore, tAstore, sset, tIinc, tDup, tDup2, tPop, tPutI, tPutZ, tPutR, tCallV, tCallS, popN, tFn, tCopy, tMax, tMin, tSw, swc, tRem, tObjI, Option.toList, List.nil_append, List.cons_append, okR, true_and, and_true, true_or, or_true, Nat.zero_le, ne_eq, not_false_eq_true, Nat.reduceEqDiff]
    refine ⟨fun c => ?_, fun c => ?_⟩
    · rw [if_neg (Int32.not_lt.mpr c)] at h
      unfold pushD at h
      have fin : ∀ (m : Nat) (ν : Mi), m ≤ 7 → ν 2737 6 = nI m → (Rp (some (.int v)) S (upI (upF ν 2739 (cpF (ν 2741) (ν 2739) 0 (4516 * m) 4516)) 2737 6 (nI (m + 1))) ρ) → w_X12_ends_43 (MS Z (d + 1)) G Rp [.ref 2737, .int v] [] S (0, 0) ν ρ := by
        intro m ν hm hν hq
        simp only [w_X12_ends_43, tAload, tIload, nth, tGetI, tGetR, tConst, tLconst, tBin, tUn, tI2l, tAld, tAldR, tAlen, tIast, tBast, tZast, tAast, tIret, tZret, tVret, tAret, tIf, tIf2, tGoto, tIstore, tAstore, sset, tIinc, tDup, tDup2, tPop, tPutI, tPutZ, tPutR, tCallV, tCallS, popN, tFn, tCopy, tMax, tMin, tSw, swc, tRem, tObjI, Option.toList, List.nil_append, List.cons_append, okR, true_and, and_true, true_or, or_true, Nat.zero_le, ne_eq, not_false_eq_true, Nat.reduceEqDiff, F_X12_copies, hS, hν, cl_0, cl_4516, upF_ne n1]
        have e1 : (4516 : Int32) * nI m = nI (4516 * m) := by rw [show (4516 : Int32) = nI 4516 from rfl, pk_mul]
        rw [e1]
        simp (disch := omega) only [nI_clamp, nI_toInt, nI_1]
        exact ⟨by decide, by omega, by decide, by decide, by omega, by decide, by decide, hq⟩
      simp only [w_X12_ends_6, tAload, tIload, nth, tGetI, tGetR, tConst, tLconst, tBin, tUn, tI2l, tAld, tAldR, tAlen, tIast, tBast, tZast, tAast, tIret, tZret, tVret, tAret, tIf, tIf2, tGoto, tIstore, tAstore, sset, tIinc, tDup, tDup2, tPop, tPutI, tPutZ, tPutR, tCallV, tCallS, popN, tFn, tCopy, tMax, tMin, tSw, swc, tRem, tObjI, Option.toList, List.nil_append, List.cons_append, okR, true_and, and_true, true_or, or_true, Nat.zero_le, ne_eq, not_false_eq_true, Nat.reduceEqDiff, F_X12_copies, hS, cl_0, cl_4516, upF_ne n1]
      refine ⟨fun c2 => ?_, fun c2 => ?_⟩
      · rw [if_neg c2, en, nI_clamp en0] at h
        have hn7 : n ≤ 7 := by
          have : ¬ n = 8 := fun z => c2 (by rw [en, z]; rfl)
          omega
        refine fin n μ hn7 en ?_
        rw [nI_1] at h
        exact h
      · have c3 := Decidable.not_not.mp c2
        rw [if_pos c3] at h
        refine ⟨by decide, by decide, by decide, by decide, by decide, by decide, by decide, ?_⟩
        refine fin 7 _ (by decide) (by rw [upI_at, c3]; rfl) ?_
        have e1 : upI (upF μ 2739 (cpF (μ 2739) (μ 2739) 4516 0 31612)) 2737 6 (μ 2737 6 - 1) 2741 = μ 2741 := by
          rw [upI_upF, upF_ne (by decide), upF_ne (by decide)]
        have e2 : upI (upF μ 2739 (cpF (μ 2739) (μ 2739) 4516 0 31612)) 2737 6 (μ 2737 6 - 1) 2739 = cpF (μ 2739) (μ 2739) 4516 0 31612 := by
          rw [upI_upF, upF_ne (by decide), upF_same]
        have e3 : ∀ X : Rw, upI (upF (upI (upF μ 2739 (cpF (μ 2739) (μ 2739) 4516 0 31612)) 2737 6 (μ 2737 6 - 1)) 2739 X) 2737 6 (nI (7 + 1)) = upI (upF μ 2739 X) 2737 6 8 := by
          intro X
          simp only [upI_upF]
          rw [upF_comm (a := 2737) (b := 2739) (by decide), upF_upF, upF_upF]
          congr 1
          funext i
          unfold up
          by_cases hi : i = 6
          · rw [if_pos hi, if_pos hi]; rfl
          · rw [if_neg hi, if_neg hi]
            rw [upF_same, if_neg hi, upF_ne (by decide), upF_ne (by decide)]
        rw [show Int32.toNatClampNeg 31612 = 31612 by decide, e1, e2, e3]
        exact h
    · rw [if_pos (Int32.not_le.mp c)] at h
      exact h
  · exact h.elim
theorem cp_aside {A X D : Rw} {m : Nat} : cpF (cpF A X 0 0 4516) D 0 m 4516 = cpF A D 0 m 4516 := by
  funext i
  unfold cpF
  by_cases h : m ≤ i ∧ i < m + 4516
  · rw [if_pos h, if_pos h, if_pos (by omega)]
    congr 1
    omega
  · rw [if_neg h, if_neg h]
theorem pushD_aside {A X D : Rw} {n : Int32} : pushD (cpF A X 0 0 4516) D n = pushD A D n := by
  unfold pushD
  simp only [cp_aside]
/-- an act's memory, as it began -/
def M5 (μ : Mi) : Mi := upF (upI μ 2737 0 0) 2741 (cpF (μ 2738) (μ 2741) 0 0 4516)
theorem M5_at (μ : Mi) : M5 μ 2738 = μ 2738 ∧ M5 μ 2739 = μ 2739 ∧ M5 μ 2737 6 = μ 2737 6 ∧ M5 μ 2741 = cpF (μ 2738) (μ 2741) 0 0 4516 := by
  unfold M5
  rw [upI_upF]
  refine ⟨by rw [upF_ne (by decide), upF_ne (by decide)], by rw [upF_ne (by decide), upF_ne (by decide)], ?_, upF_same⟩
  rw [upF_ne (by decide), upF_same, up_ne (by decide)]
theorem M4_out {μ : Mi} {g : Rw} {t : T4} {A : Rw} {a : Nat} (h1 : a ≠ 2737) (h2 : a ≠ 2738) (h3 : a ≠ 2744) : M4 μ g t A a = μ a := by
  unfold M4; rw [M3_ne h1 h2, upF_ne h3]
theorem M4_f {μ : Mi} {g : Rw} {t : T4} {A : Rw} {f : Nat} (h : f < 8 ∨ 11 < f) : M4 μ g t A 2737 f = μ 2737 f := by
  unfold M4 M3 setM
  rw [upF_ne (by decide), upF_same]
  rw [if_neg (by omega), if_neg (by omega), if_neg (by omega), if_neg (by omega), upF_ne (by decide)]
theorem RQ_no {μ : Mi} {g : Rw} {t : T4} {A : Rw} : RQ μ (M4 (M5 μ) g t A) A (μ 2739) (μ 2737 6) := by
  refine ⟨fun a ha => ?_, M4_row, ?_, ?_, ?_, ?_, ?_, fun f h1 h2 h3 h4 => ?_⟩
  · rw [M4_out (by omega) (by omega) (by omega)]; unfold M5; rw [upI_upF, upF_ne (by omega), upF_ne (by omega)]
  · rw [M4_out (by decide) (by decide) (by decide)]; exact (M5_at μ).2.1
  · rw [M4_f (by decide)]; exact (M5_at μ).2.2.1
  · rw [M4_out (by decide) (by decide) (by decide)]; unfold M5; rw [upI_upF, upF_ne (by decide), upF_ne (by decide)]
  · rw [M4_out (by decide) (by decide) (by decide)]; unfold M5; rw [upI_upF, upF_ne (by decide), upF_ne (by decide)]
  · rw [M4_out (by decide) (by decide) (by decide)]; unfold M5; rw [upI_upF, upF_ne (by decide), upF_ne (by decide)]
  · rw [M4_f (by omega)]; unfold M5; rw [upI_upF, upF_ne (by decide), upF_same, up_ne (by omega)]
theorem RQ_yes {μ ν : Mi} {A D D' : Rw} {n n' : Int32} (h : RQ μ ν A D n) : RQ μ (upI (upF ν 2739 D') 2737 6 n') A D' n' := by
  obtain ⟨h1, h2, h3, h4, h5, h6, h7, h8⟩ := h
  rw [upI_upF]
  refine ⟨fun a ha => ?_, ?_, ?_, ?_, ?_, ?_, ?_, fun f q1 q2 q3 q4 => ?_⟩
  · rw [upF_ne (by omega), upF_ne (by omega)]; exact h1 a ha
  · rw [upF_ne (by decide), upF_ne (by decide)]; exact h2
  · rw [upF_ne (by decide), upF_same]
  · rw [upF_same, up_at]
  · rw [upF_ne (by decide), upF_ne (by decide)]; exact h5
  · rw [upF_ne (by decide), upF_ne (by decide)]; exact h6
  · rw [upF_ne (by decide), upF_ne (by decide)]; exact h7
  · rw [upF_same, up_ne (by omega), upF_ne (by decide)]; exact h8 f q1 q2 q3 q4
/-- how an act ends -/
theorem act_end {μ : Mi} {g : Rw} {t : T4} {A : Rw} {v : Int32} {Q : Mi → Prop} (h : ∀ μ', RQ μ μ' A (if v < 0 then μ 2739 else (pushD (μ 2738) (μ 2739) (μ 2737 6)).1) (if v < 0 then μ 2737 6 else (pushD (μ 2738) (μ 2739) (μ 2737 6)).2) → Q μ') :
    Q (if v < 0 then M4 (M5 μ) g t A else upI (upF (M4 (M5 μ) g t A) 2739 (pushD (M4 (M5 μ) g t A 2741) (M4 (M5 μ) g t A 2739) (M4 (M5 μ) g t A 2737 6)).1) 2737 6 (pushD (M4 (M5 μ) g t A 2741) (M4 (M5 μ) g t A 2739) (M4 (M5 μ) g t A 2737 6)).2) := by
  have e1 : M4 (M5 μ) g t A 2741 = cpF (μ 2738) (μ 2741) 0 0 4516 := by rw [M4_out (by decide) (by decide) (by decide)]; exact (M5_at μ).2.2.2
  have e2 : M4 (M5 μ) g t A 2739 = μ 2739 := by rw [M4_out (by decide) (by decide) (by decide)]; exact (M5_at μ).2.1
  have e3 : M4 (M5 μ) g t A 2737 6 = μ 2737 6 := by rw [M4_f (by decide)]; exact (M5_at μ).2.2.1
  rw [e1, e2, e3, pushD_aside]
  apply h
  by_cases c : v < 0
  · simp only [if_pos c]; exact RQ_no
  · simp only [if_neg c]; exact RQ_yes RQ_no
def w_X12_careful_0 (M : CT) (G : Nat → PT) (Rp : RT) : PT := tAload 0 <| tConst 0 <| tPutI 12 27 0 <| tAload 0 <| tFn 1 F_X12_begins <| tAload 0 <| tAload 0 <| tIload 1 <| tFn 2 F_X12_actCareful <| tFn 2 F_X12_ends <| tIret Rp
set_option maxRecDepth 20000 in
theorem b_X12_careful_0 {Z : Zt} {d : Nat} {p : Program} {e : Env} {R : Room} {s : State} {m : MethodId} {args : Array Value} {below : List Frame} {meth : Method} {c : Code} {Rp : RT} (C : Cx Z (d + 2) jX12_careful RX12 p R s m args meth c) : Sd Z jX12_careful p e R s m args below meth c (MQ below (QcS Z Rp) args s 0 0 (fun a => Z.2.2.1 < a)) 0 (w_X12_careful_0 (MS Z (d + 2)) (Gw Z 2 p e R s m args below meth c (MQ below (QcS Z Rp) args s 0 0 (fun a => Z.2.2.1 < a))) Rp) := by
  unfold w_X12_careful_0
  refine s_aload_n (k := 0) C (by decide +kernel) ?_
  refine s_iconst (n := 0) C (by decide +kernel) (by decide) ?_
  refine s_putI C w_6_87 (by decide +kernel) rfl (Or.inl rfl) ?_
  refine s_aload_n (k := 0) C (by decide +kernel) ?_
  refine s_fnV C (j2 := jX12_begins) (cl := 12) (nf := 27) rfl rfl (by decide +kernel) rfl w_6_178 w_6_180 w_p3_5 w_1_13 w_6_181 (by decide +kernel) (fun _ _ _ _ _ h => f_X12_begins h) (fun _ _ _ _ _ h => r_X12_begins h) ?_
  refine s_aload_n (k := 0) C (by decide +kernel) ?_
  refine s_aload_n (k := 0) C (by decide +kernel) ?_
  refine s_iload_n (k := 1) C (by decide +kernel) ?_
  refine s_fnV C (j2 := jX12_actCareful) (cl := 12) (nf := 27) rfl rfl (by decide +kernel) rfl w_6_196 w_6_198 w_p3_7 w_1_13 w_6_199 (by decide +kernel) (fun _ _ _ _ _ h => f_X12_actCareful h) (fun _ _ _ _ _ h => r_X12_actCareful h) ?_
  refine s_fnV C (j2 := jX12_ends) (cl := 12) (nf := 27) rfl rfl (by decide +kernel) rfl w_6_188 w_6_190 w_p3_6 w_1_13 w_6_191 (by decide +kernel) (fun _ _ _ _ _ h => f_X12_ends h) (fun _ _ _ _ _ h => r_X12_ends h) ?_
  exact s_iret C rfl (by decide +kernel)
theorem ms_X12_careful {Z : Zt} {d : Nat} {S : Sh} {μ : Mi} {ρ : Mr} {Rp : RT} (a0 : Nat) (x1 : Int32) (h : ∀ G : Nat → PT, w_X12_careful_0 (MS Z (d + 2)) G Rp [.ref a0, .int x1] [] S (0, 0) μ ρ) : MS Z (d + 3) jX12_careful [.ref a0, .int x1] S μ ρ Rp :=
  MS_of [.ref a0, .int x1] (by decide +kernel) rfl rfl (Nat.le_of_ble_eq_true rfl) rfl (fun p e R s m args below meth c C => b_X12_careful_0 C _ _ _ _ _ _ (h _ ))
def F_X12_careful : FT := fun As S μ ρ k => match As with
  | [.ref a, .int x] => a = 2737 ∧ RS S ρ ∧ good (μ 2738) ∧ rg (μ 2737 6) 0 8 ∧ ∀ μ', RQ μ μ' (aCareful (μ 2738) x).2 (if (aCareful (μ 2738) x).1 < 0 then μ 2739 else (pushD (μ 2738) (μ 2739) (μ 2737 6)).1) (if (aCareful (μ 2738) x).1 < 0 then μ 2737 6 else (pushD (μ 2738) (μ 2739) (μ 2737 6)).2) → k (some (.int (aCareful (μ 2738) x).1)) μ'
  | _ => False
theorem r_X12_careful {As S μ ρ k} (h : F_X12_careful As S μ ρ k) : ∃ a As', As = Value.ref a :: As' ∧ S.2 a = (12, 27) := by
  unfold F_X12_careful at h
  split at h
  · exact ⟨_, _, rfl, by rw [h.1]; exact h.2.1.1⟩
  · exact h.elim
set_option maxHeartbeats 1000000 in
theorem f_X12_careful {Z : Zt} {d : Nat} {As : List Value} {S : Sh} {μ : Mi} {ρ : Mr} {Rp : RT} (h : F_X12_careful As S μ ρ (fun r μ' => Rp r S μ' ρ)) : MS Z (d + 3) jX12_careful As S μ ρ Rp := by
  unfold F_X12_careful at h
  split at h
  · rename_i a x
    obtain ⟨rfl, hS, h⟩ := h
    have hS0 := hS
    unfold RS at hS
    obtain ⟨hg, h1, h⟩ := h
    refine ms_X12_careful _ _ (fun G => ?_)
    have e0 : upI μ 2737 0 0 2738 = μ 2738 := by rw [upI_upF, upF_ne (by decide)]
    have e1 : upI μ 2737 0 0 2741 = μ 2741 := by rw [upI_upF, upF_ne (by decide)]
    simp only [w_X12_careful_0, tAload, tIload, nth, tGetI, tGetR, tConst, tLconst, tBin, tUn, tI2l, tAld, tAldR, tAlen, tIast, tBast, tZast, tAast, tIret, tZret, tVret, tAret, tIf, tIf2, tGoto, tIstore, tAstore, sset, tIinc, tDup, tDup2, tPop, tPutI, tPutZ, tPutR, tCallV, tCallS, popN, tFn, tCopy, tMax, tMin, tSw, swc, tRem, tObjI, Option.toList, List.nil_append, List.cons_append, okR, true_and, and_true, true_or, or_true, Nat.zero_le, ne_eq, not_false_eq_true, Nat.reduceEqDiff, F_X12_begins, F_X12_actCareful, F_X12_ends, hS0, hS, e0, e1]
    rw [show upF (upI μ 2737 0 0) 2741 (cpF (μ 2738) (μ 2741) 0 0 4516) = M5 μ from rfl, (M5_at μ).1]
    refine ⟨hg, fun t g => ⟨?_, ?_⟩⟩
    · rw [M4_f (by decide), (M5_at μ).2.2.1]; exact h1
    · exact act_end (Q := fun ν => Rp (some (.int (aCareful (μ 2738) x).1)) S ν ρ) h
  · exact h.elim
def w_X12_timeout_0 (M : CT) (G : Nat → PT) (Rp : RT) : PT := tAload 0 <| tConst 0 <| tPutI 12 27 0 <| tAload 0 <| tFn 1 F_X12_begins <| tAload 0 <| tAload 0 <| tIload 1 <| tFn 2 F_X12_actTimeout <| tFn 2 F_X12_ends <| tIret Rp
set_option maxRecDepth 20000 in
theorem b_X12_timeout_0 {Z : Zt} {d : Nat} {p : Program} {e : Env} {R : Room} {s : State} {m : MethodId} {args : Array Value} {below : List Frame} {meth : Method} {c : Code} {Rp : RT} (C : Cx Z (d + 11) jX12_timeout RX12 p R s m args meth c) : Sd Z jX12_timeout p e R s m args below meth c (MQ below (QcS Z Rp) args s 0 0 (fun a => Z.2.2.1 < a)) 0 (w_X12_timeout_0 (MS Z (d + 11)) (Gw Z 2 p e R s m args below meth c (MQ below (QcS Z Rp) args s 0 0 (fun a => Z.2.2.1 < a))) Rp) := by
  unfold w_X12_timeout_0
  refine s_aload_n (k := 0) C (by decide +kernel) ?_
  refine s_iconst (n := 0) C (by decide +kernel) (by decide) ?_
  refine s_putI C w_6_87 (by decide +kernel) rfl (Or.inl rfl) ?_
  refine s_aload_n (k := 0) C (by decide +kernel) ?_
  refine s_fnV C (j2 := jX12_begins) (cl := 12) (nf := 27) rfl rfl (by decide +kernel) rfl w_6_178 w_6_180 w_p3_5 w_1_13 w_6_181 (by decide +kernel) (fun _ _ _ _ _ h => f_X12_begins h) (fun _ _ _ _ _ h => r_X12_begins h) ?_
  refine s_aload_n (k := 0) C (by decide +kernel) ?_
  refine s_aload_n (k := 0) C (by decide +kernel) ?_
  refine s_iload_n (k := 1) C (by decide +kernel) ?_
  refine s_fnV C (j2 := jX12_actTimeout) (cl := 12) (nf := 27) rfl rfl (by decide +kernel) rfl w_6_204 w_6_206 w_p3_8 w_1_13 w_6_207 (by decide +kernel) (fun _ _ _ _ _ h => f_X12_actTimeout h) (fun _ _ _ _ _ h => r_X12_actTimeout h) ?_
  refine s_fnV C (j2 := jX12_ends) (cl := 12) (nf := 27) rfl rfl (by decide +kernel) rfl w_6_188 w_6_190 w_p3_6 w_1_13 w_6_191 (by decide +kernel) (fun _ _ _ _ _ h => f_X12_ends h) (fun _ _ _ _ _ h => r_X12_ends h) ?_
  exact s_iret C rfl (by decide +kernel)
theorem ms_X12_timeout {Z : Zt} {d : Nat} {S : Sh} {μ : Mi} {ρ : Mr} {Rp : RT} (a0 : Nat) (x1 : Int32) (h : ∀ G : Nat → PT, w_X12_timeout_0 (MS Z (d + 11)) G Rp [.ref a0, .int x1] [] S (0, 0) μ ρ) : MS Z (d + 12) jX12_timeout [.ref a0, .int x1] S μ ρ Rp :=
  MS_of [.ref a0, .int x1] (by decide +kernel) rfl rfl (Nat.le_of_ble_eq_true rfl) rfl (fun p e R s m args below meth c C => b_X12_timeout_0 C _ _ _ _ _ _ (h _ ))
def F_X12_timeout : FT := fun As S μ ρ k => match As with
  | [.ref a, .int x] => a = 2737 ∧ RS S ρ ∧ good (μ 2738) ∧ rg (μ 2737 6) 0 8 ∧ ∀ μ', RQ μ μ' (aTimeout (μ 2738) x).2 (if (aTimeout (μ 2738) x).1 < 0 then μ 2739 else (pushD (μ 2738) (μ 2739) (μ 2737 6)).1) (if (aTimeout (μ 2738) x).1 < 0 then μ 2737 6 else (pushD (μ 2738) (μ 2739) (μ 2737 6)).2) → k (some (.int (aTimeout (μ 2738) x).1)) μ'
  | _ => False
theorem r_X12_timeout {As S μ ρ k} (h : F_X12_timeout As S μ ρ k) : ∃ a As', As = Value.ref a :: As' ∧ S.2 a = (12, 27) := by
  unfold F_X12_timeout at h
  split at h
  · exact ⟨_, _, rfl, by rw [h.1]; exact h.2.1.1⟩
  · exact h.elim
set_option maxHeartbeats 1000000 in
theorem f_X12_timeout {Z : Zt} {d : Nat} {As : List Value} {S : Sh} {μ : Mi} {ρ : Mr} {Rp : RT} (h : F_X12_timeout As S μ ρ (fun r μ' => Rp r S μ' ρ)) : MS Z (d + 12) jX12_timeout As S μ ρ Rp := by
  unfold F_X12_timeout at h
  split at h
  · rename_i a x
    obtain ⟨rfl, hS, h⟩ := h
    have hS0 := hS
    unfold RS at hS
    obtain ⟨hg, h1, h⟩ := h
    refine ms_X12_timeout _ _ (fun G => ?_)
    have e0 : upI μ 2737 0 0 2738 = μ 2738 := by rw [upI_upF, upF_ne (by decide)]
    have e1 : upI μ 2737 0 0 2741 = μ 2741 := by rw [upI_upF, upF_ne (by decide)]
    simp only [w_X12_timeout_0, tAload, tIload, nth, tGetI, tGetR, tConst, tLconst, tBin, tUn, tI2l, tAld, tAldR, tAlen, tIast, tBast, tZast, tAast, tIret, tZret, tVret, tAret, tIf, tIf2, tGoto, tIstore, tAstore, sset, tIinc, tDup, tDup2, tPop, tPutI, tPutZ, tPutR, tCallV, tCallS, popN, tFn, tCopy, tMax, tMin, tSw, swc, tRem, tObjI, Option.toList, List.nil_append, List.cons_append, okR, true_and, and_true, true_or, or_true, Nat.zero_le, ne_eq, not_false_eq_true, Nat.reduceEqDiff, F_X12_begins, F_X12_actTimeout, F_X12_ends, hS0, hS, e0, e1]
    rw [show upF (upI μ 2737 0 0) 2741 (cpF (μ 2738) (μ 2741) 0 0 4516) = M5 μ from rfl, (M5_at μ).1]
    refine ⟨hg, fun t g => ⟨?_, ?_⟩⟩
    · rw [M4_f (by decide), (M5_at μ).2.2.1]; exact h1
    · exact act_end (Q := fun ν => Rp (some (.int (aTimeout (μ 2738) x).1)) S ν ρ) h
  · exact h.elim
def w_X12_beat_0 (M : CT) (G : Nat → PT) (Rp : RT) : PT := tAload 0 <| tConst 0 <| tPutI 12 27 0 <| tAload 0 <| tFn 1 F_X12_begins <| tAload 0 <| tAload 0 <| tIload 1 <| tFn 2 F_X12_actBeat <| tFn 2 F_X12_ends <| tIret Rp
set_option maxRecDepth 20000 in
theorem b_X12_beat_0 {Z : Zt} {d : Nat} {p : Program} {e : Env} {R : Room} {s : State} {m : MethodId} {args : Array Value} {below : List Frame} {meth : Method} {c : Code} {Rp : RT} (C : Cx Z (d + 6) jX12_beat RX12 p R s m args meth c) : Sd Z jX12_beat p e R s m args below meth c (MQ below (QcS Z Rp) args s 0 0 (fun a => Z.2.2.1 < a)) 0 (w_X12_beat_0 (MS Z (d + 6)) (Gw Z 2 p e R s m args below meth c (MQ below (QcS Z Rp) args s 0 0 (fun a => Z.2.2.1 < a))) Rp) := by
  unfold w_X12_beat_0
  refine s_aload_n (k := 0) C (by decide +kernel) ?_
  refine s_iconst (n := 0) C (by decide +kernel) (by decide) ?_
  refine s_putI C w_6_87 (by decide +kernel) rfl (Or.inl rfl) ?_
  refine s_aload_n (k := 0) C (by decide +kernel) ?_
  refine s_fnV C (j2 := jX12_begins) (cl := 12) (nf := 27) rfl rfl (by decide +kernel) rfl w_6_178 w_6_180 w_p3_5 w_1_13 w_6_181 (by decide +kernel) (fun _ _ _ _ _ h => f_X12_begins h) (fun _ _ _ _ _ h => r_X12_begins h) ?_
  refine s_aload_n (k := 0) C (by decide +kernel) ?_
  refine s_aload_n (k := 0) C (by decide +kernel) ?_
  refine s_iload_n (k := 1) C (by decide +kernel) ?_
  refine s_fnV C (j2 := jX12_actBeat) (cl := 12) (nf := 27) rfl rfl (by decide +kernel) rfl w_7_77 w_7_79 w_p5_0 w_1_13 w_7_80 (by decide +kernel) (fun _ _ _ _ _ h => f_X12_actBeat h) (fun _ _ _ _ _ h => r_X12_actBeat h) ?_
  refine s_fnV C (j2 := jX12_ends) (cl := 12) (nf := 27) rfl rfl (by decide +kernel) rfl w_6_188 w_6_190 w_p3_6 w_1_13 w_6_191 (by decide +kernel) (fun _ _ _ _ _ h => f_X12_ends h) (fun _ _ _ _ _ h => r_X12_ends h) ?_
  exact s_iret C rfl (by decide +kernel)
theorem ms_X12_beat {Z : Zt} {d : Nat} {S : Sh} {μ : Mi} {ρ : Mr} {Rp : RT} (a0 : Nat) (x1 : Int32) (h : ∀ G : Nat → PT, w_X12_beat_0 (MS Z (d + 6)) G Rp [.ref a0, .int x1] [] S (0, 0) μ ρ) : MS Z (d + 7) jX12_beat [.ref a0, .int x1] S μ ρ Rp :=
  MS_of [.ref a0, .int x1] (by decide +kernel) rfl rfl (Nat.le_of_ble_eq_true rfl) rfl (fun p e R s m args below meth c C => b_X12_beat_0 C _ _ _ _ _ _ (h _ ))
def F_X12_beat : FT := fun As S μ ρ k => match As with
  | [.ref a, .int x] => a = 2737 ∧ RS S ρ ∧ good (μ 2738) ∧ rg (μ 2737 6) 0 8 ∧ ∀ μ', RQ μ μ' (aBeat (μ 2738) x).2 (if (aBeat (μ 2738) x).1 < 0 then μ 2739 else (pushD (μ 2738) (μ 2739) (μ 2737 6)).1) (if (aBeat (μ 2738) x).1 < 0 then μ 2737 6 else (pushD (μ 2738) (μ 2739) (μ 2737 6)).2) → k (some (.int (aBeat (μ 2738) x).1)) μ'
  | _ => False
theorem r_X12_beat {As S μ ρ k} (h : F_X12_beat As S μ ρ k) : ∃ a As', As = Value.ref a :: As' ∧ S.2 a = (12, 27) := by
  unfold F_X12_beat at h
  split at h
  · exact ⟨_, _, rfl, by rw [h.1]; exact h.2.1.1⟩
  · exact h.elim
set_option maxHeartbeats 1000000 in
theorem f_X12_beat {Z : Zt} {d : Nat} {As : List Value} {S : Sh} {μ : Mi} {ρ : Mr} {Rp : RT} (h : F_X12_beat As S μ ρ (fun r μ' => Rp r S μ' ρ)) : MS Z (d + 7) jX12_beat As S μ ρ Rp := by
  unfold F_X12_beat at h
  split at h
  · rename_i a x
    obtain ⟨rfl, hS, h⟩ := h
    have hS0 := hS
    unfold RS at hS
    obtain ⟨hg, h1, h⟩ := h
    refine ms_X12_beat _ _ (fun G => ?_)
    have e0 : upI μ 2737 0 0 2738 = μ 2738 := by rw [upI_upF, upF_ne (by decide)]
    have e1 : upI μ 2737 0 0 2741 = μ 2741 := by rw [upI_upF, upF_ne (by decide)]
    simp only [w_X12_beat_0, tAload, tIload, nth, tGetI, tGetR, tConst, tLconst, tBin, tUn, tI2l, tAld, tAldR, tAlen, tIast, tBast, tZast, tAast, tIret, tZret, tVret, tAret, tIf, tIf2, tGoto, tIstore, tAstore, sset, tIinc, tDup, tDup2, tPop, tPutI, tPutZ, tPutR, tCallV, tCallS, popN, tFn, tCopy, tMax, tMin, tSw, swc, tRem, tObjI, Option.toList, List.nil_append, List.cons_append, okR, true_and, and_true, true_or, or_true, Nat.zero_le, ne_eq, not_false_eq_true, Nat.reduceEqDiff, F_X12_begins, F_X12_actBeat, F_X12_ends, hS0, hS, e0, e1]
    rw [show upF (upI μ 2737 0 0) 2741 (cpF (μ 2738) (μ 2741) 0 0 4516) = M5 μ from rfl, (M5_at μ).1]
    refine ⟨hg, fun t g => ⟨?_, ?_⟩⟩
    · rw [M4_f (by decide), (M5_at μ).2.2.1]; exact h1
    · exact act_end (Q := fun ν => Rp (some (.int (aBeat (μ 2738) x).1)) S ν ρ) h
  · exact h.elim
def w_X12_propose_0 (M : CT) (G : Nat → PT) (Rp : RT) : PT := tAload 0 <| tConst 0 <| tPutI 12 27 0 <| tAload 0 <| tFn 1 F_X12_begins <| tAload 0 <| tAload 0 <| tIload 1 <| tIload 2 <| tIload 3 <| tIload 4 <| tFn 5 F_X12_actPropose <| tFn 2 F_X12_ends <| tIret Rp
set_option maxRecDepth 20000 in
theorem b_X12_propose_0 {Z : Zt} {d : Nat} {p : Program} {e : Env} {R : Room} {s : State} {m : MethodId} {args : Array Value} {below : List Frame} {meth : Method} {c : Code} {Rp : RT} (C : Cx Z (d + 9) jX12_propose RX12 p R s m args meth c) : Sd Z jX12_propose p e R s m args below meth c (MQ below (QcS Z Rp) args s 0 0 (fun a => Z.2.2.1 < a)) 0 (w_X12_propose_0 (MS Z (d + 9)) (Gw Z 5 p e R s m args below meth c (MQ below (QcS Z Rp) args s 0 0 (fun a => Z.2.2.1 < a))) Rp) := by
  unfold w_X12_propose_0
  refine s_aload_n (k := 0) C (by decide +kernel) ?_
  refine s_iconst (n := 0) C (by decide +kernel) (by decide) ?_
  refine s_putI C w_6_87 (by decide +kernel) rfl (Or.inl rfl) ?_
  refine s_aload_n (k := 0) C (by decide +kernel) ?_
  refine s_fnV C (j2 := jX12_begins) (cl := 12) (nf := 27) rfl rfl (by decide +kernel) rfl w_6_178 w_6_180 w_p3_5 w_1_13 w_6_181 (by decide +kernel) (fun _ _ _ _ _ h => f_X12_begins h) (fun _ _ _ _ _ h => r_X12_begins h) ?_
  refine s_aload_n (k := 0) C (by decide +kernel) ?_
  refine s_aload_n (k := 0) C (by decide +kernel) ?_
  refine s_iload_n (k := 1) C (by decide +kernel) ?_
  refine s_iload_n (k := 2) C (by decide +kernel) ?_
  refine s_iload_n (k := 3) C (by decide +kernel) ?_
  refine s_iload (k := 4) C (by decide +kernel) ?_
  refine s_fnV C (j2 := jX12_actPropose) (cl := 12) (nf := 27) rfl rfl (by decide +kernel) rfl w_7_85 w_7_87 w_p5_1 w_1_13 w_7_88 (by decide +kernel) (fun _ _ _ _ _ h => f_X12_actPropose h) (fun _ _ _ _ _ h => r_X12_actPropose h) ?_
  refine s_fnV C (j2 := jX12_ends) (cl := 12) (nf := 27) rfl rfl (by decide +kernel) rfl w_6_188 w_6_190 w_p3_6 w_1_13 w_6_191 (by decide +kernel) (fun _ _ _ _ _ h => f_X12_ends h) (fun _ _ _ _ _ h => r_X12_ends h) ?_
  exact s_iret C rfl (by decide +kernel)
theorem ms_X12_propose {Z : Zt} {d : Nat} {S : Sh} {μ : Mi} {ρ : Mr} {Rp : RT} (a0 : Nat) (x1 : Int32) (x2 : Int32) (x3 : Int32) (x4 : Int32) (h : ∀ G : Nat → PT, w_X12_propose_0 (MS Z (d + 9)) G Rp [.ref a0, .int x1, .int x2, .int x3, .int x4] [] S (0, 0) μ ρ) : MS Z (d + 10) jX12_propose [.ref a0, .int x1, .int x2, .int x3, .int x4] S μ ρ Rp :=
  MS_of [.ref a0, .int x1, .int x2, .int x3, .int x4] (by decide +kernel) rfl rfl (Nat.le_of_ble_eq_true rfl) rfl (fun p e R s m args below meth c C => b_X12_propose_0 C _ _ _ _ _ _ (h _ ))
def F_X12_propose : FT := fun As S μ ρ k => match As with
  | [.ref a, .int x, .int y, .int z, .int w] => a = 2737 ∧ RS S ρ ∧ good (μ 2738) ∧ rg (μ 2737 6) 0 8 ∧ ∀ μ', RQ μ μ' (aPropose (μ 2738) x y z w).2 (if (aPropose (μ 2738) x y z w).1 < 0 then μ 2739 else (pushD (μ 2738) (μ 2739) (μ 2737 6)).1) (if (aPropose (μ 2738) x y z w).1 < 0 then μ 2737 6 else (pushD (μ 2738) (μ 2739) (μ 2737 6)).2) → k (some (.int (aPropose (μ 2738) x y z w).1)) μ'
  | _ => False
theorem r_X12_propose {As S μ ρ k} (h : F_X12_propose As S μ ρ k) : ∃ a As', As = Value.ref a :: As' ∧ S.2 a = (12, 27) := by
  unfold F_X12_propose at h
  split at h
  · exact ⟨_, _, rfl, by rw [h.1]; exact h.2.1.1⟩
  · exact h.elim
set_option maxHeartbeats 1000000 in
theorem f_X12_propose {Z : Zt} {d : Nat} {As : List Value} {S : Sh} {μ : Mi} {ρ : Mr} {Rp : RT} (h : F_X12_propose As S μ ρ (fun r μ' => Rp r S μ' ρ)) : MS Z (d + 10) jX12_propose As S μ ρ Rp := by
  unfold F_X12_propose at h
  split at h
  · rename_i a x y z w
    obtain ⟨rfl, hS, h⟩ := h
    have hS0 := hS
    unfold RS at hS
    obtain ⟨hg, h1, h⟩ := h
    refine ms_X12_propose _ _ _ _ _ (fun G => ?_)
    have e0 : upI μ 2737 0 0 2738 = μ 2738 := by rw [upI_upF, upF_ne (by decide)]
    have e1 : upI μ 2737 0 0 2741 = μ 2741 := by rw [upI_upF, upF_ne (by decide)]
    simp only [w_X12_propose_0, tAload, tIload, nth, tGetI, tGetR, tConst, tLconst, tBin, tUn, tI2l, tAld, tAldR, tAlen, tIast, tBast, tZast, tAast, tIret, tZret, tVret, tAret, tIf, tIf2, tGoto, tIstore, tAstore, sset, tIinc, tDup, tDup2, tPop, tPutI, tPutZ, tPutR, tCallV, tCallS, popN, tFn, tCopy, tMax, tMin, tSw, swc, tRem, tObjI, Option.toList, List.nil_append, List.cons_append, okR, true_and, and_true, true_or, or_true, Nat.zero_le, ne_eq, not_false_eq_true, Nat.reduceEqDiff, F_X12_begins, F_X12_actPropose, F_X12_ends, hS0, hS, e0, e1]
    rw [show upF (upI μ 2737 0 0) 2741 (cpF (μ 2738) (μ 2741) 0 0 4516) = M5 μ from rfl, (M5_at μ).1]
    refine ⟨hg, fun t g => ⟨?_, ?_⟩⟩
    · rw [M4_f (by decide), (M5_at μ).2.2.1]; exact h1
    · exact act_end (Q := fun ν => Rp (some (.int (aPropose (μ 2738) x y z w).1)) S ν ρ) h
  · exact h.elim
def w_X12_read_0 (M : CT) (G : Nat → PT) (Rp : RT) : PT := tAload 0 <| tConst 0 <| tPutI 12 27 0 <| tAload 0 <| tFn 1 F_X12_begins <| tAload 0 <| tAload 0 <| tIload 1 <| tIload 2 <| tFn 3 F_X12_actRead <| tFn 2 F_X12_ends <| tIret Rp
set_option maxRecDepth 20000 in
theorem b_X12_read_0 {Z : Zt} {d : Nat} {p : Program} {e : Env} {R : Room} {s : State} {m : MethodId} {args : Array Value} {below : List Frame} {meth : Method} {c : Code} {Rp : RT} (C : Cx Z (d + 6) jX12_read RX12 p R s m args meth c) : Sd Z jX12_read p e R s m args below meth c (MQ below (QcS Z Rp) args s 0 0 (fun a => Z.2.2.1 < a)) 0 (w_X12_read_0 (MS Z (d + 6)) (Gw Z 3 p e R s m args below meth c (MQ below (QcS Z Rp) args s 0 0 (fun a => Z.2.2.1 < a))) Rp) := by
  unfold w_X12_read_0
  refine s_aload_n (k := 0) C (by decide +kernel) ?_
  refine s_iconst (n := 0) C (by decide +kernel) (by decide) ?_
  refine s_putI C w_6_87 (by decide +kernel) rfl (Or.inl rfl) ?_
  refine s_aload_n (k := 0) C (by decide +kernel) ?_
  refine s_fnV C (j2 := jX12_begins) (cl := 12) (nf := 27) rfl rfl (by decide +kernel) rfl w_6_178 w_6_180 w_p3_5 w_1_13 w_6_181 (by decide +kernel) (fun _ _ _ _ _ h => f_X12_begins h) (fun _ _ _ _ _ h => r_X12_begins h) ?_
  refine s_aload_n (k := 0) C (by decide +kernel) ?_
  refine s_aload_n (k := 0) C (by decide +kernel) ?_
  refine s_iload_n (k := 1) C (by decide +kernel) ?_
  refine s_iload_n (k := 2) C (by decide +kernel) ?_
  refine s_fnV C (j2 := jX12_actRead) (cl := 12) (nf := 27) rfl rfl (by decide +kernel) rfl w_7_104 w_7_106 w_p5_3 w_1_13 w_7_107 (by decide +kernel) (fun _ _ _ _ _ h => f_X12_actRead h) (fun _ _ _ _ _ h => r_X12_actRead h) ?_
  refine s_fnV C (j2 := jX12_ends) (cl := 12) (nf := 27) rfl rfl (by decide +kernel) rfl w_6_188 w_6_190 w_p3_6 w_1_13 w_6_191 (by decide +kernel) (fun _ _ _ _ _ h => f_X12_ends h) (fun _ _ _ _ _ h => r_X12_ends h) ?_
  exact s_iret C rfl (by decide +kernel)
theorem ms_X12_read {Z : Zt} {d : Nat} {S : Sh} {μ : Mi} {ρ : Mr} {Rp : RT} (a0 : Nat) (x1 : Int32) (x2 : Int32) (h : ∀ G : Nat → PT, w_X12_read_0 (MS Z (d + 6)) G Rp [.ref a0, .int x1, .int x2] [] S (0, 0) μ ρ) : MS Z (d + 7) jX12_read [.ref a0, .int x1, .int x2] S μ ρ Rp :=
  MS_of [.ref a0, .int x1, .int x2] (by decide +kernel) rfl rfl (Nat.le_of_ble_eq_true rfl) rfl (fun p e R s m args below meth c C => b_X12_read_0 C _ _ _ _ _ _ (h _ ))
def F_X12_read : FT := fun As S μ ρ k => match As with
  | [.ref a, .int x, .int y] => a = 2737 ∧ RS S ρ ∧ good (μ 2738) ∧ rg (μ 2737 6) 0 8 ∧ ∀ μ', RQ μ μ' (aRead (μ 2738) x y).2 (if (aRead (μ 2738) x y).1 < 0 then μ 2739 else (pushD (μ 2738) (μ 2739) (μ 2737 6)).1) (if (aRead (μ 2738) x y).1 < 0 then μ 2737 6 else (pushD (μ 2738) (μ 2739) (μ 2737 6)).2) → k (some (.int (aRead (μ 2738) x y).1)) μ'
  | _ => False
theorem r_X12_read {As S μ ρ k} (h : F_X12_read As S μ ρ k) : ∃ a As', As = Value.ref a :: As' ∧ S.2 a = (12, 27) := by
  unfold F_X12_read at h
  split at h
  · exact ⟨_, _, rfl, by rw [h.1]; exact h.2.1.1⟩
  · exact h.elim
set_option maxHeartbeats 1000000 in
theorem f_X12_read {Z : Zt} {d : Nat} {As : List Value} {S : Sh} {μ : Mi} {ρ : Mr} {Rp : RT} (h : F_X12_read As S μ ρ (fun r μ' => Rp r S μ' ρ)) : MS Z (d + 7) jX12_read As S μ ρ Rp := by
  unfold F_X12_read at h
  split at h
  · rename_i a x y
    obtain ⟨rfl, hS, h⟩ := h
    have hS0 := hS
    unfold RS at hS
    obtain ⟨hg, h1, h⟩ := h
    refine ms_X12_read _ _ _ (fun G => ?_)
    have e0 : upI μ 2737 0 0 2738 = μ 2738 := by rw [upI_upF, upF_ne (by decide)]
    have e1 : upI μ 2737 0 0 2741 = μ 2741 := by rw [upI_upF, upF_ne (by decide)]
    simp only [w_X12_read_0, tAload, tIload, nth, tGetI, tGetR, tConst, tLconst, tBin, tUn, tI2l, tAld, tAldR, tAlen, tIast, tBast, tZast, tAast, tIret, tZret, tVret, tAret, tIf, tIf2, tGoto, tIstore, tAstore, sset, tIinc, tDup, tDup2, tPop, tPutI, tPutZ, tPutR, tCallV, tCallS, popN, tFn, tCopy, tMax, tMin, tSw, swc, tRem, tObjI, Option.toList, List.nil_append, List.cons_append, okR, true_and, and_true, true_or, or_true, Nat.zero_le, ne_eq, not_false_eq_true, Nat.reduceEqDiff, F_X12_begins, F_X12_actRead, F_X12_ends, hS0, hS, e0, e1]
    rw [show upF (upI μ 2737 0 0) 2741 (cpF (μ 2738) (μ 2741) 0 0 4516) = M5 μ from rfl, (M5_at μ).1]
    refine ⟨hg, fun t g => ⟨?_, ?_⟩⟩
    · rw [M4_f (by decide), (M5_at μ).2.2.1]; exact h1
    · exact act_end (Q := fun ν => Rp (some (.int (aRead (μ 2738) x y).1)) S ν ρ) h
  · exact h.elim
def w_X12_hand_0 (M : CT) (G : Nat → PT) (Rp : RT) : PT := tAload 0 <| tConst 0 <| tPutI 12 27 0 <| tAload 0 <| tFn 1 F_X12_begins <| tAload 0 <| tAload 0 <| tIload 1 <| tIload 2 <| tFn 3 F_X12_actHand <| tFn 2 F_X12_ends <| tIret Rp
set_option maxRecDepth 20000 in
theorem b_X12_hand_0 {Z : Zt} {d : Nat} {p : Program} {e : Env} {R : Room} {s : State} {m : MethodId} {args : Array Value} {below : List Frame} {meth : Method} {c : Code} {Rp : RT} (C : Cx Z (d + 5) jX12_hand RX12 p R s m args meth c) : Sd Z jX12_hand p e R s m args below meth c (MQ below (QcS Z Rp) args s 0 0 (fun a => Z.2.2.1 < a)) 0 (w_X12_hand_0 (MS Z (d + 5)) (Gw Z 3 p e R s m args below meth c (MQ below (QcS Z Rp) args s 0 0 (fun a => Z.2.2.1 < a))) Rp) := by
  unfold w_X12_hand_0
  refine s_aload_n (k := 0) C (by decide +kernel) ?_
  refine s_iconst (n := 0) C (by decide +kernel) (by decide) ?_
  refine s_putI C w_6_87 (by decide +kernel) rfl (Or.inl rfl) ?_
  refine s_aload_n (k := 0) C (by decide +kernel) ?_
  refine s_fnV C (j2 := jX12_begins) (cl := 12) (nf := 27) rfl rfl (by decide +kernel) rfl w_6_178 w_6_180 w_p3_5 w_1_13 w_6_181 (by decide +kernel) (fun _ _ _ _ _ h => f_X12_begins h) (fun _ _ _ _ _ h => r_X12_begins h) ?_
  refine s_aload_n (k := 0) C (by decide +kernel) ?_
  refine s_aload_n (k := 0) C (by decide +kernel) ?_
  refine s_iload_n (k := 1) C (by decide +kernel) ?_
  refine s_iload_n (k := 2) C (by decide +kernel) ?_
  refine s_fnV C (j2 := jX12_actHand) (cl := 12) (nf := 27) rfl rfl (by decide +kernel) rfl w_7_116 w_7_118 w_p5_5 w_1_13 w_7_119 (by decide +kernel) (fun _ _ _ _ _ h => f_X12_actHand h) (fun _ _ _ _ _ h => r_X12_actHand h) ?_
  refine s_fnV C (j2 := jX12_ends) (cl := 12) (nf := 27) rfl rfl (by decide +kernel) rfl w_6_188 w_6_190 w_p3_6 w_1_13 w_6_191 (by decide +kernel) (fun _ _ _ _ _ h => f_X12_ends h) (fun _ _ _ _ _ h => r_X12_ends h) ?_
  exact s_iret C rfl (by decide +kernel)
theorem ms_X12_hand {Z : Zt} {d : Nat} {S : Sh} {μ : Mi} {ρ : Mr} {Rp : RT} (a0 : Nat) (x1 : Int32) (x2 : Int32) (h : ∀ G : Nat → PT, w_X12_hand_0 (MS Z (d + 5)) G Rp [.ref a0, .int x1, .int x2] [] S (0, 0) μ ρ) : MS Z (d + 6) jX12_hand [.ref a0, .int x1, .int x2] S μ ρ Rp :=
  MS_of [.ref a0, .int x1, .int x2] (by decide +kernel) rfl rfl (Nat.le_of_ble_eq_true rfl) rfl (fun p e R s m args below meth c C => b_X12_hand_0 C _ _ _ _ _ _ (h _ ))
def F_X12_hand : FT := fun As S μ ρ k => match As with
  | [.ref a, .int x, .int y] => a = 2737 ∧ RS S ρ ∧ good (μ 2738) ∧ rg (μ 2737 6) 0 8 ∧ ∀ μ', RQ μ μ' (aHand (μ 2738) x y).2 (if (aHand (μ 2738) x y).1 < 0 then μ 2739 else (pushD (μ 2738) (μ 2739) (μ 2737 6)).1) (if (aHand (μ 2738) x y).1 < 0 then μ 2737 6 else (pushD (μ 2738) (μ 2739) (μ 2737 6)).2) → k (some (.int (aHand (μ 2738) x y).1)) μ'
  | _ => False
theorem r_X12_hand {As S μ ρ k} (h : F_X12_hand As S μ ρ k) : ∃ a As', As = Value.ref a :: As' ∧ S.2 a = (12, 27) := by
  unfold F_X12_hand at h
  split at h
  · exact ⟨_, _, rfl, by rw [h.1]; exact h.2.1.1⟩
  · exact h.elim
set_option maxHeartbeats 1000000 in
theorem f_X12_hand {Z : Zt} {d : Nat} {As : List Value} {S : Sh} {μ : Mi} {ρ : Mr} {Rp : RT} (h : F_X12_hand As S μ ρ (fun r μ' => Rp r S μ' ρ)) : MS Z (d + 6) jX12_hand As S μ ρ Rp := by
  unfold F_X12_hand at h
  split at h
  · rename_i a x y
    obtain ⟨rfl, hS, h⟩ := h
    have hS0 := hS
    unfold RS at hS
    obtain ⟨hg, h1, h⟩ := h
    refine ms_X12_hand _ _ _ (fun G => ?_)
    have e0 : upI μ 2737 0 0 2738 = μ 2738 := by rw [upI_upF, upF_ne (by decide)]
    have e1 : upI μ 2737 0 0 2741 = μ 2741 := by rw [upI_upF, upF_ne (by decide)]
    simp only [w_X12_hand_0, tAload, tIload, nth, tGetI, tGetR, tConst, tLconst, tBin, tUn, tI2l, tAld, tAldR, tAlen, tIast, tBast, tZast, tAast, tIret, tZret, tVret, tAret, tIf, tIf2, tGoto, tIstore, tAstore, sset, tIinc, tDup, tDup2, tPop, tPutI, tPutZ, tPutR, tCallV, tCallS, popN, tFn, tCopy, tMax, tMin, tSw, swc, tRem, tObjI, Option.toList, List.nil_append, List.cons_append, okR, true_and, and_true, true_or, or_true, Nat.zero_le, ne_eq, not_false_eq_true, Nat.reduceEqDiff, F_X12_begins, F_X12_actHand, F_X12_ends, hS0, hS, e0, e1]
    rw [show upF (upI μ 2737 0 0) 2741 (cpF (μ 2738) (μ 2741) 0 0 4516) = M5 μ from rfl, (M5_at μ).1]
    refine ⟨hg, fun t g => ⟨?_, ?_⟩⟩
    · rw [M4_f (by decide), (M5_at μ).2.2.1]; exact h1
    · exact act_end (Q := fun ν => Rp (some (.int (aHand (μ 2738) x y).1)) S ν ρ) h
  · exact h.elim
def w_X12_change_0 (M : CT) (G : Nat → PT) (Rp : RT) : PT := tAload 0 <| tConst 0 <| tPutI 12 27 0 <| tAload 0 <| tFn 1 F_X12_begins <| tAload 0 <| tAload 0 <| tIload 1 <| tIload 2 <| tFn 3 F_X12_actChange <| tFn 2 F_X12_ends <| tIret Rp
set_option maxRecDepth 20000 in
theorem b_X12_change_0 {Z : Zt} {d : Nat} {p : Program} {e : Env} {R : Room} {s : State} {m : MethodId} {args : Array Value} {below : List Frame} {meth : Method} {c : Code} {Rp : RT} (C : Cx Z (d + 9) jX12_change RX12 p R s m args meth c) : Sd Z jX12_change p e R s m args below meth c (MQ below (QcS Z Rp) args s 0 0 (fun a => Z.2.2.1 < a)) 0 (w_X12_change_0 (MS Z (d + 9)) (Gw Z 3 p e R s m args below meth c (MQ below (QcS Z Rp) args s 0 0 (fun a => Z.2.2.1 < a))) Rp) := by
  unfold w_X12_change_0
  refine s_aload_n (k := 0) C (by decide +kernel) ?_
  refine s_iconst (n := 0) C (by decide +kernel) (by decide) ?_
  refine s_putI C w_6_87 (by decide +kernel) rfl (Or.inl rfl) ?_
  refine s_aload_n (k := 0) C (by decide +kernel) ?_
  refine s_fnV C (j2 := jX12_begins) (cl := 12) (nf := 27) rfl rfl (by decide +kernel) rfl w_6_178 w_6_180 w_p3_5 w_1_13 w_6_181 (by decide +kernel) (fun _ _ _ _ _ h => f_X12_begins h) (fun _ _ _ _ _ h => r_X12_begins h) ?_
  refine s_aload_n (k := 0) C (by decide +kernel) ?_
  refine s_aload_n (k := 0) C (by decide +kernel) ?_
  refine s_iload_n (k := 1) C (by decide +kernel) ?_
  refine s_iload_n (k := 2) C (by decide +kernel) ?_
  refine s_fnV C (j2 := jX12_actChange) (cl := 12) (nf := 27) rfl rfl (by decide +kernel) rfl w_7_124 w_7_126 w_p5_6 w_1_13 w_7_127 (by decide +kernel) (fun _ _ _ _ _ h => f_X12_actChange h) (fun _ _ _ _ _ h => r_X12_actChange h) ?_
  refine s_fnV C (j2 := jX12_ends) (cl := 12) (nf := 27) rfl rfl (by decide +kernel) rfl w_6_188 w_6_190 w_p3_6 w_1_13 w_6_191 (by decide +kernel) (fun _ _ _ _ _ h => f_X12_ends h) (fun _ _ _ _ _ h => r_X12_ends h) ?_
  exact s_iret C rfl (by decide +kernel)
theorem ms_X12_change {Z : Zt} {d : Nat} {S : Sh} {μ : Mi} {ρ : Mr} {Rp : RT} (a0 : Nat) (x1 : Int32) (x2 : Int32) (h : ∀ G : Nat → PT, w_X12_change_0 (MS Z (d + 9)) G Rp [.ref a0, .int x1, .int x2] [] S (0, 0) μ ρ) : MS Z (d + 10) jX12_change [.ref a0, .int x1, .int x2] S μ ρ Rp :=
  MS_of [.ref a0, .int x1, .int x2] (by decide +kernel) rfl rfl (Nat.le_of_ble_eq_true rfl) rfl (fun p e R s m args below meth c C => b_X12_change_0 C _ _ _ _ _ _ (h _ ))
def F_X12_change : FT := fun As S μ ρ k => match As with
  | [.ref a, .int x, .int y] => a = 2737 ∧ RS S ρ ∧ good (μ 2738) ∧ rg (μ 2737 6) 0 8 ∧ ∀ μ', RQ μ μ' (aChange (μ 2738) x y).2 (if (aChange (μ 2738) x y).1 < 0 then μ 2739 else (pushD (μ 2738) (μ 2739) (μ 2737 6)).1) (if (aChange (μ 2738) x y).1 < 0 then μ 2737 6 else (pushD (μ 2738) (μ 2739) (μ 2737 6)).2) → k (some (.int (aChange (μ 2738) x y).1)) μ'
  | _ => False
theorem r_X12_change {As S μ ρ k} (h : F_X12_change As S μ ρ k) : ∃ a As', As = Value.ref a :: As' ∧ S.2 a = (12, 27) := by
  unfold F_X12_change at h
  split at h
  · exact ⟨_, _, rfl, by rw [h.1]; exact h.2.1.1⟩
  · exact h.elim
set_option maxHeartbeats 1000000 in
theorem f_X12_change {Z : Zt} {d : Nat} {As : List Value} {S : Sh} {μ : Mi} {ρ : Mr} {Rp : RT} (h : F_X12_change As S μ ρ (fun r μ' => Rp r S μ' ρ)) : MS Z (d + 10) jX12_change As S μ ρ Rp := by
  unfold F_X12_change at h
  split at h
  · rename_i a x y
    obtain ⟨rfl, hS, h⟩ := h
    have hS0 := hS
    unfold RS at hS
    obtain ⟨hg, h1, h⟩ := h
    refine ms_X12_change _ _ _ (fun G => ?_)
    have e0 : upI μ 2737 0 0 2738 = μ 2738 := by rw [upI_upF, upF_ne (by decide)]
    have e1 : upI μ 2737 0 0 2741 = μ 2741 := by rw [upI_upF, upF_ne (by decide)]
    simp only [w_X12_change_0, tAload, tIload, nth, tGetI, tGetR, tConst, tLconst, tBin, tUn, tI2l, tAld, tAldR, tAlen, tIast, tBast, tZast, tAast, tIret, tZret, tVret, tAret, tIf, tIf2, tGoto, tIstore, tAstore, sset, tIinc, tDup, tDup2, tPop, tPutI, tPutZ, tPutR, tCallV, tCallS, popN, tFn, tCopy, tMax, tMin, tSw, swc, tRem, tObjI, Option.toList, List.nil_append, List.cons_append, okR, true_and, and_true, true_or, or_true, Nat.zero_le, ne_eq, not_false_eq_true, Nat.reduceEqDiff, F_X12_begins, F_X12_actChange, F_X12_ends, hS0, hS, e0, e1]
    rw [show upF (upI μ 2737 0 0) 2741 (cpF (μ 2738) (μ 2741) 0 0 4516) = M5 μ from rfl, (M5_at μ).1]
    refine ⟨hg, fun t g => ⟨?_, ?_⟩⟩
    · rw [M4_f (by decide), (M5_at μ).2.2.1]; exact h1
    · exact act_end (Q := fun ν => Rp (some (.int (aChange (μ 2738) x y).1)) S ν ρ) h
  · exact h.elim
def w_X12_compact_0 (M : CT) (G : Nat → PT) (Rp : RT) : PT := tAload 0 <| tConst 0 <| tPutI 12 27 0 <| tAload 0 <| tFn 1 F_X12_begins <| tAload 0 <| tAload 0 <| tIload 1 <| tFn 2 F_X12_actCompact <| tFn 2 F_X12_ends <| tIret Rp
set_option maxRecDepth 20000 in
theorem b_X12_compact_0 {Z : Zt} {d : Nat} {p : Program} {e : Env} {R : Room} {s : State} {m : MethodId} {args : Array Value} {below : List Frame} {meth : Method} {c : Code} {Rp : RT} (C : Cx Z (d + 4) jX12_compact RX12 p R s m args meth c) : Sd Z jX12_compact p e R s m args below meth c (MQ below (QcS Z Rp) args s 0 0 (fun a => Z.2.2.1 < a)) 0 (w_X12_compact_0 (MS Z (d + 4)) (Gw Z 2 p e R s m args below meth c (MQ below (QcS Z Rp) args s 0 0 (fun a => Z.2.2.1 < a))) Rp) := by
  unfold w_X12_compact_0
  refine s_aload_n (k := 0) C (by decide +kernel) ?_
  refine s_iconst (n := 0) C (by decide +kernel) (by decide) ?_
  refine s_putI C w_6_87 (by decide +kernel) rfl (Or.inl rfl) ?_
  refine s_aload_n (k := 0) C (by decide +kernel) ?_
  refine s_fnV C (j2 := jX12_begins) (cl := 12) (nf := 27) rfl rfl (by decide +kernel) rfl w_6_178 w_6_180 w_p3_5 w_1_13 w_6_181 (by decide +kernel) (fun _ _ _ _ _ h => f_X12_begins h) (fun _ _ _ _ _ h => r_X12_begins h) ?_
  refine s_aload_n (k := 0) C (by decide +kernel) ?_
  refine s_aload_n (k := 0) C (by decide +kernel) ?_
  refine s_iload_n (k := 1) C (by decide +kernel) ?_
  refine s_fnV C (j2 := jX12_actCompact) (cl := 12) (nf := 27) rfl rfl (by decide +kernel) rfl w_7_132 w_7_134 w_p5_7 w_1_13 w_7_135 (by decide +kernel) (fun _ _ _ _ _ h => f_X12_actCompact h) (fun _ _ _ _ _ h => r_X12_actCompact h) ?_
  refine s_fnV C (j2 := jX12_ends) (cl := 12) (nf := 27) rfl rfl (by decide +kernel) rfl w_6_188 w_6_190 w_p3_6 w_1_13 w_6_191 (by decide +kernel) (fun _ _ _ _ _ h => f_X12_ends h) (fun _ _ _ _ _ h => r_X12_ends h) ?_
  exact s_iret C rfl (by decide +kernel)
theorem ms_X12_compact {Z : Zt} {d : Nat} {S : Sh} {μ : Mi} {ρ : Mr} {Rp : RT} (a0 : Nat) (x1 : Int32) (h : ∀ G : Nat → PT, w_X12_compact_0 (MS Z (d + 4)) G Rp [.ref a0, .int x1] [] S (0, 0) μ ρ) : MS Z (d + 5) jX12_compact [.ref a0, .int x1] S μ ρ Rp :=
  MS_of [.ref a0, .int x1] (by decide +kernel) rfl rfl (Nat.le_of_ble_eq_true rfl) rfl (fun p e R s m args below meth c C => b_X12_compact_0 C _ _ _ _ _ _ (h _ ))
def F_X12_compact : FT := fun As S μ ρ k => match As with
  | [.ref a, .int x] => a = 2737 ∧ RS S ρ ∧ good (μ 2738) ∧ rg (μ 2737 6) 0 8 ∧ ∀ μ', RQ μ μ' (aCompact (μ 2738) x).2 (if (aCompact (μ 2738) x).1 < 0 then μ 2739 else (pushD (μ 2738) (μ 2739) (μ 2737 6)).1) (if (aCompact (μ 2738) x).1 < 0 then μ 2737 6 else (pushD (μ 2738) (μ 2739) (μ 2737 6)).2) → k (some (.int (aCompact (μ 2738) x).1)) μ'
  | _ => False
theorem r_X12_compact {As S μ ρ k} (h : F_X12_compact As S μ ρ k) : ∃ a As', As = Value.ref a :: As' ∧ S.2 a = (12, 27) := by
  unfold F_X12_compact at h
  split at h
  · exact ⟨_, _, rfl, by rw [h.1]; exact h.2.1.1⟩
  · exact h.elim
set_option maxHeartbeats 1000000 in
theorem f_X12_compact {Z : Zt} {d : Nat} {As : List Value} {S : Sh} {μ : Mi} {ρ : Mr} {Rp : RT} (h : F_X12_compact As S μ ρ (fun r μ' => Rp r S μ' ρ)) : MS Z (d + 5) jX12_compact As S μ ρ Rp := by
  unfold F_X12_compact at h
  split at h
  · rename_i a x
    obtain ⟨rfl, hS, h⟩ := h
    have hS0 := hS
    unfold RS at hS
    obtain ⟨hg, h1, h⟩ := h
    refine ms_X12_compact _ _ (fun G => ?_)
    have e0 : upI μ 2737 0 0 2738 = μ 2738 := by rw [upI_upF, upF_ne (by decide)]
    have e1 : upI μ 2737 0 0 2741 = μ 2741 := by rw [upI_upF, upF_ne (by decide)]
    simp only [w_X12_compact_0, tAload, tIload, nth, tGetI, tGetR, tConst, tLconst, tBin, tUn, tI2l, tAld, tAldR, tAlen, tIast, tBast, tZast, tAast, tIret, tZret, tVret, tAret, tIf, tIf2, tGoto, tIstore, tAstore, sset, tIinc, tDup, tDup2, tPop, tPutI, tPutZ, tPutR, tCallV, tCallS, popN, tFn, tCopy, tMax, tMin, tSw, swc, tRem, tObjI, Option.toList, List.nil_append, List.cons_append, okR, true_and, and_true, true_or, or_true, Nat.zero_le, ne_eq, not_false_eq_true, Nat.reduceEqDiff, F_X12_begins, F_X12_actCompact, F_X12_ends, hS0, hS, e0, e1]
    rw [show upF (upI μ 2737 0 0) 2741 (cpF (μ 2738) (μ 2741) 0 0 4516) = M5 μ from rfl, (M5_at μ).1]
    refine ⟨hg, fun t g => ⟨?_, ?_⟩⟩
    · rw [M4_f (by decide), (M5_at μ).2.2.1]; exact h1
    · exact act_end (Q := fun ν => Rp (some (.int (aCompact (μ 2738) x).1)) S ν ρ) h
  · exact h.elim
def w_X12_stop_0 (M : CT) (G : Nat → PT) (Rp : RT) : PT := tAload 0 <| tConst 0 <| tPutI 12 27 0 <| tAload 0 <| tFn 1 F_X12_begins <| tAload 0 <| tAload 0 <| tIload 1 <| tFn 2 F_X12_actStop <| tFn 2 F_X12_ends <| tIret Rp
set_option maxRecDepth 20000 in
theorem b_X12_stop_0 {Z : Zt} {d : Nat} {p : Program} {e : Env} {R : Room} {s : State} {m : MethodId} {args : Array Value} {below : List Frame} {meth : Method} {c : Code} {Rp : RT} (C : Cx Z (d + 4) jX12_stop RX12 p R s m args meth c) : Sd Z jX12_stop p e R s m args below meth c (MQ below (QcS Z Rp) args s 0 0 (fun a => Z.2.2.1 < a)) 0 (w_X12_stop_0 (MS Z (d + 4)) (Gw Z 2 p e R s m args below meth c (MQ below (QcS Z Rp) args s 0 0 (fun a => Z.2.2.1 < a))) Rp) := by
  unfold w_X12_stop_0
  refine s_aload_n (k := 0) C (by decide +kernel) ?_
  refine s_iconst (n := 0) C (by decide +kernel) (by decide) ?_
  refine s_putI C w_6_87 (by decide +kernel) rfl (Or.inl rfl) ?_
  refine s_aload_n (k := 0) C (by decide +kernel) ?_
  refine s_fnV C (j2 := jX12_begins) (cl := 12) (nf := 27) rfl rfl (by decide +kernel) rfl w_6_178 w_6_180 w_p3_5 w_1_13 w_6_181 (by decide +kernel) (fun _ _ _ _ _ h => f_X12_begins h) (fun _ _ _ _ _ h => r_X12_begins h) ?_
  refine s_aload_n (k := 0) C (by decide +kernel) ?_
  refine s_aload_n (k := 0) C (by decide +kernel) ?_
  refine s_iload_n (k := 1) C (by decide +kernel) ?_
  refine s_fnV C (j2 := jX12_actStop) (cl := 12) (nf := 27) rfl rfl (by decide +kernel) rfl w_7_140 w_7_142 w_p5_8 w_1_13 w_7_143 (by decide +kernel) (fun _ _ _ _ _ h => f_X12_actStop h) (fun _ _ _ _ _ h => r_X12_actStop h) ?_
  refine s_fnV C (j2 := jX12_ends) (cl := 12) (nf := 27) rfl rfl (by decide +kernel) rfl w_6_188 w_6_190 w_p3_6 w_1_13 w_6_191 (by decide +kernel) (fun _ _ _ _ _ h => f_X12_ends h) (fun _ _ _ _ _ h => r_X12_ends h) ?_
  exact s_iret C rfl (by decide +kernel)
theorem ms_X12_stop {Z : Zt} {d : Nat} {S : Sh} {μ : Mi} {ρ : Mr} {Rp : RT} (a0 : Nat) (x1 : Int32) (h : ∀ G : Nat → PT, w_X12_stop_0 (MS Z (d + 4)) G Rp [.ref a0, .int x1] [] S (0, 0) μ ρ) : MS Z (d + 5) jX12_stop [.ref a0, .int x1] S μ ρ Rp :=
  MS_of [.ref a0, .int x1] (by decide +kernel) rfl rfl (Nat.le_of_ble_eq_true rfl) rfl (fun p e R s m args below meth c C => b_X12_stop_0 C _ _ _ _ _ _ (h _ ))
def F_X12_stop : FT := fun As S μ ρ k => match As with
  | [.ref a, .int x] => a = 2737 ∧ RS S ρ ∧ good (μ 2738) ∧ rg (μ 2737 6) 0 8 ∧ ∀ μ', RQ μ μ' (aStop (μ 2738) x).2 (if (aStop (μ 2738) x).1 < 0 then μ 2739 else (pushD (μ 2738) (μ 2739) (μ 2737 6)).1) (if (aStop (μ 2738) x).1 < 0 then μ 2737 6 else (pushD (μ 2738) (μ 2739) (μ 2737 6)).2) → k (some (.int (aStop (μ 2738) x).1)) μ'
  | _ => False
theorem r_X12_stop {As S μ ρ k} (h : F_X12_stop As S μ ρ k) : ∃ a As', As = Value.ref a :: As' ∧ S.2 a = (12, 27) := by
  unfold F_X12_stop at h
  split at h
  · exact ⟨_, _, rfl, by rw [h.1]; exact h.2.1.1⟩
  · exact h.elim
set_option maxHeartbeats 1000000 in
theorem f_X12_stop {Z : Zt} {d : Nat} {As : List Value} {S : Sh} {μ : Mi} {ρ : Mr} {Rp : RT} (h : F_X12_stop As S μ ρ (fun r μ' => Rp r S μ' ρ)) : MS Z (d + 5) jX12_stop As S μ ρ Rp := by
  unfold F_X12_stop at h
  split at h
  · rename_i a x
    obtain ⟨rfl, hS, h⟩ := h
    have hS0 := hS
    unfold RS at hS
    obtain ⟨hg, h1, h⟩ := h
    refine ms_X12_stop _ _ (fun G => ?_)
    have e0 : upI μ 2737 0 0 2738 = μ 2738 := by rw [upI_upF, upF_ne (by decide)]
    have e1 : upI μ 2737 0 0 2741 = μ 2741 := by rw [upI_upF, upF_ne (by decide)]
    simp only [w_X12_stop_0, tAload, tIload, nth, tGetI, tGetR, tConst, tLconst, tBin, tUn, tI2l, tAld, tAldR, tAlen, tIast, tBast, tZast, tAast, tIret, tZret, tVret, tAret, tIf, tIf2, tGoto, tIstore, tAstore, sset, tIinc, tDup, tDup2, tPop, tPutI, tPutZ, tPutR, tCallV, tCallS, popN, tFn, tCopy, tMax, tMin, tSw, swc, tRem, tObjI, Option.toList, List.nil_append, List.cons_append, okR, true_and, and_true, true_or, or_true, Nat.zero_le, ne_eq, not_false_eq_true, Nat.reduceEqDiff, F_X12_begins, F_X12_actStop, F_X12_ends, hS0, hS, e0, e1]
    rw [show upF (upI μ 2737 0 0) 2741 (cpF (μ 2738) (μ 2741) 0 0 4516) = M5 μ from rfl, (M5_at μ).1]
    refine ⟨hg, fun t g => ⟨?_, ?_⟩⟩
    · rw [M4_f (by decide), (M5_at μ).2.2.1]; exact h1
    · exact act_end (Q := fun ν => Rp (some (.int (aStop (μ 2738) x).1)) S ν ρ) h
  · exact h.elim
def w_X12_start_0 (M : CT) (G : Nat → PT) (Rp : RT) : PT := tAload 0 <| tConst 0 <| tPutI 12 27 0 <| tAload 0 <| tFn 1 F_X12_begins <| tAload 0 <| tAload 0 <| tIload 1 <| tFn 2 F_X12_actStart <| tFn 2 F_X12_ends <| tIret Rp
set_option maxRecDepth 20000 in
theorem b_X12_start_0 {Z : Zt} {d : Nat} {p : Program} {e : Env} {R : Room} {s : State} {m : MethodId} {args : Array Value} {below : List Frame} {meth : Method} {c : Code} {Rp : RT} (C : Cx Z (d + 3) jX12_start RX12 p R s m args meth c) : Sd Z jX12_start p e R s m args below meth c (MQ below (QcS Z Rp) args s 0 0 (fun a => Z.2.2.1 < a)) 0 (w_X12_start_0 (MS Z (d + 3)) (Gw Z 2 p e R s m args below meth c (MQ below (QcS Z Rp) args s 0 0 (fun a => Z.2.2.1 < a))) Rp) := by
  unfold w_X12_start_0
  refine s_aload_n (k := 0) C (by decide +kernel) ?_
  refine s_iconst (n := 0) C (by decide +kernel) (by decide) ?_
  refine s_putI C w_6_87 (by decide +kernel) rfl (Or.inl rfl) ?_
  refine s_aload_n (k := 0) C (by decide +kernel) ?_
  refine s_fnV C (j2 := jX12_begins) (cl := 12) (nf := 27) rfl rfl (by decide +kernel) rfl w_6_178 w_6_180 w_p3_5 w_1_13 w_6_181 (by decide +kernel) (fun _ _ _ _ _ h => f_X12_begins h) (fun _ _ _ _ _ h => r_X12_begins h) ?_
  refine s_aload_n (k := 0) C (by decide +kernel) ?_
  refine s_aload_n (k := 0) C (by decide +kernel) ?_
  refine s_iload_n (k := 1) C (by decide +kernel) ?_
  refine s_fnV C (j2 := jX12_actStart) (cl := 12) (nf := 27) rfl rfl (by decide +kernel) rfl w_7_148 w_7_150 w_p5_9 w_1_13 w_7_151 (by decide +kernel) (fun _ _ _ _ _ h => f_X12_actStart h) (fun _ _ _ _ _ h => r_X12_actStart h) ?_
  refine s_fnV C (j2 := jX12_ends) (cl := 12) (nf := 27) rfl rfl (by decide +kernel) rfl w_6_188 w_6_190 w_p3_6 w_1_13 w_6_191 (by decide +kernel) (fun _ _ _ _ _ h => f_X12_ends h) (fun _ _ _ _ _ h => r_X12_ends h) ?_
  exact s_iret C rfl (by decide +kernel)
theorem ms_X12_start {Z : Zt} {d : Nat} {S : Sh} {μ : Mi} {ρ : Mr} {Rp : RT} (a0 : Nat) (x1 : Int32) (h : ∀ G : Nat → PT, w_X12_start_0 (MS Z (d + 3)) G Rp [.ref a0, .int x1] [] S (0, 0) μ ρ) : MS Z (d + 4) jX12_start [.ref a0, .int x1] S μ ρ Rp :=
  MS_of [.ref a0, .int x1] (by decide +kernel) rfl rfl (Nat.le_of_ble_eq_true rfl) rfl (fun p e R s m args below meth c C => b_X12_start_0 C _ _ _ _ _ _ (h _ ))
def F_X12_start : FT := fun As S μ ρ k => match As with
  | [.ref a, .int x] => a = 2737 ∧ RS S ρ ∧ good (μ 2738) ∧ rg (μ 2737 6) 0 8 ∧ ∀ μ', RQ μ μ' (aStart (μ 2738) x).2 (if (aStart (μ 2738) x).1 < 0 then μ 2739 else (pushD (μ 2738) (μ 2739) (μ 2737 6)).1) (if (aStart (μ 2738) x).1 < 0 then μ 2737 6 else (pushD (μ 2738) (μ 2739) (μ 2737 6)).2) → k (some (.int (aStart (μ 2738) x).1)) μ'
  | _ => False
theorem r_X12_start {As S μ ρ k} (h : F_X12_start As S μ ρ k) : ∃ a As', As = Value.ref a :: As' ∧ S.2 a = (12, 27) := by
  unfold F_X12_start at h
  split at h
  · exact ⟨_, _, rfl, by rw [h.1]; exact h.2.1.1⟩
  · exact h.elim
set_option maxHeartbeats 1000000 in
theorem f_X12_start {Z : Zt} {d : Nat} {As : List Value} {S : Sh} {μ : Mi} {ρ : Mr} {Rp : RT} (h : F_X12_start As S μ ρ (fun r μ' => Rp r S μ' ρ)) : MS Z (d + 4) jX12_start As S μ ρ Rp := by
  unfold F_X12_start at h
  split at h
  · rename_i a x
    obtain ⟨rfl, hS, h⟩ := h
    have hS0 := hS
    unfold RS at hS
    obtain ⟨hg, h1, h⟩ := h
    refine ms_X12_start _ _ (fun G => ?_)
    have e0 : upI μ 2737 0 0 2738 = μ 2738 := by rw [upI_upF, upF_ne (by decide)]
    have e1 : upI μ 2737 0 0 2741 = μ 2741 := by rw [upI_upF, upF_ne (by decide)]
    simp only [w_X12_start_0, tAload, tIload, nth, tGetI, tGetR, tConst, tLconst, tBin, tUn, tI2l, tAld, tAldR, tAlen, tIast, tBast, tZast, tAast, tIret, tZret, tVret, tAret, tIf, tIf2, tGoto, tIstore, tAstore, sset, tIinc, tDup, tDup2, tPop, tPutI, tPutZ, tPutR, tCallV, tCallS, popN, tFn, tCopy, tMax, tMin, tSw, swc, tRem, tObjI, Option.toList, List.nil_append, List.cons_append, okR, true_and, and_true, true_or, or_true, Nat.zero_le, ne_eq, not_false_eq_true, Nat.reduceEqDiff, F_X12_begins, F_X12_actStart, F_X12_ends, hS0, hS, e0, e1]
    rw [show upF (upI μ 2737 0 0) 2741 (cpF (μ 2738) (μ 2741) 0 0 4516) = M5 μ from rfl, (M5_at μ).1]
    refine ⟨hg, fun t g => ⟨?_, ?_⟩⟩
    · rw [M4_f (by decide), (M5_at μ).2.2.1]; exact h1
    · exact act_end (Q := fun ν => Rp (some (.int (aStart (μ 2738) x).1)) S ν ρ) h
  · exact h.elim
def w_X12_link_0 (M : CT) (G : Nat → PT) (Rp : RT) : PT := tAload 0 <| tConst 0 <| tPutI 12 27 0 <| tAload 0 <| tFn 1 F_X12_begins <| tAload 0 <| tAload 0 <| tIload 1 <| tIload 2 <| tIload 3 <| tFn 4 F_X12_actLink <| tFn 2 F_X12_ends <| tIret Rp
set_option maxRecDepth 20000 in
theorem b_X12_link_0 {Z : Zt} {d : Nat} {p : Program} {e : Env} {R : Room} {s : State} {m : MethodId} {args : Array Value} {below : List Frame} {meth : Method} {c : Code} {Rp : RT} (C : Cx Z (d + 3) jX12_link RX12 p R s m args meth c) : Sd Z jX12_link p e R s m args below meth c (MQ below (QcS Z Rp) args s 0 0 (fun a => Z.2.2.1 < a)) 0 (w_X12_link_0 (MS Z (d + 3)) (Gw Z 4 p e R s m args below meth c (MQ below (QcS Z Rp) args s 0 0 (fun a => Z.2.2.1 < a))) Rp) := by
  unfold w_X12_link_0
  refine s_aload_n (k := 0) C (by decide +kernel) ?_
  refine s_iconst (n := 0) C (by decide +kernel) (by decide) ?_
  refine s_putI C w_6_87 (by decide +kernel) rfl (Or.inl rfl) ?_
  refine s_aload_n (k := 0) C (by decide +kernel) ?_
  refine s_fnV C (j2 := jX12_begins) (cl := 12) (nf := 27) rfl rfl (by decide +kernel) rfl w_6_178 w_6_180 w_p3_5 w_1_13 w_6_181 (by decide +kernel) (fun _ _ _ _ _ h => f_X12_begins h) (fun _ _ _ _ _ h => r_X12_begins h) ?_
  refine s_aload_n (k := 0) C (by decide +kernel) ?_
  refine s_aload_n (k := 0) C (by decide +kernel) ?_
  refine s_iload_n (k := 1) C (by decide +kernel) ?_
  refine s_iload_n (k := 2) C (by decide +kernel) ?_
  refine s_iload_n (k := 3) C (by decide +kernel) ?_
  refine s_fnV C (j2 := jX12_actLink) (cl := 12) (nf := 27) rfl rfl (by decide +kernel) rfl w_7_156 w_7_158 w_p5_10 w_1_13 w_7_159 (by decide +kernel) (fun _ _ _ _ _ h => f_X12_actLink h) (fun _ _ _ _ _ h => r_X12_actLink h) ?_
  refine s_fnV C (j2 := jX12_ends) (cl := 12) (nf := 27) rfl rfl (by decide +kernel) rfl w_6_188 w_6_190 w_p3_6 w_1_13 w_6_191 (by decide +kernel) (fun _ _ _ _ _ h => f_X12_ends h) (fun _ _ _ _ _ h => r_X12_ends h) ?_
  exact s_iret C rfl (by decide +kernel)
theorem ms_X12_link {Z : Zt} {d : Nat} {S : Sh} {μ : Mi} {ρ : Mr} {Rp : RT} (a0 : Nat) (x1 : Int32) (x2 : Int32) (x3 : Int32) (h : ∀ G : Nat → PT, w_X12_link_0 (MS Z (d + 3)) G Rp [.ref a0, .int x1, .int x2, .int x3] [] S (0, 0) μ ρ) : MS Z (d + 4) jX12_link [.ref a0, .int x1, .int x2, .int x3] S μ ρ Rp :=
  MS_of [.ref a0, .int x1, .int x2, .int x3] (by decide +kernel) rfl rfl (Nat.le_of_ble_eq_true rfl) rfl (fun p e R s m args below meth c C => b_X12_link_0 C _ _ _ _ _ _ (h _ ))
def F_X12_link : FT := fun As S μ ρ k => match As with
  | [.ref a, .int x, .int y, .int z] => a = 2737 ∧ RS S ρ ∧ good (μ 2738) ∧ rg (μ 2737 6) 0 8 ∧ ∀ μ', RQ μ μ' (aLink (μ 2738) x y z).2 (if (aLink (μ 2738) x y z).1 < 0 then μ 2739 else (pushD (μ 2738) (μ 2739) (μ 2737 6)).1) (if (aLink (μ 2738) x y z).1 < 0 then μ 2737 6 else (pushD (μ 2738) (μ 2739) (μ 2737 6)).2) → k (some (.int (aLink (μ 2738) x y z).1)) μ'
  | _ => False
theorem r_X12_link {As S μ ρ k} (h : F_X12_link As S μ ρ k) : ∃ a As', As = Value.ref a :: As' ∧ S.2 a = (12, 27) := by
  unfold F_X12_link at h
  split at h
  · exact ⟨_, _, rfl, by rw [h.1]; exact h.2.1.1⟩
  · exact h.elim
set_option maxHeartbeats 1000000 in
theorem f_X12_link {Z : Zt} {d : Nat} {As : List Value} {S : Sh} {μ : Mi} {ρ : Mr} {Rp : RT} (h : F_X12_link As S μ ρ (fun r μ' => Rp r S μ' ρ)) : MS Z (d + 4) jX12_link As S μ ρ Rp := by
  unfold F_X12_link at h
  split at h
  · rename_i a x y z
    obtain ⟨rfl, hS, h⟩ := h
    have hS0 := hS
    unfold RS at hS
    obtain ⟨hg, h1, h⟩ := h
    refine ms_X12_link _ _ _ _ (fun G => ?_)
    have e0 : upI μ 2737 0 0 2738 = μ 2738 := by rw [upI_upF, upF_ne (by decide)]
    have e1 : upI μ 2737 0 0 2741 = μ 2741 := by rw [upI_upF, upF_ne (by decide)]
    simp only [w_X12_link_0, tAload, tIload, nth, tGetI, tGetR, tConst, tLconst, tBin, tUn, tI2l, tAld, tAldR, tAlen, tIast, tBast, tZast, tAast, tIret, tZret, tVret, tAret, tIf, tIf2, tGoto, tIstore, tAstore, sset, tIinc, tDup, tDup2, tPop, tPutI, tPutZ, tPutR, tCallV, tCallS, popN, tFn, tCopy, tMax, tMin, tSw, swc, tRem, tObjI, Option.toList, List.nil_append, List.cons_append, okR, true_and, and_true, true_or, or_true, Nat.zero_le, ne_eq, not_false_eq_true, Nat.reduceEqDiff, F_X12_begins, F_X12_actLink, F_X12_ends, hS0, hS, e0, e1]
    rw [show upF (upI μ 2737 0 0) 2741 (cpF (μ 2738) (μ 2741) 0 0 4516) = M5 μ from rfl, (M5_at μ).1]
    refine ⟨hg, fun t g => ⟨?_, ?_⟩⟩
    · rw [M4_f (by decide), (M5_at μ).2.2.1]; exact h1
    · exact act_end (Q := fun ν => Rp (some (.int (aLink (μ 2738) x y z).1)) S ν ρ) h
  · exact h.elim
def w_X12_come_0 (M : CT) (G : Nat → PT) (Rp : RT) : PT := tAload 0 <| tConst 0 <| tPutI 12 27 0 <| tAload 0 <| tFn 1 F_X12_begins <| tAload 0 <| tAload 0 <| tIload 1 <| tFn 2 F_X12_actCome <| tFn 2 F_X12_ends <| tIret Rp
set_option maxRecDepth 20000 in
theorem b_X12_come_0 {Z : Zt} {d : Nat} {p : Program} {e : Env} {R : Room} {s : State} {m : MethodId} {args : Array Value} {below : List Frame} {meth : Method} {c : Code} {Rp : RT} (C : Cx Z (d + 12) jX12_come RX12 p R s m args meth c) : Sd Z jX12_come p e R s m args below meth c (MQ below (QcS Z Rp) args s 0 0 (fun a => Z.2.2.1 < a)) 0 (w_X12_come_0 (MS Z (d + 12)) (Gw Z 2 p e R s m args below meth c (MQ below (QcS Z Rp) args s 0 0 (fun a => Z.2.2.1 < a))) Rp) := by
  unfold w_X12_come_0
  refine s_aload_n (k := 0) C (by decide +kernel) ?_
  refine s_iconst (n := 0) C (by decide +kernel) (by decide) ?_
  refine s_putI C w_6_87 (by decide +kernel) rfl (Or.inl rfl) ?_
  refine s_aload_n (k := 0) C (by decide +kernel) ?_
  refine s_fnV C (j2 := jX12_begins) (cl := 12) (nf := 27) rfl rfl (by decide +kernel) rfl w_6_178 w_6_180 w_p3_5 w_1_13 w_6_181 (by decide +kernel) (fun _ _ _ _ _ h => f_X12_begins h) (fun _ _ _ _ _ h => r_X12_begins h) ?_
  refine s_aload_n (k := 0) C (by decide +kernel) ?_
  refine s_aload_n (k := 0) C (by decide +kernel) ?_
  refine s_iload_n (k := 1) C (by decide +kernel) ?_
  refine s_fnV C (j2 := jX12_actCome) (cl := 12) (nf := 27) rfl rfl (by decide +kernel) rfl w_7_164 w_7_166 w_p5_11 w_1_13 w_7_167 (by decide +kernel) (fun _ _ _ _ _ h => f_X12_actCome h) (fun _ _ _ _ _ h => r_X12_actCome h) ?_
  refine s_fnV C (j2 := jX12_ends) (cl := 12) (nf := 27) rfl rfl (by decide +kernel) rfl w_6_188 w_6_190 w_p3_6 w_1_13 w_6_191 (by decide +kernel) (fun _ _ _ _ _ h => f_X12_ends h) (fun _ _ _ _ _ h => r_X12_ends h) ?_
  exact s_iret C rfl (by decide +kernel)
theorem ms_X12_come {Z : Zt} {d : Nat} {S : Sh} {μ : Mi} {ρ : Mr} {Rp : RT} (a0 : Nat) (x1 : Int32) (h : ∀ G : Nat → PT, w_X12_come_0 (MS Z (d + 12)) G Rp [.ref a0, .int x1] [] S (0, 0) μ ρ) : MS Z (d + 13) jX12_come [.ref a0, .int x1] S μ ρ Rp :=
  MS_of [.ref a0, .int x1] (by decide +kernel) rfl rfl (Nat.le_of_ble_eq_true rfl) rfl (fun p e R s m args below meth c C => b_X12_come_0 C _ _ _ _ _ _ (h _ ))
def F_X12_come : FT := fun As S μ ρ k => match As with
  | [.ref a, .int x] => a = 2737 ∧ RS S ρ ∧ good (μ 2738) ∧ rg (μ 2737 6) 0 8 ∧ ∀ μ', RQ μ μ' (aCome (μ 2738) x).2 (if (aCome (μ 2738) x).1 < 0 then μ 2739 else (pushD (μ 2738) (μ 2739) (μ 2737 6)).1) (if (aCome (μ 2738) x).1 < 0 then μ 2737 6 else (pushD (μ 2738) (μ 2739) (μ 2737 6)).2) → k (some (.int (aCome (μ 2738) x).1)) μ'
  | _ => False
theorem r_X12_come {As S μ ρ k} (h : F_X12_come As S μ ρ k) : ∃ a As', As = Value.ref a :: As' ∧ S.2 a = (12, 27) := by
  unfold F_X12_come at h
  split at h
  · exact ⟨_, _, rfl, by rw [h.1]; exact h.2.1.1⟩
  · exact h.elim
set_option maxHeartbeats 1000000 in
theorem f_X12_come {Z : Zt} {d : Nat} {As : List Value} {S : Sh} {μ : Mi} {ρ : Mr} {Rp : RT} (h : F_X12_come As S μ ρ (fun r μ' => Rp r S μ' ρ)) : MS Z (d + 13) jX12_come As S μ ρ Rp := by
  unfold F_X12_come at h
  split at h
  · rename_i a x
    obtain ⟨rfl, hS, h⟩ := h
    have hS0 := hS
    unfold RS at hS
    obtain ⟨hg, h1, h⟩ := h
    refine ms_X12_come _ _ (fun G => ?_)
    have e0 : upI μ 2737 0 0 2738 = μ 2738 := by rw [upI_upF, upF_ne (by decide)]
    have e1 : upI μ 2737 0 0 2741 = μ 2741 := by rw [upI_upF, upF_ne (by decide)]
    simp only [w_X12_come_0, tAload, tIload, nth, tGetI, tGetR, tConst, tLconst, tBin, tUn, tI2l, tAld, tAldR, tAlen, tIast, tBast, tZast, tAast, tIret, tZret, tVret, tAret, tIf, tIf2, tGoto, tIstore, tAstore, sset, tIinc, tDup, tDup2, tPop, tPutI, tPutZ, tPutR, tCallV, tCallS, popN, tFn, tCopy, tMax, tMin, tSw, swc, tRem, tObjI, Option.toList, List.nil_append, List.cons_append, okR, true_and, and_true, true_or, or_true, Nat.zero_le, ne_eq, not_false_eq_true, Nat.reduceEqDiff, F_X12_begins, F_X12_actCome, F_X12_ends, hS0, hS, e0, e1]
    rw [show upF (upI μ 2737 0 0) 2741 (cpF (μ 2738) (μ 2741) 0 0 4516) = M5 μ from rfl, (M5_at μ).1]
    refine ⟨hg, fun t g => ⟨?_, ?_⟩⟩
    · rw [M4_f (by decide), (M5_at μ).2.2.1]; exact h1
    · exact act_end (Q := fun ν => Rp (some (.int (aCome (μ 2738) x).1)) S ν ρ) h
  · exact h.elim
def w_X12_lose_0 (M : CT) (G : Nat → PT) (Rp : RT) : PT := tAload 0 <| tConst 0 <| tPutI 12 27 0 <| tAload 0 <| tFn 1 F_X12_begins <| tAload 0 <| tAload 0 <| tIload 1 <| tFn 2 F_X12_actLose <| tFn 2 F_X12_ends <| tIret Rp
set_option maxRecDepth 20000 in
theorem b_X12_lose_0 {Z : Zt} {d : Nat} {p : Program} {e : Env} {R : Room} {s : State} {m : MethodId} {args : Array Value} {below : List Frame} {meth : Method} {c : Code} {Rp : RT} (C : Cx Z (d + 3) jX12_lose RX12 p R s m args meth c) : Sd Z jX12_lose p e R s m args below meth c (MQ below (QcS Z Rp) args s 0 0 (fun a => Z.2.2.1 < a)) 0 (w_X12_lose_0 (MS Z (d + 3)) (Gw Z 2 p e R s m args below meth c (MQ below (QcS Z Rp) args s 0 0 (fun a => Z.2.2.1 < a))) Rp) := by
  unfold w_X12_lose_0
  refine s_aload_n (k := 0) C (by decide +kernel) ?_
  refine s_iconst (n := 0) C (by decide +kernel) (by decide) ?_
  refine s_putI C w_6_87 (by decide +kernel) rfl (Or.inl rfl) ?_
  refine s_aload_n (k := 0) C (by decide +kernel) ?_
  refine s_fnV C (j2 := jX12_begins) (cl := 12) (nf := 27) rfl rfl (by decide +kernel) rfl w_6_178 w_6_180 w_p3_5 w_1_13 w_6_181 (by decide +kernel) (fun _ _ _ _ _ h => f_X12_begins h) (fun _ _ _ _ _ h => r_X12_begins h) ?_
  refine s_aload_n (k := 0) C (by decide +kernel) ?_
  refine s_aload_n (k := 0) C (by decide +kernel) ?_
  refine s_iload_n (k := 1) C (by decide +kernel) ?_
  refine s_fnV C (j2 := jX12_actLose) (cl := 12) (nf := 27) rfl rfl (by decide +kernel) rfl w_8_0 w_8_2 w_p6_13 w_1_13 w_8_3 (by decide +kernel) (fun _ _ _ _ _ h => f_X12_actLose h) (fun _ _ _ _ _ h => r_X12_actLose h) ?_
  refine s_fnV C (j2 := jX12_ends) (cl := 12) (nf := 27) rfl rfl (by decide +kernel) rfl w_6_188 w_6_190 w_p3_6 w_1_13 w_6_191 (by decide +kernel) (fun _ _ _ _ _ h => f_X12_ends h) (fun _ _ _ _ _ h => r_X12_ends h) ?_
  exact s_iret C rfl (by decide +kernel)
theorem ms_X12_lose {Z : Zt} {d : Nat} {S : Sh} {μ : Mi} {ρ : Mr} {Rp : RT} (a0 : Nat) (x1 : Int32) (h : ∀ G : Nat → PT, w_X12_lose_0 (MS Z (d + 3)) G Rp [.ref a0, .int x1] [] S (0, 0) μ ρ) : MS Z (d + 4) jX12_lose [.ref a0, .int x1] S μ ρ Rp :=
  MS_of [.ref a0, .int x1] (by decide +kernel) rfl rfl (Nat.le_of_ble_eq_true rfl) rfl (fun p e R s m args below meth c C => b_X12_lose_0 C _ _ _ _ _ _ (h _ ))
def F_X12_lose : FT := fun As S μ ρ k => match As with
  | [.ref a, .int x] => a = 2737 ∧ RS S ρ ∧ good (μ 2738) ∧ rg (μ 2737 6) 0 8 ∧ ∀ μ', RQ μ μ' (aLose (μ 2738) x).2 (if (aLose (μ 2738) x).1 < 0 then μ 2739 else (pushD (μ 2738) (μ 2739) (μ 2737 6)).1) (if (aLose (μ 2738) x).1 < 0 then μ 2737 6 else (pushD (μ 2738) (μ 2739) (μ 2737 6)).2) → k (some (.int (aLose (μ 2738) x).1)) μ'
  | _ => False
theorem r_X12_lose {As S μ ρ k} (h : F_X12_lose As S μ ρ k) : ∃ a As', As = Value.ref a :: As' ∧ S.2 a = (12, 27) := by
  unfold F_X12_lose at h
  split at h
  · exact ⟨_, _, rfl, by rw [h.1]; exact h.2.1.1⟩
  · exact h.elim
set_option maxHeartbeats 1000000 in
theorem f_X12_lose {Z : Zt} {d : Nat} {As : List Value} {S : Sh} {μ : Mi} {ρ : Mr} {Rp : RT} (h : F_X12_lose As S μ ρ (fun r μ' => Rp r S μ' ρ)) : MS Z (d + 4) jX12_lose As S μ ρ Rp := by
  unfold F_X12_lose at h
  split at h
  · rename_i a x
    obtain ⟨rfl, hS, h⟩ := h
    have hS0 := hS
    unfold RS at hS
    obtain ⟨hg, h1, h⟩ := h
    refine ms_X12_lose _ _ (fun G => ?_)
    have e0 : upI μ 2737 0 0 2738 = μ 2738 := by rw [upI_upF, upF_ne (by decide)]
    have e1 : upI μ 2737 0 0 2741 = μ 2741 := by rw [upI_upF, upF_ne (by decide)]
    simp only [w_X12_lose_0, tAload, tIload, nth, tGetI, tGetR, tConst, tLconst, tBin, tUn, tI2l, tAld, tAldR, tAlen, tIast, tBast, tZast, tAast, tIret, tZret, tVret, tAret, tIf, tIf2, tGoto, tIstore, tAstore, sset, tIinc, tDup, tDup2, tPop, tPutI, tPutZ, tPutR, tCallV, tCallS, popN, tFn, tCopy, tMax, tMin, tSw, swc, tRem, tObjI, Option.toList, List.nil_append, List.cons_append, okR, true_and, and_true, true_or, or_true, Nat.zero_le, ne_eq, not_false_eq_true, Nat.reduceEqDiff, F_X12_begins, F_X12_actLose, F_X12_ends, hS0, hS, e0, e1]
    rw [show upF (upI μ 2737 0 0) 2741 (cpF (μ 2738) (μ 2741) 0 0 4516) = M5 μ from rfl, (M5_at μ).1]
    refine ⟨hg, fun t g => ⟨?_, ?_⟩⟩
    · rw [M4_f (by decide), (M5_at μ).2.2.1]; exact h1
    · exact act_end (Q := fun ν => Rp (some (.int (aLose (μ 2738) x).1)) S ν ρ) h
  · exact h.elim
def w_X12_twice_0 (M : CT) (G : Nat → PT) (Rp : RT) : PT := tAload 0 <| tConst 0 <| tPutI 12 27 0 <| tAload 0 <| tFn 1 F_X12_begins <| tAload 0 <| tAload 0 <| tIload 1 <| tFn 2 F_X12_actTwice <| tFn 2 F_X12_ends <| tIret Rp
set_option maxRecDepth 20000 in
theorem b_X12_twice_0 {Z : Zt} {d : Nat} {p : Program} {e : Env} {R : Room} {s : State} {m : MethodId} {args : Array Value} {below : List Frame} {meth : Method} {c : Code} {Rp : RT} (C : Cx Z (d + 3) jX12_twice RX12 p R s m args meth c) : Sd Z jX12_twice p e R s m args below meth c (MQ below (QcS Z Rp) args s 0 0 (fun a => Z.2.2.1 < a)) 0 (w_X12_twice_0 (MS Z (d + 3)) (Gw Z 2 p e R s m args below meth c (MQ below (QcS Z Rp) args s 0 0 (fun a => Z.2.2.1 < a))) Rp) := by
  unfold w_X12_twice_0
  refine s_aload_n (k := 0) C (by decide +kernel) ?_
  refine s_iconst (n := 0) C (by decide +kernel) (by decide) ?_
  refine s_putI C w_6_87 (by decide +kernel) rfl (Or.inl rfl) ?_
  refine s_aload_n (k := 0) C (by decide +kernel) ?_
  refine s_fnV C (j2 := jX12_begins) (cl := 12) (nf := 27) rfl rfl (by decide +kernel) rfl w_6_178 w_6_180 w_p3_5 w_1_13 w_6_181 (by decide +kernel) (fun _ _ _ _ _ h => f_X12_begins h) (fun _ _ _ _ _ h => r_X12_begins h) ?_
  refine s_aload_n (k := 0) C (by decide +kernel) ?_
  refine s_aload_n (k := 0) C (by decide +kernel) ?_
  refine s_iload_n (k := 1) C (by decide +kernel) ?_
  refine s_fnV C (j2 := jX12_actTwice) (cl := 12) (nf := 27) rfl rfl (by decide +kernel) rfl w_8_8 w_8_10 w_p6_14 w_1_13 w_8_11 (by decide +kernel) (fun _ _ _ _ _ h => f_X12_actTwice h) (fun _ _ _ _ _ h => r_X12_actTwice h) ?_
  refine s_fnV C (j2 := jX12_ends) (cl := 12) (nf := 27) rfl rfl (by decide +kernel) rfl w_6_188 w_6_190 w_p3_6 w_1_13 w_6_191 (by decide +kernel) (fun _ _ _ _ _ h => f_X12_ends h) (fun _ _ _ _ _ h => r_X12_ends h) ?_
  exact s_iret C rfl (by decide +kernel)
theorem ms_X12_twice {Z : Zt} {d : Nat} {S : Sh} {μ : Mi} {ρ : Mr} {Rp : RT} (a0 : Nat) (x1 : Int32) (h : ∀ G : Nat → PT, w_X12_twice_0 (MS Z (d + 3)) G Rp [.ref a0, .int x1] [] S (0, 0) μ ρ) : MS Z (d + 4) jX12_twice [.ref a0, .int x1] S μ ρ Rp :=
  MS_of [.ref a0, .int x1] (by decide +kernel) rfl rfl (Nat.le_of_ble_eq_true rfl) rfl (fun p e R s m args below meth c C => b_X12_twice_0 C _ _ _ _ _ _ (h _ ))
def F_X12_twice : FT := fun As S μ ρ k => match As with
  | [.ref a, .int x] => a = 2737 ∧ RS S ρ ∧ good (μ 2738) ∧ rg (μ 2737 6) 0 8 ∧ ∀ μ', RQ μ μ' (aTwice (μ 2738) x).2 (if (aTwice (μ 2738) x).1 < 0 then μ 2739 else (pushD (μ 2738) (μ 2739) (μ 2737 6)).1) (if (aTwice (μ 2738) x).1 < 0 then μ 2737 6 else (pushD (μ 2738) (μ 2739) (μ 2737 6)).2) → k (some (.int (aTwice (μ 2738) x).1)) μ'
  | _ => False
theorem r_X12_twice {As S μ ρ k} (h : F_X12_twice As S μ ρ k) : ∃ a As', As = Value.ref a :: As' ∧ S.2 a = (12, 27) := by
  unfold F_X12_twice at h
  split at h
  · exact ⟨_, _, rfl, by rw [h.1]; exact h.2.1.1⟩
  · exact h.elim
set_option maxHeartbeats 1000000 in
theorem f_X12_twice {Z : Zt} {d : Nat} {As : List Value} {S : Sh} {μ : Mi} {ρ : Mr} {Rp : RT} (h : F_X12_twice As S μ ρ (fun r μ' => Rp r S μ' ρ)) : MS Z (d + 4) jX12_twice As S μ ρ Rp := by
  unfold F_X12_twice at h
  split at h
  · rename_i a x
    obtain ⟨rfl, hS, h⟩ := h
    have hS0 := hS
    unfold RS at hS
    obtain ⟨hg, h1, h⟩ := h
    refine ms_X12_twice _ _ (fun G => ?_)
    have e0 : upI μ 2737 0 0 2738 = μ 2738 := by rw [upI_upF, upF_ne (by decide)]
    have e1 : upI μ 2737 0 0 2741 = μ 2741 := by rw [upI_upF, upF_ne (by decide)]
    simp only [w_X12_twice_0, tAload, tIload, nth, tGetI, tGetR, tConst, tLconst, tBin, tUn, tI2l, tAld, tAldR, tAlen, tIast, tBast, tZast, tAast, tIret, tZret, tVret, tAret, tIf, tIf2, tGoto, tIstore, tAstore, sset, tIinc, tDup, tDup2, tPop, tPutI, tPutZ, tPutR, tCallV, tCallS, popN, tFn, tCopy, tMax, tMin, tSw, swc, tRem, tObjI, Option.toList, List.nil_append, List.cons_append, okR, true_and, and_true, true_or, or_true, Nat.zero_le, ne_eq, not_false_eq_true, Nat.reduceEqDiff, F_X12_begins, F_X12_actTwice, F_X12_ends, hS0, hS, e0, e1]
    rw [show upF (upI μ 2737 0 0) 2741 (cpF (μ 2738) (μ 2741) 0 0 4516) = M5 μ from rfl, (M5_at μ).1]
    refine ⟨hg, fun t g => ⟨?_, ?_⟩⟩
    · rw [M4_f (by decide), (M5_at μ).2.2.1]; exact h1
    · exact act_end (Q := fun ν => Rp (some (.int (aTwice (μ 2738) x).1)) S ν ρ) h
  · exact h.elim
def w_X12_settle_0 (M : CT) (G : Nat → PT) (Rp : RT) : PT := tAload 0 <| tConst 0 <| tPutI 12 27 0 <| tAload 0 <| tFn 1 F_X12_begins <| tAload 0 <| tAload 0 <| tIload 1 <| tFn 2 F_X12_actSettle <| tFn 2 F_X12_ends <| tIret Rp
set_option maxRecDepth 20000 in
theorem b_X12_settle_0 {Z : Zt} {d : Nat} {p : Program} {e : Env} {R : Room} {s : State} {m : MethodId} {args : Array Value} {below : List Frame} {meth : Method} {c : Code} {Rp : RT} (C : Cx Z (d + 13) jX12_settle RX12 p R s m args meth c) : Sd Z jX12_settle p e R s m args below meth c (MQ below (QcS Z Rp) args s 0 0 (fun a => Z.2.2.1 < a)) 0 (w_X12_settle_0 (MS Z (d + 13)) (Gw Z 2 p e R s m args below meth c (MQ below (QcS Z Rp) args s 0 0 (fun a => Z.2.2.1 < a))) Rp) := by
  unfold w_X12_settle_0
  refine s_aload_n (k := 0) C (by decide +kernel) ?_
  refine s_iconst (n := 0) C (by decide +kernel) (by decide) ?_
  refine s_putI C w_6_87 (by decide +kernel) rfl (Or.inl rfl) ?_
  refine s_aload_n (k := 0) C (by decide +kernel) ?_
  refine s_fnV C (j2 := jX12_begins) (cl := 12) (nf := 27) rfl rfl (by decide +kernel) rfl w_6_178 w_6_180 w_p3_5 w_1_13 w_6_181 (by decide +kernel) (fun _ _ _ _ _ h => f_X12_begins h) (fun _ _ _ _ _ h => r_X12_begins h) ?_
  refine s_aload_n (k := 0) C (by decide +kernel) ?_
  refine s_aload_n (k := 0) C (by decide +kernel) ?_
  refine s_iload_n (k := 1) C (by decide +kernel) ?_
  refine s_fnV C (j2 := jX12_actSettle) (cl := 12) (nf := 27) rfl rfl (by decide +kernel) rfl w_8_16 w_8_18 w_p6_15 w_1_13 w_8_19 (by decide +kernel) (fun _ _ _ _ _ h => f_X12_actSettle h) (fun _ _ _ _ _ h => r_X12_actSettle h) ?_
  refine s_fnV C (j2 := jX12_ends) (cl := 12) (nf := 27) rfl rfl (by decide +kernel) rfl w_6_188 w_6_190 w_p3_6 w_1_13 w_6_191 (by decide +kernel) (fun _ _ _ _ _ h => f_X12_ends h) (fun _ _ _ _ _ h => r_X12_ends h) ?_
  exact s_iret C rfl (by decide +kernel)
theorem ms_X12_settle {Z : Zt} {d : Nat} {S : Sh} {μ : Mi} {ρ : Mr} {Rp : RT} (a0 : Nat) (x1 : Int32) (h : ∀ G : Nat → PT, w_X12_settle_0 (MS Z (d + 13)) G Rp [.ref a0, .int x1] [] S (0, 0) μ ρ) : MS Z (d + 14) jX12_settle [.ref a0, .int x1] S μ ρ Rp :=
  MS_of [.ref a0, .int x1] (by decide +kernel) rfl rfl (Nat.le_of_ble_eq_true rfl) rfl (fun p e R s m args below meth c C => b_X12_settle_0 C _ _ _ _ _ _ (h _ ))
def F_X12_settle : FT := fun As S μ ρ k => match As with
  | [.ref a, .int x] => a = 2737 ∧ RS S ρ ∧ good (μ 2738) ∧ rg (μ 2737 6) 0 8 ∧ ∀ μ', RQ μ μ' (aSettle (μ 2738) x).2 (if (aSettle (μ 2738) x).1 < 0 then μ 2739 else (pushD (μ 2738) (μ 2739) (μ 2737 6)).1) (if (aSettle (μ 2738) x).1 < 0 then μ 2737 6 else (pushD (μ 2738) (μ 2739) (μ 2737 6)).2) → k (some (.int (aSettle (μ 2738) x).1)) μ'
  | _ => False
theorem r_X12_settle {As S μ ρ k} (h : F_X12_settle As S μ ρ k) : ∃ a As', As = Value.ref a :: As' ∧ S.2 a = (12, 27) := by
  unfold F_X12_settle at h
  split at h
  · exact ⟨_, _, rfl, by rw [h.1]; exact h.2.1.1⟩
  · exact h.elim
set_option maxHeartbeats 1000000 in
theorem f_X12_settle {Z : Zt} {d : Nat} {As : List Value} {S : Sh} {μ : Mi} {ρ : Mr} {Rp : RT} (h : F_X12_settle As S μ ρ (fun r μ' => Rp r S μ' ρ)) : MS Z (d + 14) jX12_settle As S μ ρ Rp := by
  unfold F_X12_settle at h
  split at h
  · rename_i a x
    obtain ⟨rfl, hS, h⟩ := h
    have hS0 := hS
    unfold RS at hS
    obtain ⟨hg, h1, h⟩ := h
    refine ms_X12_settle _ _ (fun G => ?_)
    have e0 : upI μ 2737 0 0 2738 = μ 2738 := by rw [upI_upF, upF_ne (by decide)]
    have e1 : upI μ 2737 0 0 2741 = μ 2741 := by rw [upI_upF, upF_ne (by decide)]
    simp only [w_X12_settle_0, tAload, tIload, nth, tGetI, tGetR, tConst, tLconst, tBin, tUn, tI2l, tAld, tAldR, tAlen, tIast, tBast, tZast, tAast, tIret, tZret, tVret, tAret, tIf, tIf2, tGoto, tIstore, tAstore, sset, tIinc, tDup, tDup2, tPop, tPutI, tPutZ, tPutR, tCallV, tCallS, popN, tFn, tCopy, tMax, tMin, tSw, swc, tRem, tObjI, Option.toList, List.nil_append, List.cons_append, okR, true_and, and_true, true_or, or_true, Nat.zero_le, ne_eq, not_false_eq_true, Nat.reduceEqDiff, F_X12_begins, F_X12_actSettle, F_X12_ends, hS0, hS, e0, e1]
    rw [show upF (upI μ 2737 0 0) 2741 (cpF (μ 2738) (μ 2741) 0 0 4516) = M5 μ from rfl, (M5_at μ).1]
    refine ⟨hg, fun t g => ⟨?_, ?_⟩⟩
    · rw [M4_f (by decide), (M5_at μ).2.2.1]; exact h1
    · exact act_end (Q := fun ν => Rp (some (.int (aSettle (μ 2738) x).1)) S ν ρ) h
  · exact h.elim
