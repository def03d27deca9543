/-! ===== the reference: on paper ===== -/
def sim (μ ν : Mi) : Prop := (∀ a, a ≠ 2737 → a ≠ 2738 → a ≠ 2740 → a ≠ 2741 → a ≠ 2742 → a ≠ 2744 → ν a = μ a) ∧ ∀ f, f ≠ 0 → (f < 8 ∨ 11 < f) → ν 2737 f = μ 2737 f
theorem sim_M6 {μ : Mi} : sim μ (M6 μ) := ⟨fun _ h _ _ _ _ _ => M6_out h, fun _ h _ => M6_f h⟩
theorem sim_M4 {μ ν : Mi} {g : Rw} {t : T4} {A : Rw} (h : sim μ ν) : sim μ (M4 ν g t A) :=
  ⟨fun a h1 h2 h3 h4 h5 h6 => by rw [M4_out h1 h2 h6]; exact h.1 a h1 h2 h3 h4 h5 h6, fun f h1 h2 => by rw [M4_f h2]; exact h.2 f h1 h2⟩
theorem sim_up {μ ν : Mi} {b : Nat} {X : Rw} (h : sim μ ν) (hb : b = 2738 ∨ b = 2740 ∨ b = 2741 ∨ b = 2742 ∨ b = 2744) : sim μ (upF ν b X) :=
  ⟨fun a h1 h2 h3 h4 h5 h6 => by rw [upF_ne (by omega)]; exact h.1 a h1 h2 h3 h4 h5 h6, fun f h1 h2 => by rw [upF_ne (by omega)]; exact h.2 f h1 h2⟩
theorem RQ_sim {μ ν : Mi} {A : Rw} (h : sim μ ν) (hA : ν 2738 = A) : RQ μ ν A (μ 2739) (μ 2737 6) :=
  ⟨fun a ha => h.1 a (by omega) (by omega) (by omega) (by omega) (by omega) (by omega), hA, h.1 _ (by decide) (by decide) (by decide) (by decide) (by decide) (by decide), h.2 _ (by decide) (by decide), h.1 _ (by decide) (by decide) (by decide) (by decide) (by decide) (by decide), h.1 _ (by decide) (by decide) (by decide) (by decide) (by decide) (by decide), h.1 _ (by decide) (by decide) (by decide) (by decide) (by decide) (by decide), fun f h1 h2 _ _ => h.2 f (by omega) (by omega)⟩
def w_X12_opensPaper_0 (M : CT) (G : Nat → PT) (Rp : RT) : PT := tAload 0 <| tGetR 12 27 1 <| tConst 0 <| tAload 0 <| tGetR 12 27 3 <| tConst 0 <| tConst 4516 <| tFn 5 F_X12_copies <| tVret Rp
set_option maxRecDepth 20000 in
theorem b_X12_opensPaper_0 {Z : Zt} {d : Nat} {p : Program} {e : Env} {R : Room} {s : State} {m : MethodId} {args : Array Value} {below : List Frame} {meth : Method} {c : Code} {Rp : RT} (C : Cx Z (d + 1) jX12_opensPaper RX12 p R s m args meth c) : Sd Z jX12_opensPaper p e R s m args below meth c (MQ below (QcS Z Rp) args s 0 0 (fun a => Z.2.2.1 < a)) 0 (w_X12_opensPaper_0 (MS Z (d + 1)) (Gw Z 1 p e R s m args below meth c (MQ below (QcS Z Rp) args s 0 0 (fun a => Z.2.2.1 < a))) Rp) := by
  unfold w_X12_opensPaper_0
  refine s_aload_n (k := 0) C (by decide +kernel) ?_
  refine s_getR C w_6_88 (by decide +kernel) rfl ?_
  refine s_iconst (n := 0) C (by decide +kernel) (by decide) ?_
  refine s_aload_n (k := 0) C (by decide +kernel) ?_
  refine s_getR C w_6_90 (by decide +kernel) rfl ?_
  refine s_iconst (n := 0) C (by decide +kernel) (by decide) ?_
  refine s_sipush (n := 4516) C (by decide +kernel) (by decide) ?_
  refine s_fnS C (j2 := jX12_copies) (by decide +kernel) rfl w_6_182 w_6_183 w_1_13 w_6_184 (by decide +kernel) (fun _ _ _ _ _ h => f_X12_copies h) ?_
  exact s_vret C rfl (by decide +kernel)
theorem ms_X12_opensPaper {Z : Zt} {d : Nat} {S : Sh} {μ : Mi} {ρ : Mr} {Rp : RT} (a0 : Nat) (h : ∀ G : Nat → PT, w_X12_opensPaper_0 (MS Z (d + 1)) G Rp [.ref a0] [] S (0, 0) μ ρ) : MS Z (d + 2) jX12_opensPaper [.ref a0] S μ ρ Rp :=
  MS_of [.ref a0] (by decide +kernel) rfl rfl (Nat.le_of_ble_eq_true rfl) rfl (fun p e R s m args below meth c C => b_X12_opensPaper_0 C _ _ _ _ _ _ (h _ ))
def F_X12_opensPaper : FT := fun As S μ ρ k => match As with
  | [.ref a] => a = 2737 ∧ RS S ρ ∧ k none (upF μ 2740 (cpF (μ 2738) (μ 2740) 0 0 4516))
  | _ => False
theorem r_X12_opensPaper {As S μ ρ k} (h : F_X12_opensPaper As S μ ρ k) : ∃ a As', As = Value.ref a :: As' ∧ S.2 a = (12, 27) := by
  unfold F_X12_opensPaper at h
  split at h
  · exact ⟨_, _, rfl, by rw [h.1]; exact h.2.1.1⟩
  · exact h.elim
set_option maxHeartbeats 1000000 in
theorem f_X12_opensPaper {Z : Zt} {d : Nat} {As : List Value} {S : Sh} {μ : Mi} {ρ : Mr} {Rp : RT} (h : F_X12_opensPaper As S μ ρ (fun r μ' => Rp r S μ' ρ)) : MS Z (d + 2) jX12_opensPaper As S μ ρ Rp := by
  unfold F_X12_opensPaper at h
  split at h
  · rename_i a
    obtain ⟨rfl, hS, h⟩ := h
    have hS0 := hS
    unfold RS at hS
    refine ms_X12_opensPaper _ (fun G => ?_)
    simp only [w_X12_opensPaper_0, tAload, tIload, nth, tGetI, tGetR, tConst, tLconst, tBin, tUn, tI2l, tAld, tAldR, tAlen, tIast, tBast, tZast, tAast, tIret, tZret, tVret, tAret, tIf, tIf2, tGoto, tIstore, tAstore, sset, tIinc, tDup, tDup2, tPop, tPutI, tPutZ, tPutR, tCallV, tCallS, popN, tFn, tCopy, tMax, tMin, tSw, swc, tRem, tObjI, Option.toList, List.nil_append, List.cons_append, okR, true_and, and_true, true_or, or_true, Nat.zero_le, ne_eq, not_false_eq_true, Nat.reduceEqDiff, F_X12_copies, hS, cl_0, cl_4516]
    exact ⟨by decide, by decide, by decide, by decide, by decide, by decide, by decide, h⟩
  · exact h.elim
def w_X12_closesPaper_0 (M : CT) (G : Nat → PT) (Rp : RT) : PT := tAload 0 <| tGetR 12 27 3 <| tConst 0 <| tAload 0 <| tGetR 12 27 1 <| tConst 0 <| tConst 4516 <| tFn 5 F_X12_copies <| tVret Rp
set_option maxRecDepth 20000 in
theorem b_X12_closesPaper_0 {Z : Zt} {d : Nat} {p : Program} {e : Env} {R : Room} {s : State} {m : MethodId} {args : Array Value} {below : List Frame} {meth : Method} {c : Code} {Rp : RT} (C : Cx Z (d + 1) jX12_closesPaper RX12 p R s m args meth c) : Sd Z jX12_closesPaper p e R s m args below meth c (MQ below (QcS Z Rp) args s 0 0 (fun a => Z.2.2.1 < a)) 0 (w_X12_closesPaper_0 (MS Z (d + 1)) (Gw Z 1 p e R s m args below meth c (MQ below (QcS Z Rp) args s 0 0 (fun a => Z.2.2.1 < a))) Rp) := by
  unfold w_X12_closesPaper_0
  refine s_aload_n (k := 0) C (by decide +kernel) ?_
  refine s_getR C w_6_90 (by decide +kernel) rfl ?_
  refine s_iconst (n := 0) C (by decide +kernel) (by decide) ?_
  refine s_aload_n (k := 0) C (by decide +kernel) ?_
  refine s_getR C w_6_88 (by decide +kernel) rfl ?_
  refine s_iconst (n := 0) C (by decide +kernel) (by decide) ?_
  refine s_sipush (n := 4516) C (by decide +kernel) (by decide) ?_
  refine s_fnS C (j2 := jX12_copies) (by decide +kernel) rfl w_6_182 w_6_183 w_1_13 w_6_184 (by decide +kernel) (fun _ _ _ _ _ h => f_X12_copies h) ?_
  exact s_vret C rfl (by decide +kernel)
theorem ms_X12_closesPaper {Z : Zt} {d : Nat} {S : Sh} {μ : Mi} {ρ : Mr} {Rp : RT} (a0 : Nat) (h : ∀ G : Nat → PT, w_X12_closesPaper_0 (MS Z (d + 1)) G Rp [.ref a0] [] S (0, 0) μ ρ) : MS Z (d + 2) jX12_closesPaper [.ref a0] S μ ρ Rp :=
  MS_of [.ref a0] (by decide +kernel) rfl rfl (Nat.le_of_ble_eq_true rfl) rfl (fun p e R s m args below meth c C => b_X12_closesPaper_0 C _ _ _ _ _ _ (h _ ))
def F_X12_closesPaper : FT := fun As S μ ρ k => match As with
  | [.ref a] => a = 2737 ∧ RS S ρ ∧ k none (upF μ 2738 (cpF (μ 2740) (μ 2738) 0 0 4516))
  | _ => False
theorem r_X12_closesPaper {As S μ ρ k} (h : F_X12_closesPaper As S μ ρ k) : ∃ a As', As = Value.ref a :: As' ∧ S.2 a = (12, 27) := by
  unfold F_X12_closesPaper at h
  split at h
  · exact ⟨_, _, rfl, by rw [h.1]; exact h.2.1.1⟩
  · exact h.elim
set_option maxHeartbeats 1000000 in
theorem f_X12_closesPaper {Z : Zt} {d : Nat} {As : List Value} {S : Sh} {μ : Mi} {ρ : Mr} {Rp : RT} (h : F_X12_closesPaper As S μ ρ (fun r μ' => Rp r S μ' ρ)) : MS Z (d + 2) jX12_closesPaper As S μ ρ Rp := by
  unfold F_X12_closesPaper at h
  split at h
  · rename_i a
    obtain ⟨rfl, hS, h⟩ := h
    have hS0 := hS
    unfold RS at hS
    refine ms_X12_closesPaper _ (fun G => ?_)
    simp only [w_X12_closesPaper_0, tAload, tIload, nth, tGetI, tGetR, tConst, tLconst, tBin, tUn, tI2l, tAld, tAldR, tAlen, tIast, tBast, tZast, tAast, tIret, tZret, tVret, tAret, tIf, tIf2, tGoto, tIstore, tAstore, sset, tIinc, tDup, tDup2, tPop, tPutI, tPutZ, tPutR, tCallV, tCallS, popN, tFn, tCopy, tMax, tMin, tSw, swc, tRem, tObjI, Option.toList, List.nil_append, List.cons_append, okR, true_and, and_true, true_or, or_true, Nat.zero_le, ne_eq, not_false_eq_true, Nat.reduceEqDiff, F_X12_copies, hS, cl_0, cl_4516]
    exact ⟨by decide, by decide, by decide, by decide, by decide, by decide, by decide, h⟩
  · exact h.elim
/-- the memory with the paper open -/
def M7 (μ : Mi) : Mi := upF (M6 μ) 2740 (cpF (μ 2738) (μ 2740) 0 0 4516)
theorem M7_row {μ : Mi} : M7 μ 2738 = μ 2738 := by unfold M7; rw [upF_ne (by decide)]; exact M6_row
theorem M7_sim {μ : Mi} : sim μ (M7 μ) := sim_up sim_M6 (by decide)
theorem M7_eq {μ : Mi} : upF (M6 μ) 2740 (cpF (μ 2738) (M6 μ 2740) 0 0 4516) = M7 μ := by unfold M7; rw [M6_out (by decide)]
theorem paper_back {A B X : Rw} (h : Hi A B) : cpF (cpF A X 0 0 4516) B 0 0 4516 = A := by
  funext i
  unfold cpF
  by_cases c : 0 ≤ i ∧ i < 0 + 4516
  · rw [if_pos c, if_pos (by omega)]
    congr 1
    omega
  · rw [if_neg c]
    exact h i (by omega)
theorem M7_back {μ : Mi} {g : Rw} {t : T4} {B : Rw} (h : Hi (μ 2738) B) : cpF (M4 (M7 μ) g t B 2740) B 0 0 4516 = μ 2738 := by
  rw [M4_out (by decide) (by decide) (by decide)]
  unfold M7
  rw [upF_same]
  exact paper_back h
theorem RQ_7 {μ : Mi} {g : Rw} {t : T4} : RQ μ (M4 (M7 μ) g t (μ 2738)) (μ 2738) (μ 2739) (μ 2737 6) := RQ_sim (sim_M4 M7_sim) M4_row
theorem r300 : rg 300 0 300 = True := eq_true ⟨by decide, by decide⟩
theorem cl_300 : Int32.toNatClampNeg 300 = 300 := by decide
def qWinsP (A : Rw) (s : Nat) : Int32 × Rw := if ¬ canT (setF 300 A) s then (-1, setF 300 A) else (if setF 300 (qAsks (setF 300 A) s) (514 * s + 3) = 2 then 1 else 0, setF 300 (qAsks (setF 300 A) s))
theorem suOK_to {A : Rw} {s : Nat} (h : stOK A s) (hc : canT A s) : suOK A s := by
  refine suOK_st h ?_
  have c3 : ¬ A (514 * s + 1) = 200 := hc.2.2.2
  have c4 := h.2.2.1.2
  rw [Int32.lt_iff_toInt_lt, show (200 : Int32).toInt = 200 by decide]
  rcases Int.lt_or_eq_of_le c4 with z | z
  · exact z
  · exact absurd (Int32.toInt_inj.mp (by rw [z]; decide)) c3
theorem Hi_asks {A : Rw} {s : Nat} (hg : good A) (hs : s < 5) (hc : canT A s) : Hi A (qAsks A s) := (Fr_asks hs (suOK_to (good_st hg hs) hc)).hi
theorem Hi_winsP {A : Rw} {s : Nat} (hg : good A) (hs : s < 5) : Hi A (qWinsP A s).2 := by
  unfold qWinsP
  split
  · exact Hi_set hg
  · rename_i c
    have c := Decidable.not_not.mp c
    have h1 := good_set (n := 300) hg
    exact ((Hi_set hg).tr (Hi_asks h1 hs c)).tr (Hi_set (good_step h1 (Sp.asks hs c)))
def w_X12_winsOnPaper_44 (M : CT) (G : Nat → PT) (Rp : RT) : PT := tIret Rp
def w_X12_winsOnPaper_43 (M : CT) (G : Nat → PT) (Rp : RT) : PT := tConst 0 <| w_X12_winsOnPaper_44 M G Rp
def w_X12_winsOnPaper_18 (M : CT) (G : Nat → PT) (Rp : RT) : PT := tAload 0 <| tIload 1 <| tFn 2 F_X12_asks <| tAload 0 <| tConst 300 <| tFn 2 F_X12_settles <| tIstore 2 <| tAload 0 <| tIload 1 <| tFn 2 F_X12_isLeader <| tIf (fun x => x = 0) (w_X12_winsOnPaper_43 M G Rp) <| tConst 1 <| tGoto (w_X12_winsOnPaper_44 M G Rp)
def w_X12_winsOnPaper_0 (M : CT) (G : Nat → PT) (Rp : RT) : PT := tAload 0 <| tConst 300 <| tFn 2 F_X12_settles <| tIstore 2 <| tAload 0 <| tIload 1 <| tFn 2 F_X12_whyNot <| tIf (fun x => x = 0) (w_X12_winsOnPaper_18 M G Rp) <| tConst (-1) <| tIret Rp
set_option maxRecDepth 20000 in
theorem b_X12_winsOnPaper_44 {Z : Zt} {d : Nat} {p : Program} {e : Env} {R : Room} {s : State} {m : MethodId} {args : Array Value} {below : List Frame} {meth : Method} {c : Code} {Rp : RT} (C : Cx Z (d + 12) jX12_winsOnPaper RX12 p R s m args meth c) : Sd Z jX12_winsOnPaper p e R s m args below meth c (MQ below (QcS Z Rp) args s 0 0 (fun a => Z.2.2.1 < a)) 44 (w_X12_winsOnPaper_44 (MS Z (d + 12)) (Gw Z 3 p e R s m args below meth c (MQ below (QcS Z Rp) args s 0 0 (fun a => Z.2.2.1 < a))) Rp) := by
  unfold w_X12_winsOnPaper_44
  exact s_iret C rfl (by decide +kernel)
set_option maxRecDepth 20000 in
theorem b_X12_winsOnPaper_43 {Z : Zt} {d : Nat} {p : Program} {e : Env} {R : Room} {s : State} {m : MethodId} {args : Array Value} {below : List Frame} {meth : Method} {c : Code} {Rp : RT} (C : Cx Z (d + 12) jX12_winsOnPaper RX12 p R s m args meth c) : Sd Z jX12_winsOnPaper p e R s m args below meth c (MQ below (QcS Z Rp) args s 0 0 (fun a => Z.2.2.1 < a)) 43 (w_X12_winsOnPaper_43 (MS Z (d + 12)) (Gw Z 3 p e R s m args below meth c (MQ below (QcS Z Rp) args s 0 0 (fun a => Z.2.2.1 < a))) Rp) := by
  unfold w_X12_winsOnPaper_43
  refine s_iconst (n := 0) C (by decide +kernel) (by decide) ?_
  exact (b_X12_winsOnPaper_44 C)
set_option maxRecDepth 20000 in
theorem b_X12_winsOnPaper_18 {Z : Zt} {d : Nat} {p : Program} {e : Env} {R : Room} {s : State} {m : MethodId} {args : Array Value} {below : List Frame} {meth : Method} {c : Code} {Rp : RT} (C : Cx Z (d + 12) jX12_winsOnPaper RX12 p R s m args meth c) : Sd Z jX12_winsOnPaper p e R s m args below meth c (MQ below (QcS Z Rp) args s 0 0 (fun a => Z.2.2.1 < a)) 18 (w_X12_winsOnPaper_18 (MS Z (d + 12)) (Gw Z 3 p e R s m args below meth c (MQ below (QcS Z Rp) args s 0 0 (fun a => Z.2.2.1 < a))) Rp) := by
  unfold w_X12_winsOnPaper_18
  refine s_aload_n (k := 0) C (by decide +kernel) ?_
  refine s_iload_n (k := 1) C (by decide +kernel) ?_
  refine s_fnV C (j2 := jX12_asks) (cl := 12) (nf := 27) rfl rfl (by decide +kernel) rfl w_7_3 w_7_5 w_p4_0 w_1_13 w_7_6 (by decide +kernel) (fun _ _ _ _ _ h => f_X12_asks h) (fun _ _ _ _ _ h => r_X12_asks h) ?_
  refine s_aload_n (k := 0) C (by decide +kernel) ?_
  refine s_sipush (n := 300) C (by decide +kernel) (by decide) ?_
  refine s_fnV C (j2 := jX12_settles) (cl := 12) (nf := 27) rfl rfl (by decide +kernel) rfl w_8_21 w_8_23 w_p7_0 w_1_13 w_8_24 (by decide +kernel) (fun _ _ _ _ _ h => f_X12_settles h) (fun _ _ _ _ _ h => r_X12_settles h) ?_
  refine s_istore_n (k := 2) C (by decide +kernel) ?_
  refine s_aload_n (k := 0) C (by decide +kernel) ?_
  refine s_iload_n (k := 1) C (by decide +kernel) ?_
  refine s_fnV C (j2 := jX12_isLeader) (cl := 12) (nf := 27) rfl rfl (by decide +kernel) rfl w_6_236 w_6_238 w_p3_15 w_1_13 w_6_239 (by decide +kernel) (fun _ _ _ _ _ h => f_X12_isLeader h) (fun _ _ _ _ _ h => r_X12_isLeader h) ?_
  refine s_if_eq (off := 7) (tgt := 43) C (by decide +kernel) (by decide) (b_X12_winsOnPaper_43 C) ?_
  refine s_iconst (n := 1) C (by decide +kernel) (by decide) ?_
  exact s_goto (off := 4) (tgt := 44) C (by decide +kernel) (by decide) (b_X12_winsOnPaper_44 C)
set_option maxRecDepth 20000 in
theorem b_X12_winsOnPaper_0 {Z : Zt} {d : Nat} {p : Program} {e : Env} {R : Room} {s : State} {m : MethodId} {args : Array Value} {below : List Frame} {meth : Method} {c : Code} {Rp : RT} (C : Cx Z (d + 12) jX12_winsOnPaper RX12 p R s m args meth c) : Sd Z jX12_winsOnPaper p e R s m args below meth c (MQ below (QcS Z Rp) args s 0 0 (fun a => Z.2.2.1 < a)) 0 (w_X12_winsOnPaper_0 (MS Z (d + 12)) (Gw Z 3 p e R s m args below meth c (MQ below (QcS Z Rp) args s 0 0 (fun a => Z.2.2.1 < a))) Rp) := by
  unfold w_X12_winsOnPaper_0
  refine s_aload_n (k := 0) C (by decide +kernel) ?_
  refine s_sipush (n := 300) C (by decide +kernel) (by decide) ?_
  refine s_fnV C (j2 := jX12_settles) (cl := 12) (nf := 27) rfl rfl (by decide +kernel) rfl w_8_21 w_8_23 w_p7_0 w_1_13 w_8_24 (by decide +kernel) (fun _ _ _ _ _ h => f_X12_settles h) (fun _ _ _ _ _ h => r_X12_settles h) ?_
  refine s_istore_n (k := 2) C (by decide +kernel) ?_
  refine s_aload_n (k := 0) C (by decide +kernel) ?_
  refine s_iload_n (k := 1) C (by decide +kernel) ?_
  refine s_fnV C (j2 := jX12_whyNot) (cl := 12) (nf := 27) rfl rfl (by decide +kernel) rfl w_6_212 w_6_214 w_p3_9 w_1_13 w_6_215 (by decide +kernel) (fun _ _ _ _ _ h => f_X12_whyNot h) (fun _ _ _ _ _ h => r_X12_whyNot h) ?_
  refine s_if_eq (off := 5) (tgt := 18) C (by decide +kernel) (by decide) (b_X12_winsOnPaper_18 C) ?_
  refine s_iconst (n := (-1)) C (by decide +kernel) (by decide) ?_
  exact s_iret C rfl (by decide +kernel)
theorem ms_X12_winsOnPaper {Z : Zt} {d : Nat} {S : Sh} {μ : Mi} {ρ : Mr} {Rp : RT} (a0 : Nat) (x1 : Int32) (h : ∀ G : Nat → PT, w_X12_winsOnPaper_0 (MS Z (d + 12)) G Rp [.ref a0, .int x1, .null] [] S (0, 0) μ ρ) : MS Z (d + 13) jX12_winsOnPaper [.ref a0, .int x1] S μ ρ Rp :=
  MS_of [.ref a0, .int x1, .null] (by decide +kernel) rfl rfl (Nat.le_of_ble_eq_true rfl) rfl (fun p e R s m args below meth c C => b_X12_winsOnPaper_0 C _ _ _ _ _ _ (h _ ))
def F_X12_winsOnPaper : FT := fun As S μ ρ k => match As with
  | [.ref a, .int s] => a = 2737 ∧ RS S ρ ∧ rg s 0 4 ∧ good (μ 2738) ∧ ∀ (t : T4) (g : Rw), k (some (.int (qWinsP (μ 2738) s.toNatClampNeg).1)) (M4 μ g t (qWinsP (μ 2738) s.toNatClampNeg).2)
  | _ => False
theorem r_X12_winsOnPaper {As S μ ρ k} (h : F_X12_winsOnPaper As S μ ρ k) : ∃ a As', As = Value.ref a :: As' ∧ S.2 a = (12, 27) := by
  unfold F_X12_winsOnPaper at h
  split at h
  · exact ⟨_, _, rfl, by rw [h.1]; exact h.2.1.1⟩
  · exact h.elim
set_option maxHeartbeats 1000000 in
theorem f_X12_winsOnPaper {Z : Zt} {d : Nat} {As : List Value} {S : Sh} {μ : Mi} {ρ : Mr} {Rp : RT} (h : F_X12_winsOnPaper As S μ ρ (fun r μ' => Rp r S μ' ρ)) : MS Z (d + 13) jX12_winsOnPaper As S μ ρ Rp := by
  unfold F_X12_winsOnPaper at h
  split at h
  · rename_i a s
    obtain ⟨rfl, hS, h⟩ := h
    have hS0 := hS
    unfold RS at hS
    obtain ⟨h1, hg, h⟩ := h
    obtain ⟨s, rfl, hs0, -, hs⟩ := rg_ex h1
    have hrs := rg_T (lo := 0) (hi := 4) (n := s) (by omega) (by omega) hs0
    have hs5 : s < 5 := by omega
    simp (disch := omega) only [nI_clamp] at h
    obtain ⟨g0, t0, h0⟩ := M4_self μ
    rw [h0]
    generalize hA : μ 2738 = A at *
    unfold qWinsP at h
    have g1 := good_set (n := 300) hg
    have hst := good_st g1 hs5
    refine ms_X12_winsOnPaper _ _ (fun G => ?_)
    simp only [w_X12_winsOnPaper_0, w_X12_winsOnPaper_18, w_X12_winsOnPaper_43, w_X12_winsOnPaper_44, tAload, tIload, nth, tGetI, tGetR, tConst, tLconst, tBin, tUn, tI2l, tAld, tAldR, tAlen, tIast, tBast, tZast, tAast, tIret, tZret, tVret, tAret, tIf, tIf2, tGoto, tIstore, tAstore, sset, tIinc, tDup, tDup2, tPop, tPutI, tPutZ, tPutR, tCallV, tCallS, popN, tFn, tCopy, tMax, tMin, tSw, swc, tRem, tObjI, Option.toList, List.nil_append, List.cons_append, okR, true_and, and_true, true_or, or_true, Nat.zero_le, ne_eq, not_false_eq_true, Nat.reduceEqDiff, F_X12_settles, F_X12_whyNot, F_X12_asks, F_X12_isLeader, hS0, hrs, r300, cl_300, M4_row, M4_M4, M4_setM, M4_M3, b2_z, Decidable.not_not]
    simp (disch := omega) only [nI_clamp]
    refine ⟨hg, fun t g => ⟨hst.1.1.2.1, hst.1.1.2.2.1, fun c2 => ⟨fun _ => ⟨suOK_to hst c2, fun t => ⟨good_step g1 (Sp.asks hs5 c2), fun t g => ⟨fun c3 => ?_, fun c3 => ?_⟩⟩⟩, fun z => absurd trivial z⟩, fun c2 => ⟨fun z => absurd z (by decide), fun _ => ?_⟩⟩⟩
    · have := h t g
      rw [canT_eq] at c2
      rw [if_neg (not_not_intro c2), if_neg c3] at this; exact this
    · have := h t g
      rw [canT_eq] at c2
      rw [if_neg (not_not_intro c2), if_pos c3] at this; exact this
    · have := h (qMem (setF 300 A) s) g
      rw [canT_eq] at c2
      rw [if_pos c2] at this; exact this
  · exact h.elim
def vWins (A : Rw) (s : Int32) : Int32 := if ¬ rgd s 0 4 then -2 else (qWinsP A s.toNatClampNeg).1
def w_X12_wins_15 (M : CT) (G : Nat → PT) (Rp : RT) : PT := tAload 0 <| tFn 1 F_X12_opensPaper <| tAload 0 <| tIload 1 <| tFn 2 F_X12_winsOnPaper <| tIstore 2 <| tAload 0 <| tFn 1 F_X12_closesPaper <| tIload 2 <| tIret Rp
def w_X12_wins_0 (M : CT) (G : Nat → PT) (Rp : RT) : PT := tAload 0 <| tConst 0 <| tPutI 12 27 0 <| tIload 1 <| tFn 1 F_X12_isStore <| tIf (fun x => x ≠ 0) (w_X12_wins_15 M G Rp) <| tConst (-2) <| tIret Rp
set_option maxRecDepth 20000 in
theorem b_X12_wins_15 {Z : Zt} {d : Nat} {p : Program} {e : Env} {R : Room} {s : State} {m : MethodId} {args : Array Value} {below : List Frame} {meth : Method} {c : Code} {Rp : RT} (C : Cx Z (d + 13) jX12_wins RX12 p R s m args meth c) : Sd Z jX12_wins p e R s m args below meth c (MQ below (QcS Z Rp) args s 0 0 (fun a => Z.2.2.1 < a)) 15 (w_X12_wins_15 (MS Z (d + 13)) (Gw Z 3 p e R s m args below meth c (MQ below (QcS Z Rp) args s 0 0 (fun a => Z.2.2.1 < a))) Rp) := by
  unfold w_X12_wins_15
  refine s_aload_n (k := 0) C (by decide +kernel) ?_
  refine s_fnV C (j2 := jX12_opensPaper) (cl := 12) (nf := 27) rfl rfl (by decide +kernel) rfl w_8_193 w_8_195 w_p8_4 w_1_13 w_8_196 (by decide +kernel) (fun _ _ _ _ _ h => f_X12_opensPaper h) (fun _ _ _ _ _ h => r_X12_opensPaper h) ?_
  refine s_aload_n (k := 0) C (by decide +kernel) ?_
  refine s_iload_n (k := 1) C (by decide +kernel) ?_
  refine s_fnV C (j2 := jX12_winsOnPaper) (cl := 12) (nf := 27) rfl rfl (by decide +kernel) rfl w_8_197 w_8_199 w_p8_5 w_1_13 w_8_200 (by decide +kernel) (fun _ _ _ _ _ h => f_X12_winsOnPaper h) (fun _ _ _ _ _ h => r_X12_winsOnPaper h) ?_
  refine s_istore_n (k := 2) C (by decide +kernel) ?_
  refine s_aload_n (k := 0) C (by decide +kernel) ?_
  refine s_fnV C (j2 := jX12_closesPaper) (cl := 12) (nf := 27) rfl rfl (by decide +kernel) rfl w_8_201 w_8_203 w_p8_6 w_1_13 w_8_204 (by decide +kernel) (fun _ _ _ _ _ h => f_X12_closesPaper h) (fun _ _ _ _ _ h => r_X12_closesPaper h) ?_
  refine s_iload_n (k := 2) C (by decide +kernel) ?_
  exact s_iret C rfl (by decide +kernel)
set_option maxRecDepth 20000 in
theorem b_X12_wins_0 {Z : Zt} {d : Nat} {p : Program} {e : Env} {R : Room} {s : State} {m : MethodId} {args : Array Value} {below : List Frame} {meth : Method} {c : Code} {Rp : RT} (C : Cx Z (d + 13) jX12_wins RX12 p R s m args meth c) : Sd Z jX12_wins p e R s m args below meth c (MQ below (QcS Z Rp) args s 0 0 (fun a => Z.2.2.1 < a)) 0 (w_X12_wins_0 (MS Z (d + 13)) (Gw Z 3 p e R s m args below meth c (MQ below (QcS Z Rp) args s 0 0 (fun a => Z.2.2.1 < a))) Rp) := by
  unfold w_X12_wins_0
  refine s_aload_n (k := 0) C (by decide +kernel) ?_
  refine s_iconst (n := 0) C (by decide +kernel) (by decide) ?_
  refine s_putI C w_6_87 (by decide +kernel) rfl (Or.inl rfl) ?_
  refine s_iload_n (k := 1) C (by decide +kernel) ?_
  refine s_fnS C (j2 := jX12_isStore) (by decide +kernel) rfl w_6_208 w_6_209 w_1_13 w_6_210 (by decide +kernel) (fun _ _ _ _ _ h => f_X12_isStore h) ?_
  refine s_if_ne (off := 6) (tgt := 15) C (by decide +kernel) (by decide) (b_X12_wins_15 C) ?_
  refine s_bipush (n := (-2)) C (by decide +kernel) (by decide) ?_
  exact s_iret C rfl (by decide +kernel)
theorem ms_X12_wins {Z : Zt} {d : Nat} {S : Sh} {μ : Mi} {ρ : Mr} {Rp : RT} (a0 : Nat) (x1 : Int32) (h : ∀ G : Nat → PT, w_X12_wins_0 (MS Z (d + 13)) G Rp [.ref a0, .int x1, .null] [] S (0, 0) μ ρ) : MS Z (d + 14) jX12_wins [.ref a0, .int x1] S μ ρ Rp :=
  MS_of [.ref a0, .int x1, .null] (by decide +kernel) rfl rfl (Nat.le_of_ble_eq_true rfl) rfl (fun p e R s m args below meth c C => b_X12_wins_0 C _ _ _ _ _ _ (h _ ))
def F_X12_wins : FT := fun As S μ ρ k => match As with
  | [.ref a, .int s] => a = 2737 ∧ RS S ρ ∧ good (μ 2738) ∧ ∀ μ', RQ μ μ' (μ 2738) (μ 2739) (μ 2737 6) → k (some (.int (vWins (μ 2738) s))) μ'
  | _ => False
theorem r_X12_wins {As S μ ρ k} (h : F_X12_wins As S μ ρ k) : ∃ a As', As = Value.ref a :: As' ∧ S.2 a = (12, 27) := by
  unfold F_X12_wins at h
  split at h
  · exact ⟨_, _, rfl, by rw [h.1]; exact h.2.1.1⟩
  · exact h.elim
set_option maxHeartbeats 1000000 in
theorem f_X12_wins {Z : Zt} {d : Nat} {As : List Value} {S : Sh} {μ : Mi} {ρ : Mr} {Rp : RT} (h : F_X12_wins As S μ ρ (fun r μ' => Rp r S μ' ρ)) : MS Z (d + 14) jX12_wins As S μ ρ Rp := by
  unfold F_X12_wins at h
  split at h
  · rename_i a s
    obtain ⟨rfl, hS, h⟩ := h
    have hS0 := hS
    unfold RS at hS
    obtain ⟨hg, h⟩ := h
    unfold vWins at h
    refine ms_X12_wins _ _ (fun G => ?_)
    simp only [w_X12_wins_0, w_X12_wins_15, tAload, tIload, nth, tGetI, tGetR, tConst, tLconst, tBin, tUn, tI2l, tAld, tAldR, tAlen, tIast, tBast, tZast, tAast, tIret, tZret, tVret, tAret, tIf, tIf2, tGoto, tIstore, tAstore, sset, tIinc, tDup, tDup2, tPop, tPutI, tPutZ, tPutR, tCallV, tCallS, popN, tFn, tCopy, tMax, tMin, tSw, swc, tRem, tObjI, Option.toList, List.nil_append, List.cons_append, okR, true_and, and_true, true_or, or_true, Nat.zero_le, ne_eq, not_false_eq_true, Nat.reduceEqDiff, F_X12_isStore, F_X12_opensPaper, F_X12_winsOnPaper, F_X12_closesPaper, hS0, hS, e6, M6_row, M7_eq, M7_row, M4_row, M4_upF, b2_z, Decidable.not_not]
    refine ⟨fun c => ⟨c, hg, fun t g => ?_⟩, fun c => ?_⟩
    · have hs5 : s.toNatClampNeg < 5 := by
        obtain ⟨s, rfl, hs0, -, hs⟩ := rg_ex (lo := 0) (hi := 4) c
        rw [nI_clamp hs0]; omega
      rw [M7_back (Hi_winsP hg hs5)]
      have := h _ (RQ_7 (g := g) (t := t))
      rw [if_neg (not_not_intro c)] at this; exact this
    · have := h _ RQ_0
      rw [if_pos c] at this; exact this
  · exact h.elim
def vThen (A : Rw) (s w : Int32) : Int32 := if ¬ (rgd s 0 4 ∧ rgd w 0 16) then -2 else vTold (setF 300 A) s.toNatClampNeg w
def w_X12_then_27 (M : CT) (G : Nat → PT) (Rp : RT) : PT := tAload 0 <| tFn 1 F_X12_opensPaper <| tAload 0 <| tConst 300 <| tFn 2 F_X12_settles <| tIstore 3 <| tAload 0 <| tIload 1 <| tIload 2 <| tFn 3 F_X12_told <| tIstore 4 <| tAload 0 <| tFn 1 F_X12_closesPaper <| tIload 4 <| tIret Rp
def w_X12_then_24 (M : CT) (G : Nat → PT) (Rp : RT) : PT := tConst (-2) <| tIret Rp
def w_X12_then_0 (M : CT) (G : Nat → PT) (Rp : RT) : PT := tAload 0 <| tConst 0 <| tPutI 12 27 0 <| tIload 1 <| tFn 1 F_X12_isStore <| tIf (fun x => x = 0) (w_X12_then_24 M G Rp) <| tIload 2 <| tI2l <| tLconst 0 <| tLconst 16 <| tFn 3 F_X12_within <| tIf (fun x => x ≠ 0) (w_X12_then_27 M G Rp) <| w_X12_then_24 M G Rp
set_option maxRecDepth 20000 in
theorem b_X12_then_27 {Z : Zt} {d : Nat} {p : Program} {e : Env} {R : Room} {s : State} {m : MethodId} {args : Array Value} {below : List Frame} {meth : Method} {c : Code} {Rp : RT} (C : Cx Z (d + 12) jX12_then RX12 p R s m args meth c) : Sd Z jX12_then p e R s m args below meth c (MQ below (QcS Z Rp) args s 0 0 (fun a => Z.2.2.1 < a)) 27 (w_X12_then_27 (MS Z (d + 12)) (Gw Z 5 p e R s m args below meth c (MQ below (QcS Z Rp) args s 0 0 (fun a => Z.2.2.1 < a))) Rp) := by
  unfold w_X12_then_27
  refine s_aload_n (k := 0) C (by decide +kernel) ?_
  refine s_fnV C (j2 := jX12_opensPaper) (cl := 12) (nf := 27) rfl rfl (by decide +kernel) rfl w_8_193 w_8_195 w_p8_4 w_1_13 w_8_196 (by decide +kernel) (fun _ _ _ _ _ h => f_X12_opensPaper h) (fun _ _ _ _ _ h => r_X12_opensPaper h) ?_
  refine s_aload_n (k := 0) C (by decide +kernel) ?_
  refine s_sipush (n := 300) C (by decide +kernel) (by decide) ?_
  refine s_fnV C (j2 := jX12_settles) (cl := 12) (nf := 27) rfl rfl (by decide +kernel) rfl w_8_21 w_8_23 w_p7_0 w_1_13 w_8_24 (by decide +kernel) (fun _ _ _ _ _ h => f_X12_settles h) (fun _ _ _ _ _ h => r_X12_settles h) ?_
  refine s_istore_n (k := 3) C (by decide +kernel) ?_
  refine s_aload_n (k := 0) C (by decide +kernel) ?_
  refine s_iload_n (k := 1) C (by decide +kernel) ?_
  refine s_iload_n (k := 2) C (by decide +kernel) ?_
  refine s_fnV C (j2 := jX12_told) (cl := 12) (nf := 27) rfl rfl (by decide +kernel) rfl w_8_98 w_8_100 w_p7_12 w_1_13 w_8_101 (by decide +kernel) (fun _ _ _ _ _ h => f_X12_told h) (fun _ _ _ _ _ h => r_X12_told h) ?_
  refine s_istore (k := 4) C (by decide +kernel) ?_
  refine s_aload_n (k := 0) C (by decide +kernel) ?_
  refine s_fnV C (j2 := jX12_closesPaper) (cl := 12) (nf := 27) rfl rfl (by decide +kernel) rfl w_8_201 w_8_203 w_p8_6 w_1_13 w_8_204 (by decide +kernel) (fun _ _ _ _ _ h => f_X12_closesPaper h) (fun _ _ _ _ _ h => r_X12_closesPaper h) ?_
  refine s_iload (k := 4) C (by decide +kernel) ?_
  exact s_iret C rfl (by decide +kernel)
set_option maxRecDepth 20000 in
theorem b_X12_then_24 {Z : Zt} {d : Nat} {p : Program} {e : Env} {R : Room} {s : State} {m : MethodId} {args : Array Value} {below : List Frame} {meth : Method} {c : Code} {Rp : RT} (C : Cx Z (d + 12) jX12_then RX12 p R s m args meth c) : Sd Z jX12_then p e R s m args below meth c (MQ below (QcS Z Rp) args s 0 0 (fun a => Z.2.2.1 < a)) 24 (w_X12_then_24 (MS Z (d + 12)) (Gw Z 5 p e R s m args below meth c (MQ below (QcS Z Rp) args s 0 0 (fun a => Z.2.2.1 < a))) Rp) := by
  unfold w_X12_then_24
  refine s_bipush (n := (-2)) C (by decide +kernel) (by decide) ?_
  exact s_iret C rfl (by decide +kernel)
set_option maxRecDepth 20000 in
theorem b_X12_then_0 {Z : Zt} {d : Nat} {p : Program} {e : Env} {R : Room} {s : State} {m : MethodId} {args : Array Value} {below : List Frame} {meth : Method} {c : Code} {Rp : RT} (C : Cx Z (d + 12) jX12_then RX12 p R s m args meth c) : Sd Z jX12_then p e R s m args below meth c (MQ below (QcS Z Rp) args s 0 0 (fun a => Z.2.2.1 < a)) 0 (w_X12_then_0 (MS Z (d + 12)) (Gw Z 5 p e R s m args below meth c (MQ below (QcS Z Rp) args s 0 0 (fun a => Z.2.2.1 < a))) Rp) := by
  unfold w_X12_then_0
  refine s_aload_n (k := 0) C (by decide +kernel) ?_
  refine s_iconst (n := 0) C (by decide +kernel) (by decide) ?_
  refine s_putI C w_6_87 (by decide +kernel) rfl (Or.inl rfl) ?_
  refine s_iload_n (k := 1) C (by decide +kernel) ?_
  refine s_fnS C (j2 := jX12_isStore) (by decide +kernel) rfl w_6_208 w_6_209 w_1_13 w_6_210 (by decide +kernel) (fun _ _ _ _ _ h => f_X12_isStore h) ?_
  refine s_if_eq (off := 15) (tgt := 24) C (by decide +kernel) (by decide) (b_X12_then_24 C) ?_
  refine s_iload_n (k := 2) C (by decide +kernel) ?_
  refine s_i2l C (by decide +kernel) ?_
  refine s_lconst (n := 0) C (by decide +kernel) (by decide) ?_
  refine s_ldc2 C w_8_97 (by decide +kernel) ?_
  refine s_fnS C (j2 := jX12_within) (by decide +kernel) rfl w_6_175 w_6_176 w_1_13 w_6_177 (by decide +kernel) (fun _ _ _ _ _ h => f_X12_within h) ?_
  refine s_if_ne (off := 6) (tgt := 27) C (by decide +kernel) (by decide) (b_X12_then_27 C) ?_
  exact (b_X12_then_24 C)
theorem ms_X12_then {Z : Zt} {d : Nat} {S : Sh} {μ : Mi} {ρ : Mr} {Rp : RT} (a0 : Nat) (x1 : Int32) (x2 : Int32) (h : ∀ G : Nat → PT, w_X12_then_0 (MS Z (d + 12)) G Rp [.ref a0, .int x1, .int x2, .null, .null] [] S (0, 0) μ ρ) : MS Z (d + 13) jX12_then [.ref a0, .int x1, .int x2] S μ ρ Rp :=
  MS_of [.ref a0, .int x1, .int x2, .null, .null] (by decide +kernel) rfl rfl (Nat.le_of_ble_eq_true rfl) rfl (fun p e R s m args below meth c C => b_X12_then_0 C _ _ _ _ _ _ (h _ ))
def F_X12_then : FT := fun As S μ ρ k => match As with
  | [.ref a, .int s, .int w] => a = 2737 ∧ RS S ρ ∧ good (μ 2738) ∧ ∀ μ', RQ μ μ' (μ 2738) (μ 2739) (μ 2737 6) → k (some (.int (vThen (μ 2738) s w))) μ'
  | _ => False
theorem r_X12_then {As S μ ρ k} (h : F_X12_then As S μ ρ k) : ∃ a As', As = Value.ref a :: As' ∧ S.2 a = (12, 27) := by
  unfold F_X12_then at h
  split at h
  · exact ⟨_, _, rfl, by rw [h.1]; exact h.2.1.1⟩
  · exact h.elim
set_option maxHeartbeats 1000000 in
theorem f_X12_then {Z : Zt} {d : Nat} {As : List Value} {S : Sh} {μ : Mi} {ρ : Mr} {Rp : RT} (h : F_X12_then As S μ ρ (fun r μ' => Rp r S μ' ρ)) : MS Z (d + 13) jX12_then As S μ ρ Rp := by
  unfold F_X12_then at h
  split at h
  · rename_i a s w
    obtain ⟨rfl, hS, h⟩ := h
    have hS0 := hS
    unfold RS at hS
    obtain ⟨hg, h⟩ := h
    unfold vThen at h
    refine ms_X12_then _ _ _ (fun G => ?_)
    have bad : ¬ (rgd s 0 4 ∧ rgd w 0 16) → Rp (some (.int (-2))) S (M6 μ) ρ := by
      intro c
      have := h _ RQ_0
      rw [if_pos c] at this
      exact this
    simp only [w_X12_then_0, w_X12_then_24, w_X12_then_27, tAload, tIload, nth, tGetI, tGetR, tConst, tLconst, tBin, tUn, tI2l, tAld, tAldR, tAlen, tIast, tBast, tZast, tAast, tIret, tZret, tVret, tAret, tIf, tIf2, tGoto, tIstore, tAstore, sset, tIinc, tDup, tDup2, tPop, tPutI, tPutZ, tPutR, tCallV, tCallS, popN, tFn, tCopy, tMax, tMin, tSw, swc, tRem, tObjI, Option.toList, List.nil_append, List.cons_append, okR, true_and, and_true, true_or, or_true, Nat.zero_le, ne_eq, not_false_eq_true, Nat.reduceEqDiff, F_X12_isStore, F_X12_within, F_X12_opensPaper, F_X12_settles, F_X12_told, F_X12_closesPaper, hS0, hS, e6, M6_row, M7_eq, M7_row, M4_row, M4_upF, M4_setM, r300, cl_300, b2_z, Decidable.not_not, l_leC, l_geC, il_0, il_16]
    refine ⟨fun c => bad (fun z => c z.1), fun c => ⟨fun c2 => ⟨hg, fun t g => ⟨c, ?_, ?_⟩⟩, fun c2 => bad (fun z => c2 z.2)⟩⟩
    · obtain ⟨s, rfl, hs0, -, hs⟩ := rg_ex (lo := 0) (hi := 4) c
      rw [nI_clamp hs0]
      exact good_bs (good_set hg) (by omega)
    · rw [M7_back (Hi_set hg)]
      have := h _ (RQ_7 (g := g) (t := qMem (setF 300 (μ 2738)) s.toNatClampNeg))
      rw [if_neg (not_not_intro ⟨c, c2⟩)] at this; exact this
  · exact h.elim
def vStorm (A : Rw) (w : Int32) : Int32 := if ¬ rgd w 0 1 then -2 else if w = 0 then nI (setN 300 A) else setF 300 A 4511 - A 4511
def w_X12_storm_63 (M : CT) (G : Nat → PT) (Rp : RT) : PT := tIret Rp
def w_X12_storm_62 (M : CT) (G : Nat → PT) (Rp : RT) : PT := tIload 2 <| w_X12_storm_63 M G Rp
def w_X12_storm_18 (M : CT) (G : Nat → PT) (Rp : RT) : PT := tAload 0 <| tFn 1 F_X12_opensPaper <| tAload 0 <| tGetR 12 27 1 <| tConst 4511 <| tAld 20 <| tIstore 2 <| tAload 0 <| tConst 300 <| tFn 2 F_X12_settles <| tIstore 3 <| tAload 0 <| tGetR 12 27 1 <| tConst 4511 <| tAld 20 <| tIload 2 <| tBin (fun x y => x - y) <| tIstore 2 <| tAload 0 <| tFn 1 F_X12_closesPaper <| tIload 1 <| tIf (fun x => x ≠ 0) (w_X12_storm_62 M G Rp) <| tIload 3 <| tGoto (w_X12_storm_63 M G Rp)
def w_X12_storm_0 (M : CT) (G : Nat → PT) (Rp : RT) : PT := tAload 0 <| tConst 0 <| tPutI 12 27 0 <| tIload 1 <| tI2l <| tLconst 0 <| tLconst 1 <| tFn 3 F_X12_within <| tIf (fun x => x ≠ 0) (w_X12_storm_18 M G Rp) <| tConst (-2) <| tIret Rp
set_option maxRecDepth 20000 in
theorem b_X12_storm_63 {Z : Zt} {d : Nat} {p : Program} {e : Env} {R : Room} {s : State} {m : MethodId} {args : Array Value} {below : List Frame} {meth : Method} {c : Code} {Rp : RT} (C : Cx Z (d + 12) jX12_storm RX12 p R s m args meth c) : Sd Z jX12_storm p e R s m args below meth c (MQ below (QcS Z Rp) args s 0 0 (fun a => Z.2.2.1 < a)) 63 (w_X12_storm_63 (MS Z (d + 12)) (Gw Z 4 p e R s m args below meth c (MQ below (QcS Z Rp) args s 0 0 (fun a => Z.2.2.1 < a))) Rp) := by
  unfold w_X12_storm_63
  exact s_iret C rfl (by decide +kernel)
set_option maxRecDepth 20000 in
theorem b_X12_storm_62 {Z : Zt} {d : Nat} {p : Program} {e : Env} {R : Room} {s : State} {m : MethodId} {args : Array Value} {below : List Frame} {meth : Method} {c : Code} {Rp : RT} (C : Cx Z (d + 12) jX12_storm RX12 p R s m args meth c) : Sd Z jX12_storm p e R s m args below meth c (MQ below (QcS Z Rp) args s 0 0 (fun a => Z.2.2.1 < a)) 62 (w_X12_storm_62 (MS Z (d + 12)) (Gw Z 4 p e R s m args below meth c (MQ below (QcS Z Rp) args s 0 0 (fun a => Z.2.2.1 < a))) Rp) := by
  unfold w_X12_storm_62
  refine s_iload_n (k := 2) C (by decide +kernel) ?_
  exact (b_X12_storm_63 C)
set_option maxRecDepth 20000 in
theorem b_X12_storm_18 {Z : Zt} {d : Nat} {p : Program} {e : Env} {R : Room} {s : State} {m : MethodId} {args : Array Value} {below : List Frame} {meth : Method} {c : Code} {Rp : RT} (C : Cx Z (d + 12) jX12_storm RX12 p R s m args meth c) : Sd Z jX12_storm p e R s m args below meth c (MQ below (QcS Z Rp) args s 0 0 (fun a => Z.2.2.1 < a)) 18 (w_X12_storm_18 (MS Z (d + 12)) (Gw Z 4 p e R s m args below meth c (MQ below (QcS Z Rp) args s 0 0 (fun a => Z.2.2.1 < a))) Rp) := by
  unfold w_X12_storm_18
  refine s_aload_n (k := 0) C (by decide +kernel) ?_
  refine s_fnV C (j2 := jX12_opensPaper) (cl := 12) (nf := 27) rfl rfl (by decide +kernel) rfl w_8_193 w_8_195 w_p8_4 w_1_13 w_8_196 (by decide +kernel) (fun _ _ _ _ _ h => f_X12_opensPaper h) (fun _ _ _ _ _ h => r_X12_opensPaper h) ?_
  refine s_aload_n (k := 0) C (by decide +kernel) ?_
  refine s_getR C w_6_88 (by decide +kernel) rfl ?_
  refine s_sipush (n := 4511) C (by decide +kernel) (by decide) ?_
  refine s_iald C (by decide +kernel) ?_
  refine s_istore_n (k := 2) C (by decide +kernel) ?_
  refine s_aload_n (k := 0) C (by decide +kernel) ?_
  refine s_sipush (n := 300) C (by decide +kernel) (by decide) ?_
  refine s_fnV C (j2 := jX12_settles) (cl := 12) (nf := 27) rfl rfl (by decide +kernel) rfl w_8_21 w_8_23 w_p7_0 w_1_13 w_8_24 (by decide +kernel) (fun _ _ _ _ _ h => f_X12_settles h) (fun _ _ _ _ _ h => r_X12_settles h) ?_
  refine s_istore_n (k := 3) C (by decide +kernel) ?_
  refine s_aload_n (k := 0) C (by decide +kernel) ?_
  refine s_getR C w_6_88 (by decide +kernel) rfl ?_
  refine s_sipush (n := 4511) C (by decide +kernel) (by decide) ?_
  refine s_iald C (by decide +kernel) ?_
  refine s_iload_n (k := 2) C (by decide +kernel) ?_
  refine s_isub C (by decide +kernel) ?_
  refine s_istore_n (k := 2) C (by decide +kernel) ?_
  refine s_aload_n (k := 0) C (by decide +kernel) ?_
  refine s_fnV C (j2 := jX12_closesPaper) (cl := 12) (nf := 27) rfl rfl (by decide +kernel) rfl w_8_201 w_8_203 w_p8_6 w_1_13 w_8_204 (by decide +kernel) (fun _ _ _ _ _ h => f_X12_closesPaper h) (fun _ _ _ _ _ h => r_X12_closesPaper h) ?_
  refine s_iload_n (k := 1) C (by decide +kernel) ?_
  refine s_if_ne (off := 7) (tgt := 62) C (by decide +kernel) (by decide) (b_X12_storm_62 C) ?_
  refine s_iload_n (k := 3) C (by decide +kernel) ?_
  exact s_goto (off := 4) (tgt := 63) C (by decide +kernel) (by decide) (b_X12_storm_63 C)
set_option maxRecDepth 20000 in
theorem b_X12_storm_0 {Z : Zt} {d : Nat} {p : Program} {e : Env} {R : Room} {s : State} {m : MethodId} {args : Array Value} {below : List Frame} {meth : Method} {c : Code} {Rp : RT} (C : Cx Z (d + 12) jX12_storm RX12 p R s m args meth c) : Sd Z jX12_storm p e R s m args below meth c (MQ below (QcS Z Rp) args s 0 0 (fun a => Z.2.2.1 < a)) 0 (w_X12_storm_0 (MS Z (d + 12)) (Gw Z 4 p e R s m args below meth c (MQ below (QcS Z Rp) args s 0 0 (fun a => Z.2.2.1 < a))) Rp) := by
  unfold w_X12_storm_0
  refine s_aload_n (k := 0) C (by decide +kernel) ?_
  refine s_iconst (n := 0) C (by decide +kernel) (by decide) ?_
  refine s_putI C w_6_87 (by decide +kernel) rfl (Or.inl rfl) ?_
  refine s_iload_n (k := 1) C (by decide +kernel) ?_
  refine s_i2l C (by decide +kernel) ?_
  refine s_lconst (n := 0) C (by decide +kernel) (by decide) ?_
  refine s_lconst (n := 1) C (by decide +kernel) (by decide) ?_
  refine s_fnS C (j2 := jX12_within) (by decide +kernel) rfl w_6_175 w_6_176 w_1_13 w_6_177 (by decide +kernel) (fun _ _ _ _ _ h => f_X12_within h) ?_
  refine s_if_ne (off := 6) (tgt := 18) C (by decide +kernel) (by decide) (b_X12_storm_18 C) ?_
  refine s_bipush (n := (-2)) C (by decide +kernel) (by decide) ?_
  exact s_iret C rfl (by decide +kernel)
theorem ms_X12_storm {Z : Zt} {d : Nat} {S : Sh} {μ : Mi} {ρ : Mr} {Rp : RT} (a0 : Nat) (x1 : Int32) (h : ∀ G : Nat → PT, w_X12_storm_0 (MS Z (d + 12)) G Rp [.ref a0, .int x1, .null, .null] [] S (0, 0) μ ρ) : MS Z (d + 13) jX12_storm [.ref a0, .int x1] S μ ρ Rp :=
  MS_of [.ref a0, .int x1, .null, .null] (by decide +kernel) rfl rfl (Nat.le_of_ble_eq_true rfl) rfl (fun p e R s m args below meth c C => b_X12_storm_0 C _ _ _ _ _ _ (h _ ))
def F_X12_storm : FT := fun As S μ ρ k => match As with
  | [.ref a, .int w] => a = 2737 ∧ RS S ρ ∧ good (μ 2738) ∧ ∀ μ', RQ μ μ' (μ 2738) (μ 2739) (μ 2737 6) → k (some (.int (vStorm (μ 2738) w))) μ'
  | _ => False
theorem r_X12_storm {As S μ ρ k} (h : F_X12_storm As S μ ρ k) : ∃ a As', As = Value.ref a :: As' ∧ S.2 a = (12, 27) := by
  unfold F_X12_storm at h
  split at h
  · exact ⟨_, _, rfl, by rw [h.1]; exact h.2.1.1⟩
  · exact h.elim
set_option maxHeartbeats 1000000 in
theorem f_X12_storm {Z : Zt} {d : Nat} {As : List Value} {S : Sh} {μ : Mi} {ρ : Mr} {Rp : RT} (h : F_X12_storm As S μ ρ (fun r μ' => Rp r S μ' ρ)) : MS Z (d + 13) jX12_storm As S μ ρ Rp := by
  unfold F_X12_storm at h
  split at h
  · rename_i a w
    obtain ⟨rfl, hS, h⟩ := h
    have hS0 := hS
    unfold RS at hS
    obtain ⟨hg, h⟩ := h
    unfold vStorm at h
    have i11 : inb 4511 13548 := inb_nI (k := 4511) (by decide) (by decide)
    refine ms_X12_storm _ _ (fun G => ?_)
    simp only [w_X12_storm_0, w_X12_storm_18, w_X12_storm_62, w_X12_storm_63, tAload, tIload, nth, tGetI, tGetR, tConst, tLconst, tBin, tUn, tI2l, tAld, tAldR, tAlen, tIast, tBast, tZast, tAast, tIret, tZret, tVret, tAret, tIf, tIf2, tGoto, tIstore, tAstore, sset, tIinc, tDup, tDup2, tPop, tPutI, tPutZ, tPutR, tCallV, tCallS, popN, tFn, tCopy, tMax, tMin, tSw, swc, tRem, tObjI, Option.toList, List.nil_append, List.cons_append, okR, true_and, and_true, true_or, or_true, Nat.zero_le, ne_eq, not_false_eq_true, Nat.reduceEqDiff, F_X12_within, F_X12_opensPaper, F_X12_settles, F_X12_closesPaper, hS0, hS, e6, M6_row, M7_eq, M7_row, M4_row, M4_upF, r300, cl_300, i11, cl_4511, b2_z, Decidable.not_not, l_leC, l_geC, il_0, il_1]
    refine ⟨fun c => ⟨hg, fun t g => ?_⟩, fun c => ?_⟩
    · rw [M7_back (Hi_set hg)]
      have := h _ (RQ_7 (g := g) (t := t))
      rw [if_neg (not_not_intro c)] at this
      refine ⟨fun c2 => ?_, fun c2 => ?_⟩
      · rw [if_neg c2] at this; exact this
      · rw [if_pos c2] at this; exact this
    · have := h _ RQ_0
      rw [if_pos c] at this; exact this
  · exact h.elim
def ag1 (A : Rw) (s o : Nat) (acc : Int32) : Int32 := if (((qMem A s).1 ||| (qMem A s).2.1) >>> (nI o &&& 31)) &&& 1 = 1 ∧ A (514 * o) = 1 ∧ (o = s ∨ (A 4513 >>> ((5 * nI s + nI o) &&& 31)) &&& 1 = 1) then (if acc = 0 ∨ ¬ A (514 * o + 7) = A (514 * s + 7) then 0 else 1) else acc
def qAgd (A : Rw) (s : Nat) : Int32 := ag1 A s 4 (ag1 A s 3 (ag1 A s 2 (ag1 A s 1 (ag1 A s 0 (if A (514 * s + 7) = A (514 * s + 4) then 1 else 0)))))
theorem ag1_01 {A : Rw} {s o : Nat} {acc : Int32} (h : acc = 0 ∨ acc = 1) : ag1 A s o acc = 0 ∨ ag1 A s o acc = 1 := by
  unfold ag1
  split
  · split
    · exact Or.inl rfl
    · exact Or.inr rfl
  · exact h
theorem qAgd_01 {A : Rw} {s : Nat} : qAgd A s = 0 ∨ qAgd A s = 1 := ag1_01 (ag1_01 (ag1_01 (ag1_01 (ag1_01 (by split <;> simp)))))
def w_X12_areAgreed_105 (M : CT) (G : Nat → PT) (Rp : RT) : PT := tIload 2 <| tZret Rp
def w_X12_areAgreed_99 (M : CT) (G : Nat → PT) (Rp : RT) : PT := tIinc 3 1 <| tGoto (G 29)
def w_X12_areAgreed_98 (M : CT) (G : Nat → PT) (Rp : RT) : PT := tIstore 2 <| w_X12_areAgreed_99 M G Rp
def w_X12_areAgreed_97 (M : CT) (G : Nat → PT) (Rp : RT) : PT := tConst 0 <| w_X12_areAgreed_98 M G Rp
def w_X12_areAgreed_72 (M : CT) (G : Nat → PT) (Rp : RT) : PT := tIload 2 <| tIf (fun x => x = 0) (w_X12_areAgreed_97 M G Rp) <| tAload 0 <| tIload 3 <| tConst 7 <| tFn 3 F_X12_of <| tAload 0 <| tIload 1 <| tConst 7 <| tFn 3 F_X12_of <| tIf2 (fun x y => x ≠ y) (w_X12_areAgreed_97 M G Rp) <| tConst 1 <| tGoto (w_X12_areAgreed_98 M G Rp)
def w_X12_areAgreed_29 (M : CT) (G : Nat → PT) (Rp : RT) : PT := tIload 3 <| tConst 5 <| tIf2 (fun x y => y ≤ x) (w_X12_areAgreed_105 M G Rp) <| tAload 0 <| tGetI 12 27 8 <| tAload 0 <| tGetI 12 27 9 <| tBin (fun x y => x ||| y) <| tIload 3 <| tFn 2 F_X12_has <| tIf (fun x => x = 0) (w_X12_areAgreed_99 M G Rp) <| tAload 0 <| tIload 3 <| tFn 2 F_X12_isUp <| tIf (fun x => x = 0) (w_X12_areAgreed_99 M G Rp) <| tIload 3 <| tIload 1 <| tIf2 (fun x y => x = y) (w_X12_areAgreed_72 M G Rp) <| tAload 0 <| tIload 1 <| tIload 3 <| tFn 3 F_X12_isLinked <| tIf (fun x => x = 0) (w_X12_areAgreed_99 M G Rp) <| w_X12_areAgreed_72 M G Rp
def w_X12_areAgreed_26 (M : CT) (G : Nat → PT) (Rp : RT) : PT := tIstore 2 <| tConst 0 <| tIstore 3 <| G 29
def w_X12_areAgreed_25 (M : CT) (G : Nat → PT) (Rp : RT) : PT := tConst 0 <| w_X12_areAgreed_26 M G Rp
def w_X12_areAgreed_0 (M : CT) (G : Nat → PT) (Rp : RT) : PT := tAload 0 <| tIload 1 <| tFn 2 F_X12_laysMembers <| tAload 0 <| tIload 1 <| tConst 7 <| tFn 3 F_X12_of <| tAload 0 <| tIload 1 <| tConst 4 <| tFn 3 F_X12_of <| tIf2 (fun x y => x ≠ y) (w_X12_areAgreed_25 M G Rp) <| tConst 1 <| tGoto (w_X12_areAgreed_26 M G Rp)
set_option maxRecDepth 20000 in
theorem b_X12_areAgreed_105 {Z : Zt} {d : Nat} {p : Program} {e : Env} {R : Room} {s : State} {m : MethodId} {args : Array Value} {below : List Frame} {meth : Method} {c : Code} {Rp : RT} (C : Cx Z (d + 4) jX12_areAgreed RX12 p R s m args meth c) : Sd Z jX12_areAgreed p e R s m args below meth c (MQ below (QcS Z Rp) args s 0 0 (fun a => Z.2.2.1 < a)) 105 (w_X12_areAgreed_105 (MS Z (d + 4)) (Gw Z 4 p e R s m args below meth c (MQ below (QcS Z Rp) args s 0 0 (fun a => Z.2.2.1 < a))) Rp) := by
  unfold w_X12_areAgreed_105
  refine s_iload_n (k := 2) C (by decide +kernel) ?_
  exact s_zret C rfl (by decide +kernel)
set_option maxRecDepth 20000 in
theorem b_X12_areAgreed_99 {Z : Zt} {d : Nat} {p : Program} {e : Env} {R : Room} {s : State} {m : MethodId} {args : Array Value} {below : List Frame} {meth : Method} {c : Code} {Rp : RT} (C : Cx Z (d + 4) jX12_areAgreed RX12 p R s m args meth c) : Sd Z jX12_areAgreed p e R s m args below meth c (MQ below (QcS Z Rp) args s 0 0 (fun a => Z.2.2.1 < a)) 99 (w_X12_areAgreed_99 (MS Z (d + 4)) (Gw Z 4 p e R s m args below meth c (MQ below (QcS Z Rp) args s 0 0 (fun a => Z.2.2.1 < a))) Rp) := by
  unfold w_X12_areAgreed_99
  refine s_iinc (n := 1) C (by decide +kernel) (by decide) ?_
  exact s_goto (off := (-73)) (tgt := 29) C (by decide +kernel) (by decide) (fun _ _ _ _ _ _ h => h)
set_option maxRecDepth 20000 in
theorem b_X12_areAgreed_98 {Z : Zt} {d : Nat} {p : Program} {e : Env} {R : Room} {s : State} {m : MethodId} {args : Array Value} {below : List Frame} {meth : Method} {c : Code} {Rp : RT} (C : Cx Z (d + 4) jX12_areAgreed RX12 p R s m args meth c) : Sd Z jX12_areAgreed p e R s m args below meth c (MQ below (QcS Z Rp) args s 0 0 (fun a => Z.2.2.1 < a)) 98 (w_X12_areAgreed_98 (MS Z (d + 4)) (Gw Z 4 p e R s m args below meth c (MQ below (QcS Z Rp) args s 0 0 (fun a => Z.2.2.1 < a))) Rp) := by
  unfold w_X12_areAgreed_98
  refine s_istore_n (k := 2) C (by decide +kernel) ?_
  exact (b_X12_areAgreed_99 C)
set_option maxRecDepth 20000 in
theorem b_X12_areAgreed_97 {Z : Zt} {d : Nat} {p : Program} {e : Env} {R : Room} {s : State} {m : MethodId} {args : Array Value} {below : List Frame} {meth : Method} {c : Code} {Rp : RT} (C : Cx Z (d + 4) jX12_areAgreed RX12 p R s m args meth c) : Sd Z jX12_areAgreed p e R s m args below meth c (MQ below (QcS Z Rp) args s 0 0 (fun a => Z.2.2.1 < a)) 97 (w_X12_areAgreed_97 (MS Z (d + 4)) (Gw Z 4 p e R s m args below meth c (MQ below (QcS Z Rp) args s 0 0 (fun a => Z.2.2.1 < a))) Rp) := by
  unfold w_X12_areAgreed_97
  refine s_iconst (n := 0) C (by decide +kernel) (by decide) ?_
  exact (b_X12_areAgreed_98 C)
set_option maxRecDepth 20000 in
theorem b_X12_areAgreed_72 {Z : Zt} {d : Nat} {p : Program} {e : Env} {R : Room} {s : State} {m : MethodId} {args : Array Value} {below : List Frame} {meth : Method} {c : Code} {Rp : RT} (C : Cx Z (d + 4) jX12_areAgreed RX12 p R s m args meth c) : Sd Z jX12_areAgreed p e R s m args below meth c (MQ below (QcS Z Rp) args s 0 0 (fun a => Z.2.2.1 < a)) 72 (w_X12_areAgreed_72 (MS Z (d + 4)) (Gw Z 4 p e R s m args below meth c (MQ below (QcS Z Rp) args s 0 0 (fun a => Z.2.2.1 < a))) Rp) := by
  unfold w_X12_areAgreed_72
  refine s_iload_n (k := 2) C (by decide +kernel) ?_
  refine s_if_eq (off := 24) (tgt := 97) C (by decide +kernel) (by decide) (b_X12_areAgreed_97 C) ?_
  refine s_aload_n (k := 0) C (by decide +kernel) ?_
  refine s_iload_n (k := 3) C (by decide +kernel) ?_
  refine s_bipush (n := 7) C (by decide +kernel) (by decide) ?_
  refine s_fnV C (j2 := jX12_of) (cl := 12) (nf := 27) rfl rfl (by decide +kernel) rfl w_6_220 w_6_222 w_p3_11 w_1_13 w_6_223 (by decide +kernel) (fun _ _ _ _ _ h => f_X12_of h) (fun _ _ _ _ _ h => r_X12_of h) ?_
  refine s_aload_n (k := 0) C (by decide +kernel) ?_
  refine s_iload_n (k := 1) C (by decide +kernel) ?_
  refine s_bipush (n := 7) C (by decide +kernel) (by decide) ?_
  refine s_fnV C (j2 := jX12_of) (cl := 12) (nf := 27) rfl rfl (by decide +kernel) rfl w_6_220 w_6_222 w_p3_11 w_1_13 w_6_223 (by decide +kernel) (fun _ _ _ _ _ h => f_X12_of h) (fun _ _ _ _ _ h => r_X12_of h) ?_
  refine s_icmp_ne (off := 7) (tgt := 97) C (by decide +kernel) (by decide) (b_X12_areAgreed_97 C) ?_
  refine s_iconst (n := 1) C (by decide +kernel) (by decide) ?_
  exact s_goto (off := 4) (tgt := 98) C (by decide +kernel) (by decide) (b_X12_areAgreed_98 C)
set_option maxRecDepth 20000 in
theorem b_X12_areAgreed_29 {Z : Zt} {d : Nat} {p : Program} {e : Env} {R : Room} {s : State} {m : MethodId} {args : Array Value} {below : List Frame} {meth : Method} {c : Code} {Rp : RT} (C : Cx Z (d + 4) jX12_areAgreed RX12 p R s m args meth c) : Sd Z jX12_areAgreed p e R s m args below meth c (MQ below (QcS Z Rp) args s 0 0 (fun a => Z.2.2.1 < a)) 29 (w_X12_areAgreed_29 (MS Z (d + 4)) (Gw Z 4 p e R s m args below meth c (MQ below (QcS Z Rp) args s 0 0 (fun a => Z.2.2.1 < a))) Rp) := by
  unfold w_X12_areAgreed_29
  refine s_iload_n (k := 3) C (by decide +kernel) ?_
  refine s_iconst (n := 5) C (by decide +kernel) (by decide) ?_
  refine s_icmp_ge (off := 74) (tgt := 105) C (by decide +kernel) (by decide) (b_X12_areAgreed_105 C) ?_
  refine s_aload_n (k := 0) C (by decide +kernel) ?_
  refine s_getI C w_6_95 (by decide +kernel) rfl ?_
  refine s_aload_n (k := 0) C (by decide +kernel) ?_
  refine s_getI C w_6_96 (by decide +kernel) rfl ?_
  refine s_ior C (by decide +kernel) ?_
  refine s_iload_n (k := 3) C (by decide +kernel) ?_
  refine s_fnS C (j2 := jX12_has) (by decide +kernel) rfl w_7_0 w_7_1 w_1_13 w_7_2 (by decide +kernel) (fun _ _ _ _ _ h => f_X12_has h) ?_
  refine s_if_eq (off := 52) (tgt := 99) C (by decide +kernel) (by decide) (b_X12_areAgreed_99 C) ?_
  refine s_aload_n (k := 0) C (by decide +kernel) ?_
  refine s_iload_n (k := 3) C (by decide +kernel) ?_
  refine s_fnV C (j2 := jX12_isUp) (cl := 12) (nf := 27) rfl rfl (by decide +kernel) rfl w_6_232 w_6_234 w_p3_14 w_1_13 w_6_235 (by decide +kernel) (fun _ _ _ _ _ h => f_X12_isUp h) (fun _ _ _ _ _ h => r_X12_isUp h) ?_
  refine s_if_eq (off := 44) (tgt := 99) C (by decide +kernel) (by decide) (b_X12_areAgreed_99 C) ?_
  refine s_iload_n (k := 3) C (by decide +kernel) ?_
  refine s_iload_n (k := 1) C (by decide +kernel) ?_
  refine s_icmp_eq (off := 12) (tgt := 72) C (by decide +kernel) (by decide) (b_X12_areAgreed_72 C) ?_
  refine s_aload_n (k := 0) C (by decide +kernel) ?_
  refine s_iload_n (k := 1) C (by decide +kernel) ?_
  refine s_iload_n (k := 3) C (by decide +kernel) ?_
  refine s_fnV C (j2 := jX12_isLinked) (cl := 12) (nf := 27) rfl rfl (by decide +kernel) rfl w_7_31 w_7_33 w_p4_7 w_1_13 w_7_34 (by decide +kernel) (fun _ _ _ _ _ h => f_X12_isLinked h) (fun _ _ _ _ _ h => r_X12_isLinked h) ?_
  refine s_if_eq (off := 30) (tgt := 99) C (by decide +kernel) (by decide) (b_X12_areAgreed_99 C) ?_
  exact (b_X12_areAgreed_72 C)
set_option maxRecDepth 20000 in
theorem b_X12_areAgreed_26 {Z : Zt} {d : Nat} {p : Program} {e : Env} {R : Room} {s : State} {m : MethodId} {args : Array Value} {below : List Frame} {meth : Method} {c : Code} {Rp : RT} (C : Cx Z (d + 4) jX12_areAgreed RX12 p R s m args meth c) : Sd Z jX12_areAgreed p e R s m args below meth c (MQ below (QcS Z Rp) args s 0 0 (fun a => Z.2.2.1 < a)) 26 (w_X12_areAgreed_26 (MS Z (d + 4)) (Gw Z 4 p e R s m args below meth c (MQ below (QcS Z Rp) args s 0 0 (fun a => Z.2.2.1 < a))) Rp) := by
  unfold w_X12_areAgreed_26
  refine s_istore_n (k := 2) C (by decide +kernel) ?_
  refine s_iconst (n := 0) C (by decide +kernel) (by decide) ?_
  refine s_istore_n (k := 3) C (by decide +kernel) ?_
  exact (fun _ _ _ _ _ _ h => h)
set_option maxRecDepth 20000 in
theorem b_X12_areAgreed_25 {Z : Zt} {d : Nat} {p : Program} {e : Env} {R : Room} {s : State} {m : MethodId} {args : Array Value} {below : List Frame} {meth : Method} {c : Code} {Rp : RT} (C : Cx Z (d + 4) jX12_areAgreed RX12 p R s m args meth c) : Sd Z jX12_areAgreed p e R s m args below meth c (MQ below (QcS Z Rp) args s 0 0 (fun a => Z.2.2.1 < a)) 25 (w_X12_areAgreed_25 (MS Z (d + 4)) (Gw Z 4 p e R s m args below meth c (MQ below (QcS Z Rp) args s 0 0 (fun a => Z.2.2.1 < a))) Rp) := by
  unfold w_X12_areAgreed_25
  refine s_iconst (n := 0) C (by decide +kernel) (by decide) ?_
  exact (b_X12_areAgreed_26 C)
set_option maxRecDepth 20000 in
theorem b_X12_areAgreed_0 {Z : Zt} {d : Nat} {p : Program} {e : Env} {R : Room} {s : State} {m : MethodId} {args : Array Value} {below : List Frame} {meth : Method} {c : Code} {Rp : RT} (C : Cx Z (d + 4) jX12_areAgreed RX12 p R s m args meth c) : Sd Z jX12_areAgreed p e R s m args below meth c (MQ below (QcS Z Rp) args s 0 0 (fun a => Z.2.2.1 < a)) 0 (w_X12_areAgreed_0 (MS Z (d + 4)) (Gw Z 4 p e R s m args below meth c (MQ below (QcS Z Rp) args s 0 0 (fun a => Z.2.2.1 < a))) Rp) := by
  unfold w_X12_areAgreed_0
  refine s_aload_n (k := 0) C (by decide +kernel) ?_
  refine s_iload_n (k := 1) C (by decide +kernel) ?_
  refine s_fnV C (j2 := jX12_laysMembers) (cl := 12) (nf := 27) rfl rfl (by decide +kernel) rfl w_6_216 w_6_218 w_p3_10 w_1_13 w_6_219 (by decide +kernel) (fun _ _ _ _ _ h => f_X12_laysMembers h) (fun _ _ _ _ _ h => r_X12_laysMembers h) ?_
  refine s_aload_n (k := 0) C (by decide +kernel) ?_
  refine s_iload_n (k := 1) C (by decide +kernel) ?_
  refine s_bipush (n := 7) C (by decide +kernel) (by decide) ?_
  refine s_fnV C (j2 := jX12_of) (cl := 12) (nf := 27) rfl rfl (by decide +kernel) rfl w_6_220 w_6_222 w_p3_11 w_1_13 w_6_223 (by decide +kernel) (fun _ _ _ _ _ h => f_X12_of h) (fun _ _ _ _ _ h => r_X12_of h) ?_
  refine s_aload_n (k := 0) C (by decide +kernel) ?_
  refine s_iload_n (k := 1) C (by decide +kernel) ?_
  refine s_iconst (n := 4) C (by decide +kernel) (by decide) ?_
  refine s_fnV C (j2 := jX12_of) (cl := 12) (nf := 27) rfl rfl (by decide +kernel) rfl w_6_220 w_6_222 w_p3_11 w_1_13 w_6_223 (by decide +kernel) (fun _ _ _ _ _ h => f_X12_of h) (fun _ _ _ _ _ h => r_X12_of h) ?_
  refine s_icmp_ne (off := 7) (tgt := 25) C (by decide +kernel) (by decide) (b_X12_areAgreed_25 C) ?_
  refine s_iconst (n := 1) C (by decide +kernel) (by decide) ?_
  exact s_goto (off := 4) (tgt := 26) C (by decide +kernel) (by decide) (b_X12_areAgreed_26 C)
theorem ms_X12_areAgreed {Z : Zt} {d : Nat} {S : Sh} {μ : Mi} {ρ : Mr} {Rp : RT} (a0 : Nat) (x1 : Int32) (h : ∀ G : Nat → PT, (∀ (L st : List Value) (S : Sh) (q : Nat × Nat) (μ : Mi) (ρ : Mr), w_X12_areAgreed_29 (MS Z (d + 4)) G Rp L st S q μ ρ → G 29 L st S q μ ρ) → w_X12_areAgreed_0 (MS Z (d + 4)) G Rp [.ref a0, .int x1, .null, .null] [] S (0, 0) μ ρ) : MS Z (d + 5) jX12_areAgreed [.ref a0, .int x1] S μ ρ Rp :=
  MS_of [.ref a0, .int x1, .null, .null] (by decide +kernel) rfl rfl (Nat.le_of_ble_eq_true rfl) rfl (fun p e R s m args below meth c C => b_X12_areAgreed_0 C _ _ _ _ _ _ (h _ (b_X12_areAgreed_29 C)))
def F_X12_areAgreed : FT := fun As S μ ρ k => match As with
  | [.ref a, .int s] => a = 2737 ∧ RS S ρ ∧ rg s 0 4 ∧ bsOK (μ 2738) s.toNatClampNeg ∧ k (some (.int (qAgd (μ 2738) s.toNatClampNeg))) (M3 μ (qMem (μ 2738) s.toNatClampNeg) (μ 2738))
  | _ => False
theorem r_X12_areAgreed {As S μ ρ k} (h : F_X12_areAgreed As S μ ρ k) : ∃ a As', As = Value.ref a :: As' ∧ S.2 a = (12, 27) := by
  unfold F_X12_areAgreed at h
  split at h
  · exact ⟨_, _, rfl, by rw [h.1]; exact h.2.1.1⟩
  · exact h.elim
set_option maxHeartbeats 1000000 in
theorem f_X12_areAgreed {Z : Zt} {d : Nat} {As : List Value} {S : Sh} {μ : Mi} {ρ : Mr} {Rp : RT} (h : F_X12_areAgreed As S μ ρ (fun r μ' => Rp r S μ' ρ)) : MS Z (d + 5) jX12_areAgreed As S μ ρ Rp := by
  unfold F_X12_areAgreed at h
  split at h
  · rename_i a s
    obtain ⟨rfl, hS, h⟩ := h
    have hS0 := hS
    unfold RS at hS
    obtain ⟨h1, h2, h⟩ := h
    obtain ⟨s, rfl, hs0, -, hs⟩ := rg_ex h1
    have hrs := rg_T (lo := 0) (hi := 4) (n := s) (by omega) (by omega) hs0
    simp (disch := omega) only [nI_clamp] at h h2
    obtain ⟨t0, ht0⟩ := M3_self μ
    rw [ht0]
    generalize hA : μ 2738 = A at *
    have i4 : (514 : Int32) * nI s + 4 = nI (514 * s + 4) := ixs 4 4 rfl
    have b4 : inb (nI (514 * s + 4)) 13548 := inb_nI (by omega) (by decide)
    have i7 : (514 : Int32) * nI s + 7 = nI (514 * s + 7) := ixs 7 7 rfl
    have b7 : inb (nI (514 * s + 7)) 13548 := inb_nI (by omega) (by decide)
    refine ms_X12_areAgreed _ _ (fun G g29 => ?_)
    generalize hc : qMem A s = c at *
    have step : ∀ (o : Nat) (acc : Int32), o < 5 → G 29 [.ref 2737, .int (nI s), .int (ag1 A s o acc), .int (nI (o + 1))] [] S (0, 0) (M3 μ c A) ρ → G 29 [.ref 2737, .int (nI s), .int acc, .int (nI o)] [] S (0, 0) (M3 μ c A) ρ := by
      intro o acc ho hG
      have hro := rg_T (lo := 0) (hi := 4) (n := o) (by omega) (by omega) (by omega)
      have o7 : (514 : Int32) * nI o + 7 = nI (514 * o + 7) := ixs 7 7 rfl
      have c7 : inb (nI (514 * o + 7)) 13548 := inb_nI (by omega) (by decide)
      unfold ag1 at hG
      rw [hc] at hG
      have T : ((c.1 ||| c.2.1) >>> (nI o &&& 31)) &&& 1 = 1 ∧ A (514 * o) = 1 ∧ (o = s ∨ (A 4513 >>> ((5 * nI s + nI o) &&& 31)) &&& 1 = 1) → w_X12_areAgreed_72 (MS Z (d + 4)) G Rp [.ref 2737, .int (nI s), .int acc, .int (nI o)] [] S (0, 0) (M3 μ c A) ρ := by
        intro hT
        rw [if_pos hT] at hG
        simp only [w_X12_areAgreed_72, w_X12_areAgreed_97, w_X12_areAgreed_98, w_X12_areAgreed_99, tAload, tIload, nth, tGetI, tGetR, tConst, tLconst, tBin, tUn, tI2l, tAld, tAldR, tAlen, tIast, tBast, tZast, tAast, tIret, tZret, tVret, tAret, tIf, tIf2, tGoto, tIstore, tAstore, sset, tIinc, tDup, tDup2, tPop, tPutI, tPutZ, tPutR, tCallV, tCallS, popN, tFn, tCopy, tMax, tMin, tSw, swc, tRem, tObjI, Option.toList, List.nil_append, List.cons_append, okR, true_and, and_true, true_or, or_true, Nat.zero_le, ne_eq, not_false_eq_true, Nat.reduceEqDiff, F_X12_of, hS0, M3_row, i7, b7, o7, c7, nI_1]
        simp (disch := omega) only [nI_clamp]
        refine ⟨fun d1 => ?_, fun d1 => ⟨fun d2 => ?_, fun d2 => ?_⟩⟩
        · rw [if_pos (Or.inl d1)] at hG; exact hG
        · rw [if_pos (Or.inr d2)] at hG; exact hG
        · rw [if_neg (fun z => z.elim d1 d2)] at hG; exact hG
      refine g29 _ _ _ _ _ _ ?_
      simp only [w_X12_areAgreed_29, w_X12_areAgreed_99, tAload, tIload, nth, tGetI, tGetR, tConst, tLconst, tBin, tUn, tI2l, tAld, tAldR, tAlen, tIast, tBast, tZast, tAast, tIret, tZret, tVret, tAret, tIf, tIf2, tGoto, tIstore, tAstore, sset, tIinc, tDup, tDup2, tPop, tPutI, tPutZ, tPutR, tCallV, tCallS, popN, tFn, tCopy, tMax, tMin, tSw, swc, tRem, tObjI, Option.toList, List.nil_append, List.cons_append, okR, true_and, and_true, true_or, or_true, Nat.zero_le, ne_eq, not_false_eq_true, Nat.reduceEqDiff, F_X12_has, F_X12_isUp, F_X12_isLinked, hS0, hS, hro, M3_row, M3_8, M3_9, b2_z, Decidable.not_not, nI_1]
      simp (disch := omega) only [nI_clamp]
      refine ⟨fun z => absurd z (lt5' o ho), fun _ => ⟨fun d1 => ?_, fun d1 => ⟨fun d2 => ?_, fun d2 => ⟨fun d3 => ?_, fun d3 => ⟨fun d4 => ?_, fun d4 => T ⟨d1, d2, Or.inr d4⟩⟩⟩⟩⟩⟩
      · rw [if_neg (fun z => d1 z.1)] at hG; exact hG
      · rw [if_neg (fun z => d2 z.2.1)] at hG; exact hG
      · rw [nI_eq (by omega) (by omega)] at d3
        exact T ⟨d1, d2, Or.inl d3⟩
      · rw [nI_eq (by omega) (by omega)] at d3
        rw [if_neg (fun z => z.2.2.elim d3 d4)] at hG; exact hG
    have all : ∀ x : Int32, x = (if A (514 * s + 7) = A (514 * s + 4) then 1 else 0) → G 29 [.ref 2737, .int (nI s), .int x, .int (nI 0)] [] S (0, 0) (M3 μ c A) ρ := by
      intro x hx
      refine step 0 _ (by decide) (step 1 _ (by decide) (step 2 _ (by decide) (step 3 _ (by decide) (step 4 _ (by decide) ?_))))
      refine g29 _ _ _ _ _ _ ?_
      simp only [w_X12_areAgreed_29, w_X12_areAgreed_105, tAload, tIload, nth, tGetI, tGetR, tConst, tLconst, tBin, tUn, tI2l, tAld, tAldR, tAlen, tIast, tBast, tZast, tAast, tIret, tZret, tVret, tAret, tIf, tIf2, tGoto, tIstore, tAstore, sset, tIinc, tDup, tDup2, tPop, tPutI, tPutZ, tPutR, tCallV, tCallS, popN, tFn, tCopy, tMax, tMin, tSw, swc, tRem, tObjI, Option.toList, List.nil_append, List.cons_append, okR, true_and, and_true, true_or, or_true, Nat.zero_le, ne_eq, not_false_eq_true, Nat.reduceEqDiff]
      rw [hx, show ag1 A s 4 (ag1 A s 3 (ag1 A s 2 (ag1 A s 1 (ag1 A s 0 (if A (514 * s + 7) = A (514 * s + 4) then 1 else 0))))) = qAgd A s from rfl]
      exact ⟨fun _ => ⟨qAgd_01, h⟩, fun z => absurd (by decide) z⟩
    simp only [w_X12_areAgreed_0, w_X12_areAgreed_25, w_X12_areAgreed_26, tAload, tIload, nth, tGetI, tGetR, tConst, tLconst, tBin, tUn, tI2l, tAld, tAldR, tAlen, tIast, tBast, tZast, tAast, tIret, tZret, tVret, tAret, tIf, tIf2, tGoto, tIstore, tAstore, sset, tIinc, tDup, tDup2, tPop, tPutI, tPutZ, tPutR, tCallV, tCallS, popN, tFn, tCopy, tMax, tMin, tSw, swc, tRem, tObjI, Option.toList, List.nil_append, List.cons_append, okR, true_and, and_true, true_or, or_true, Nat.zero_le, ne_eq, not_false_eq_true, Nat.reduceEqDiff, F_X12_laysMembers, F_X12_of, hS0, hrs, M3_row, M3_setM, i4, b4, i7, b7, Decidable.not_not]
    simp (disch := omega) only [nI_clamp]
    rw [hc]
    exact ⟨h2.2.1, h2.2.2, fun d => all _ (by rw [if_neg d]), fun d => all _ (by rw [if_pos d])⟩
  · exact h.elim
def rnF (s : Nat) : Nat → Nat → Rw → Int32 × Rw := fun m n A => match m with
  | 0 => (-1, A)
  | m + 1 => if ¬ setF 300 (qFeedsAll A s) (514 * s + 3) = 2 then (-1, setF 300 (qFeedsAll A s)) else if ¬ qAgd (setF 300 (qFeedsAll A s)) s = 0 then (nI n, setF 300 (qFeedsAll A s)) else rnF s m (n + 1) (setF 300 (qFeedsAll A s))
theorem rnF_s {s m n : Nat} {A : Rw} : rnF s (m + 1) n A = if ¬ setF 300 (qFeedsAll A s) (514 * s + 3) = 2 then (-1, setF 300 (qFeedsAll A s)) else if ¬ qAgd (setF 300 (qFeedsAll A s)) s = 0 then (nI n, setF 300 (qFeedsAll A s)) else rnF s m (n + 1) (setF 300 (qFeedsAll A s)) := rfl
theorem good_beat {A : Rw} {s : Nat} (hg : good A) (hs : s < 5) (hl : A (514 * s + 3) = 2) : good (setF 300 (qFeedsAll A s)) ∧ Hi A (setF 300 (qFeedsAll A s)) := by
  have h1 := good_step hg (Sp.beat hs hl)
  exact ⟨good_set h1, (Fr_feedsAll hs (good_w hg)).hi.tr (Hi_set h1)⟩
theorem Hi_rn {s : Nat} (hs : s < 5) : ∀ {m n : Nat} {A : Rw}, good A → A (514 * s + 3) = 2 → Hi A (rnF s m n A).2 := by
  intro m
  induction m with
  | zero => intro n A _ _; exact fun _ _ => rfl
  | succ m ih =>
    intro n A hg hl
    have hb := good_beat hg hs hl
    rw [rnF_s]
    split
    · exact hb.2
    · rename_i c
      split
      · exact hb.2
      · exact hb.2.tr (ih hb.1 (Decidable.not_not.mp c))
def w_X12_roundsOnPaper_47 (M : CT) (G : Nat → PT) (Rp : RT) : PT := tConst (-1) <| tIret Rp
def w_X12_roundsOnPaper_41 (M : CT) (G : Nat → PT) (Rp : RT) : PT := tIinc 2 1 <| tGoto (G 2)
def w_X12_roundsOnPaper_31 (M : CT) (G : Nat → PT) (Rp : RT) : PT := tAload 0 <| tIload 1 <| tFn 2 F_X12_areAgreed <| tIf (fun x => x = 0) (w_X12_roundsOnPaper_41 M G Rp) <| tIload 2 <| tIret Rp
def w_X12_roundsOnPaper_2 (M : CT) (G : Nat → PT) (Rp : RT) : PT := tIload 2 <| tConst 20 <| tIf2 (fun x y => y < x) (w_X12_roundsOnPaper_47 M G Rp) <| tAload 0 <| tIload 1 <| tFn 2 F_X12_feedsAll <| tAload 0 <| tConst 300 <| tFn 2 F_X12_settles <| tIstore 3 <| tAload 0 <| tIload 1 <| tFn 2 F_X12_isLeader <| tIf (fun x => x ≠ 0) (w_X12_roundsOnPaper_31 M G Rp) <| tConst (-1) <| tIret Rp
def w_X12_roundsOnPaper_0 (M : CT) (G : Nat → PT) (Rp : RT) : PT := tConst 1 <| tIstore 2 <| G 2
set_option maxRecDepth 20000 in
theorem b_X12_roundsOnPaper_47 {Z : Zt} {d : Nat} {p : Program} {e : Env} {R : Room} {s : State} {m : MethodId} {args : Array Value} {below : List Frame} {meth : Method} {c : Code} {Rp : RT} (C : Cx Z (d + 12) jX12_roundsOnPaper RX12 p R s m args meth c) : Sd Z jX12_roundsOnPaper p e R s m args below meth c (MQ below (QcS Z Rp) args s 0 0 (fun a => Z.2.2.1 < a)) 47 (w_X12_roundsOnPaper_47 (MS Z (d + 12)) (Gw Z 4 p e R s m args below meth c (MQ below (QcS Z Rp) args s 0 0 (fun a => Z.2.2.1 < a))) Rp) := by
  unfold w_X12_roundsOnPaper_47
  refine s_iconst (n := (-1)) C (by decide +kernel) (by decide) ?_
  exact s_iret C rfl (by decide +kernel)
set_option maxRecDepth 20000 in
theorem b_X12_roundsOnPaper_41 {Z : Zt} {d : Nat} {p : Program} {e : Env} {R : Room} {s : State} {m : MethodId} {args : Array Value} {below : List Frame} {meth : Method} {c : Code} {Rp : RT} (C : Cx Z (d + 12) jX12_roundsOnPaper RX12 p R s m args meth c) : Sd Z jX12_roundsOnPaper p e R s m args below meth c (MQ below (QcS Z Rp) args s 0 0 (fun a => Z.2.2.1 < a)) 41 (w_X12_roundsOnPaper_41 (MS Z (d + 12)) (Gw Z 4 p e R s m args below meth c (MQ below (QcS Z Rp) args s 0 0 (fun a => Z.2.2.1 < a))) Rp) := by
  unfold w_X12_roundsOnPaper_41
  refine s_iinc (n := 1) C (by decide +kernel) (by decide) ?_
  exact s_goto (off := (-42)) (tgt := 2) C (by decide +kernel) (by decide) (fun _ _ _ _ _ _ h => h)
set_option maxRecDepth 20000 in
theorem b_X12_roundsOnPaper_31 {Z : Zt} {d : Nat} {p : Program} {e : Env} {R : Room} {s : State} {m : MethodId} {args : Array Value} {below : List Frame} {meth : Method} {c : Code} {Rp : RT} (C : Cx Z (d + 12) jX12_roundsOnPaper RX12 p R s m args meth c) : Sd Z jX12_roundsOnPaper p e R s m args below meth c (MQ below (QcS Z Rp) args s 0 0 (fun a => Z.2.2.1 < a)) 31 (w_X12_roundsOnPaper_31 (MS Z (d + 12)) (Gw Z 4 p e R s m args below meth c (MQ below (QcS Z Rp) args s 0 0 (fun a => Z.2.2.1 < a))) Rp) := by
  unfold w_X12_roundsOnPaper_31
  refine s_aload_n (k := 0) C (by decide +kernel) ?_
  refine s_iload_n (k := 1) C (by decide +kernel) ?_
  refine s_fnV C (j2 := jX12_areAgreed) (cl := 12) (nf := 27) rfl rfl (by decide +kernel) rfl w_8_221 w_8_223 w_p8_8 w_1_13 w_8_224 (by decide +kernel) (fun _ _ _ _ _ h => f_X12_areAgreed h) (fun _ _ _ _ _ h => r_X12_areAgreed h) ?_
  refine s_if_eq (off := 5) (tgt := 41) C (by decide +kernel) (by decide) (b_X12_roundsOnPaper_41 C) ?_
  refine s_iload_n (k := 2) C (by decide +kernel) ?_
  exact s_iret C rfl (by decide +kernel)
set_option maxRecDepth 20000 in
theorem b_X12_roundsOnPaper_2 {Z : Zt} {d : Nat} {p : Program} {e : Env} {R : Room} {s : State} {m : MethodId} {args : Array Value} {below : List Frame} {meth : Method} {c : Code} {Rp : RT} (C : Cx Z (d + 12) jX12_roundsOnPaper RX12 p R s m args meth c) : Sd Z jX12_roundsOnPaper p e R s m args below meth c (MQ below (QcS Z Rp) args s 0 0 (fun a => Z.2.2.1 < a)) 2 (w_X12_roundsOnPaper_2 (MS Z (d + 12)) (Gw Z 4 p e R s m args below meth c (MQ below (QcS Z Rp) args s 0 0 (fun a => Z.2.2.1 < a))) Rp) := by
  unfold w_X12_roundsOnPaper_2
  refine s_iload_n (k := 2) C (by decide +kernel) ?_
  refine s_bipush (n := 20) C (by decide +kernel) (by decide) ?_
  refine s_icmp_gt (off := 42) (tgt := 47) C (by decide +kernel) (by decide) (b_X12_roundsOnPaper_47 C) ?_
  refine s_aload_n (k := 0) C (by decide +kernel) ?_
  refine s_iload_n (k := 1) C (by decide +kernel) ?_
  refine s_fnV C (j2 := jX12_feedsAll) (cl := 12) (nf := 27) rfl rfl (by decide +kernel) rfl w_7_47 w_7_49 w_p4_11 w_1_13 w_7_50 (by decide +kernel) (fun _ _ _ _ _ h => f_X12_feedsAll h) (fun _ _ _ _ _ h => r_X12_feedsAll h) ?_
  refine s_aload_n (k := 0) C (by decide +kernel) ?_
  refine s_sipush (n := 300) C (by decide +kernel) (by decide) ?_
  refine s_fnV C (j2 := jX12_settles) (cl := 12) (nf := 27) rfl rfl (by decide +kernel) rfl w_8_21 w_8_23 w_p7_0 w_1_13 w_8_24 (by decide +kernel) (fun _ _ _ _ _ h => f_X12_settles h) (fun _ _ _ _ _ h => r_X12_settles h) ?_
  refine s_istore_n (k := 3) C (by decide +kernel) ?_
  refine s_aload_n (k := 0) C (by decide +kernel) ?_
  refine s_iload_n (k := 1) C (by decide +kernel) ?_
  refine s_fnV C (j2 := jX12_isLeader) (cl := 12) (nf := 27) rfl rfl (by decide +kernel) rfl w_6_236 w_6_238 w_p3_15 w_1_13 w_6_239 (by decide +kernel) (fun _ _ _ _ _ h => f_X12_isLeader h) (fun _ _ _ _ _ h => r_X12_isLeader h) ?_
  refine s_if_ne (off := 5) (tgt := 31) C (by decide +kernel) (by decide) (b_X12_roundsOnPaper_31 C) ?_
  refine s_iconst (n := (-1)) C (by decide +kernel) (by decide) ?_
  exact s_iret C rfl (by decide +kernel)
set_option maxRecDepth 20000 in
theorem b_X12_roundsOnPaper_0 {Z : Zt} {d : Nat} {p : Program} {e : Env} {R : Room} {s : State} {m : MethodId} {args : Array Value} {below : List Frame} {meth : Method} {c : Code} {Rp : RT} (C : Cx Z (d + 12) jX12_roundsOnPaper RX12 p R s m args meth c) : Sd Z jX12_roundsOnPaper p e R s m args below meth c (MQ below (QcS Z Rp) args s 0 0 (fun a => Z.2.2.1 < a)) 0 (w_X12_roundsOnPaper_0 (MS Z (d + 12)) (Gw Z 4 p e R s m args below meth c (MQ below (QcS Z Rp) args s 0 0 (fun a => Z.2.2.1 < a))) Rp) := by
  unfold w_X12_roundsOnPaper_0
  refine s_iconst (n := 1) C (by decide +kernel) (by decide) ?_
  refine s_istore_n (k := 2) C (by decide +kernel) ?_
  exact (fun _ _ _ _ _ _ h => h)
theorem ms_X12_roundsOnPaper {Z : Zt} {d : Nat} {S : Sh} {μ : Mi} {ρ : Mr} {Rp : RT} (a0 : Nat) (x1 : Int32) (h : ∀ G : Nat → PT, (∀ (L st : List Value) (S : Sh) (q : Nat × Nat) (μ : Mi) (ρ : Mr), w_X12_roundsOnPaper_2 (MS Z (d + 12)) G Rp L st S q μ ρ → G 2 L st S q μ ρ) → w_X12_roundsOnPaper_0 (MS Z (d + 12)) G Rp [.ref a0, .int x1, .null, .null] [] S (0, 0) μ ρ) : MS Z (d + 13) jX12_roundsOnPaper [.ref a0, .int x1] S μ ρ Rp :=
  MS_of [.ref a0, .int x1, .null, .null] (by decide +kernel) rfl rfl (Nat.le_of_ble_eq_true rfl) rfl (fun p e R s m args below meth c C => b_X12_roundsOnPaper_0 C _ _ _ _ _ _ (h _ (b_X12_roundsOnPaper_2 C)))
def F_X12_roundsOnPaper : FT := fun As S μ ρ k => match As with
  | [.ref a, .int s] => a = 2737 ∧ RS S ρ ∧ rg s 0 4 ∧ good (μ 2738) ∧ μ 2738 (514 * s.toNatClampNeg + 3) = 2 ∧ ∀ (t : T4) (g : Rw), k (some (.int (rnF s.toNatClampNeg 20 1 (μ 2738)).1)) (M4 μ g t (rnF s.toNatClampNeg 20 1 (μ 2738)).2)
  | _ => False
theorem r_X12_roundsOnPaper {As S μ ρ k} (h : F_X12_roundsOnPaper As S μ ρ k) : ∃ a As', As = Value.ref a :: As' ∧ S.2 a = (12, 27) := by
  unfold F_X12_roundsOnPaper at h
  split at h
  · exact ⟨_, _, rfl, by rw [h.1]; exact h.2.1.1⟩
  · exact h.elim
set_option maxHeartbeats 1000000 in
theorem f_X12_roundsOnPaper {Z : Zt} {d : Nat} {As : List Value} {S : Sh} {μ : Mi} {ρ : Mr} {Rp : RT} (h : F_X12_roundsOnPaper As S μ ρ (fun r μ' => Rp r S μ' ρ)) : MS Z (d + 13) jX12_roundsOnPaper As S μ ρ Rp := by
  unfold F_X12_roundsOnPaper at h
  split at h
  · rename_i a s
    obtain ⟨rfl, hS, h⟩ := h
    have hS0 := hS
    unfold RS at hS
    obtain ⟨h1, hg, hl, h⟩ := h
    obtain ⟨s, rfl, hs0, -, hs⟩ := rg_ex h1
    have hrs := rg_T (lo := 0) (hi := 4) (n := s) (by omega) (by omega) hs0
    have hs5 : s < 5 := by omega
    simp (disch := omega) only [nI_clamp] at h hl
    obtain ⟨g0, t0, h0⟩ := M4_self μ
    rw [h0]
    generalize hA : μ 2738 = A at *
    refine ms_X12_roundsOnPaper _ _ (fun G g2 => ?_)
    have loop : ∀ (m n : Nat) (B : Rw) (v : Value) (g : Rw) (t : T4), m + n = 21 → good B → B (514 * s + 3) = 2 → (∀ (t : T4) (g : Rw), Rp (some (.int (rnF s m n B).1)) S (M4 μ g t (rnF s m n B).2) ρ) → G 2 [.ref 2737, .int (nI s), .int (nI n), v] [] S (0, 0) (M4 μ g t B) ρ := by
      intro m
      induction m with
      | zero =>
        intro n B v g t hn hB hBl hq
        obtain rfl : n = 21 := by omega
        refine g2 _ _ _ _ _ _ ?_
        simp only [w_X12_roundsOnPaper_2, w_X12_roundsOnPaper_47, tAload, tIload, nth, tGetI, tGetR, tConst, tLconst, tBin, tUn, tI2l, tAld, tAldR, tAlen, tIast, tBast, tZast, tAast, tIret, tZret, tVret, tAret, tIf, tIf2, tGoto, tIstore, tAstore, sset, tIinc, tDup, tDup2, tPop, tPutI, tPutZ, tPutR, tCallV, tCallS, popN, tFn, tCopy, tMax, tMin, tSw, swc, tRem, tObjI, Option.toList, List.nil_append, List.cons_append, okR, true_and, and_true, true_or, or_true, Nat.zero_le, ne_eq, not_false_eq_true, Nat.reduceEqDiff]
        exact ⟨fun _ => hq t g, fun z => absurd (by decide) z⟩
      | succ m ih =>
        intro n B v g t hn hB hBl hq
        refine g2 _ _ _ _ _ _ ?_
        have hst := good_st hB hs5
        have hb := good_beat hB hs5 hBl
        have lt : ¬ (20 : Int32) < nI n := by rw [show (20 : Int32) = nI 20 from rfl, nI_ltI (by decide) (by omega)]; omega
        simp only [w_X12_roundsOnPaper_2, w_X12_roundsOnPaper_31, w_X12_roundsOnPaper_41, tAload, tIload, nth, tGetI, tGetR, tConst, tLconst, tBin, tUn, tI2l, tAld, tAldR, tAlen, tIast, tBast, tZast, tAast, tIret, tZret, tVret, tAret, tIf, tIf2, tGoto, tIstore, tAstore, sset, tIinc, tDup, tDup2, tPop, tPutI, tPutZ, tPutR, tCallV, tCallS, popN, tFn, tCopy, tMax, tMin, tSw, swc, tRem, tObjI, Option.toList, List.nil_append, List.cons_append, okR, true_and, and_true, true_or, or_true, Nat.zero_le, ne_eq, not_false_eq_true, Nat.reduceEqDiff, F_X12_feedsAll, F_X12_settles, F_X12_isLeader, F_X12_areAgreed, hS0, hrs, r300, cl_300, M4_row, M4_M4, M4_setM, M4_upF, M4_M3, b2_z, Decidable.not_not, nI_1]
        simp (disch := omega) only [nI_clamp]
        rw [rnF_s] at hq
        refine ⟨fun z => absurd z lt, fun _ => ⟨hst.1.1, good_step hB (Sp.beat hs5 hBl), fun t g => ⟨fun c => ⟨good_bs hb.1 hs5, fun c2 => ?_, fun c2 => ?_⟩, fun c => ?_⟩⟩⟩
        · refine ih (n + 1) _ _ _ _ (by omega) hb.1 c (fun t g => ?_)
          have := hq t g
          rw [if_neg (not_not_intro c), if_neg (not_not_intro c2)] at this; exact this
        · have := hq (qMem (setF 300 (qFeedsAll B s)) s) g
          rw [if_neg (not_not_intro c), if_pos c2] at this; exact this
        · have := hq t g
          rw [if_pos c] at this; exact this
    simp only [w_X12_roundsOnPaper_0, tAload, tIload, nth, tGetI, tGetR, tConst, tLconst, tBin, tUn, tI2l, tAld, tAldR, tAlen, tIast, tBast, tZast, tAast, tIret, tZret, tVret, tAret, tIf, tIf2, tGoto, tIstore, tAstore, sset, tIinc, tDup, tDup2, tPop, tPutI, tPutZ, tPutR, tCallV, tCallS, popN, tFn, tCopy, tMax, tMin, tSw, swc, tRem, tObjI, Option.toList, List.nil_append, List.cons_append, okR, true_and, and_true, true_or, or_true, Nat.zero_le, ne_eq, not_false_eq_true, Nat.reduceEqDiff]
    exact loop 20 1 A _ _ _ rfl hg hl h
  · exact h.elim
def vRounds (A : Rw) : Int32 := if qLeader A = -1 then -1 else (rnF (qLeader A).toNatClampNeg 20 1 A).1
def w_X12_rounds_17 (M : CT) (G : Nat → PT) (Rp : RT) : PT := tAload 0 <| tFn 1 F_X12_opensPaper <| tAload 0 <| tIload 1 <| tFn 2 F_X12_roundsOnPaper <| tIstore 2 <| tAload 0 <| tFn 1 F_X12_closesPaper <| tIload 2 <| tIret Rp
def w_X12_rounds_0 (M : CT) (G : Nat → PT) (Rp : RT) : PT := tAload 0 <| tConst 0 <| tPutI 12 27 0 <| tAload 0 <| tFn 1 F_X12_leaderNow <| tIstore 1 <| tIload 1 <| tConst (-1) <| tIf2 (fun x y => x ≠ y) (w_X12_rounds_17 M G Rp) <| tConst (-1) <| tIret Rp
set_option maxRecDepth 20000 in
theorem b_X12_rounds_17 {Z : Zt} {d : Nat} {p : Program} {e : Env} {R : Room} {s : State} {m : MethodId} {args : Array Value} {below : List Frame} {meth : Method} {c : Code} {Rp : RT} (C : Cx Z (d + 13) jX12_rounds RX12 p R s m args meth c) : Sd Z jX12_rounds p e R s m args below meth c (MQ below (QcS Z Rp) args s 0 0 (fun a => Z.2.2.1 < a)) 17 (w_X12_rounds_17 (MS Z (d + 13)) (Gw Z 3 p e R s m args below meth c (MQ below (QcS Z Rp) args s 0 0 (fun a => Z.2.2.1 < a))) Rp) := by
  unfold w_X12_rounds_17
  refine s_aload_n (k := 0) C (by decide +kernel) ?_
  refine s_fnV C (j2 := jX12_opensPaper) (cl := 12) (nf := 27) rfl rfl (by decide +kernel) rfl w_8_193 w_8_195 w_p8_4 w_1_13 w_8_196 (by decide +kernel) (fun _ _ _ _ _ h => f_X12_opensPaper h) (fun _ _ _ _ _ h => r_X12_opensPaper h) ?_
  refine s_aload_n (k := 0) C (by decide +kernel) ?_
  refine s_iload_n (k := 1) C (by decide +kernel) ?_
  refine s_fnV C (j2 := jX12_roundsOnPaper) (cl := 12) (nf := 27) rfl rfl (by decide +kernel) rfl w_8_217 w_8_219 w_p8_7 w_1_13 w_8_220 (by decide +kernel) (fun _ _ _ _ _ h => f_X12_roundsOnPaper h) (fun _ _ _ _ _ h => r_X12_roundsOnPaper h) ?_
  refine s_istore_n (k := 2) C (by decide +kernel) ?_
  refine s_aload_n (k := 0) C (by decide +kernel) ?_
  refine s_fnV C (j2 := jX12_closesPaper) (cl := 12) (nf := 27) rfl rfl (by decide +kernel) rfl w_8_201 w_8_203 w_p8_6 w_1_13 w_8_204 (by decide +kernel) (fun _ _ _ _ _ h => f_X12_closesPaper h) (fun _ _ _ _ _ h => r_X12_closesPaper h) ?_
  refine s_iload_n (k := 2) C (by decide +kernel) ?_
  exact s_iret C rfl (by decide +kernel)
set_option maxRecDepth 20000 in
theorem b_X12_rounds_0 {Z : Zt} {d : Nat} {p : Program} {e : Env} {R : Room} {s : State} {m : MethodId} {args : Array Value} {below : List Frame} {meth : Method} {c : Code} {Rp : RT} (C : Cx Z (d + 13) jX12_rounds RX12 p R s m args meth c) : Sd Z jX12_rounds p e R s m args below meth c (MQ below (QcS Z Rp) args s 0 0 (fun a => Z.2.2.1 < a)) 0 (w_X12_rounds_0 (MS Z (d + 13)) (Gw Z 3 p e R s m args below meth c (MQ below (QcS Z Rp) args s 0 0 (fun a => Z.2.2.1 < a))) Rp) := by
  unfold w_X12_rounds_0
  refine s_aload_n (k := 0) C (by decide +kernel) ?_
  refine s_iconst (n := 0) C (by decide +kernel) (by decide) ?_
  refine s_putI C w_6_87 (by decide +kernel) rfl (Or.inl rfl) ?_
  refine s_aload_n (k := 0) C (by decide +kernel) ?_
  refine s_fnV C (j2 := jX12_leaderNow) (cl := 12) (nf := 27) rfl rfl (by decide +kernel) rfl w_8_185 w_8_187 w_p8_3 w_1_13 w_8_188 (by decide +kernel) (fun _ _ _ _ _ h => f_X12_leaderNow h) (fun _ _ _ _ _ h => r_X12_leaderNow h) ?_
  refine s_istore_n (k := 1) C (by decide +kernel) ?_
  refine s_iload_n (k := 1) C (by decide +kernel) ?_
  refine s_iconst (n := (-1)) C (by decide +kernel) (by decide) ?_
  refine s_icmp_ne (off := 5) (tgt := 17) C (by decide +kernel) (by decide) (b_X12_rounds_17 C) ?_
  refine s_iconst (n := (-1)) C (by decide +kernel) (by decide) ?_
  exact s_iret C rfl (by decide +kernel)
theorem ms_X12_rounds {Z : Zt} {d : Nat} {S : Sh} {μ : Mi} {ρ : Mr} {Rp : RT} (a0 : Nat) (h : ∀ G : Nat → PT, w_X12_rounds_0 (MS Z (d + 13)) G Rp [.ref a0, .null, .null] [] S (0, 0) μ ρ) : MS Z (d + 14) jX12_rounds [.ref a0] S μ ρ Rp :=
  MS_of [.ref a0, .null, .null] (by decide +kernel) rfl rfl (Nat.le_of_ble_eq_true rfl) rfl (fun p e R s m args below meth c C => b_X12_rounds_0 C _ _ _ _ _ _ (h _ ))
def F_X12_rounds : FT := fun As S μ ρ k => match As with
  | [.ref a] => a = 2737 ∧ RS S ρ ∧ good (μ 2738) ∧ ∀ μ', RQ μ μ' (μ 2738) (μ 2739) (μ 2737 6) → k (some (.int (vRounds (μ 2738)))) μ'
  | _ => False
theorem r_X12_rounds {As S μ ρ k} (h : F_X12_rounds As S μ ρ k) : ∃ a As', As = Value.ref a :: As' ∧ S.2 a = (12, 27) := by
  unfold F_X12_rounds at h
  split at h
  · exact ⟨_, _, rfl, by rw [h.1]; exact h.2.1.1⟩
  · exact h.elim
set_option maxHeartbeats 1000000 in
theorem f_X12_rounds {Z : Zt} {d : Nat} {As : List Value} {S : Sh} {μ : Mi} {ρ : Mr} {Rp : RT} (h : F_X12_rounds As S μ ρ (fun r μ' => Rp r S μ' ρ)) : MS Z (d + 14) jX12_rounds As S μ ρ Rp := by
  unfold F_X12_rounds at h
  split at h
  · rename_i a
    obtain ⟨rfl, hS, h⟩ := h
    have hS0 := hS
    unfold RS at hS
    obtain ⟨hg, h⟩ := h
    unfold vRounds at h
    refine ms_X12_rounds _ (fun G => ?_)
    simp only [w_X12_rounds_0, w_X12_rounds_17, tAload, tIload, nth, tGetI, tGetR, tConst, tLconst, tBin, tUn, tI2l, tAld, tAldR, tAlen, tIast, tBast, tZast, tAast, tIret, tZret, tVret, tAret, tIf, tIf2, tGoto, tIstore, tAstore, sset, tIinc, tDup, tDup2, tPop, tPutI, tPutZ, tPutR, tCallV, tCallS, popN, tFn, tCopy, tMax, tMin, tSw, swc, tRem, tObjI, Option.toList, List.nil_append, List.cons_append, okR, true_and, and_true, true_or, or_true, Nat.zero_le, ne_eq, not_false_eq_true, Nat.reduceEqDiff, F_X12_leaderNow, F_X12_opensPaper, F_X12_roundsOnPaper, F_X12_closesPaper, hS0, hS, e6, M6_row, M7_eq, M7_row, M4_row, M4_upF, Decidable.not_not]
    refine ⟨fun c => ?_, fun c => ?_⟩
    · rcases qLeader_ok (A := μ 2738) with z | ⟨n, hn, hn5, hl⟩
      · exact absurd z c
      · rw [if_neg c, hn] at h
        rw [hn]
        rw [nI_clamp (by omega)] at h ⊢
        refine ⟨by rw [rg_nI (by omega)]; omega, hg, hl, fun t g => ?_⟩
        rw [M7_back (Hi_rn hn5 hg hl)]
        exact h _ (RQ_7 (g := g) (t := t))
    · have := h _ RQ_0
      rw [if_pos c] at this; exact this
  · exact h.elim
