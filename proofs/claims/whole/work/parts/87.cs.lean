/-! ===== the class: what is agreed is done ===== -/
def agR (A : Rw) (s : Nat) : Prop := (A (514 * s + 5)).toInt ≤ (A (514 * s + 7)).toInt ∧ (A (514 * s + 7)).toInt ≤ (A (514 * s + 4)).toInt
theorem Nx_keep {A A' : Rw} {w : Nat} {μ μ' : Mi} (h : Nx A w μ) (hA : ∀ s i, s < 5 → (i = 3 ∨ (24 ≤ i ∧ i < 34)) → A' (514 * s + i) = A (514 * s + i)) (hμ : ∀ s, s < 5 → μ' (w + 130 + 8 * s + 3) = μ (w + 130 + 8 * s + 3) ∧ μ' (w + 130 + 8 * s + 4) = μ (w + 130 + 8 * s + 4)) : Nx A' w μ' := by
  intro s hs hr t ht
  rw [hA s 3 hs (Or.inl rfl)] at hr
  have h1 := hA s (24 + t) hs (Or.inr ⟨by omega, by omega⟩)
  have h2 := hA s (29 + t) hs (Or.inr ⟨by omega, by omega⟩)
  rw [(hμ s hs).1, (hμ s hs).2, show 514 * s + 24 + t = 514 * s + (24 + t) by omega, show 514 * s + 29 + t = 514 * s + (29 + t) by omega, h1, h2, ← Nat.add_assoc, ← Nat.add_assoc]
  exact h s hs hr t ht
/-- an entry is agreed for the first time, or was -/
theorem R0_first {A : Rw} {w s p : Nat} {S : Sh} {μ : Mi} {ρ : Mr} {e : Int32} (hs : s < 5) (h : R0 A w S μ ρ) (p1 : 1 ≤ p) (p2 : p ≤ 120) (he : enR e A (514 * s + 30 + 4 * p)) :
    R0 (if A (3826 + 4 * p) = 0 then cpF A A (514 * s + 30 + 4 * p) (3826 + 4 * p) 4 else A) w S (if μ (w + 128) p = 0 then upI μ (w + 128) p e else μ) ρ := by
  have hf := h.2.2.2.1.1 p p1 p2
  have hz : μ (w + 128) p = 0 ↔ A (3826 + 4 * p) = 0 := by
    rcases hf with z | z
    · exact ⟨fun _ => z.2, fun _ => z.1⟩
    · constructor
      · intro c
        rw [c] at z
        exact absurd (show eTm 0 = 0 by decide) z.2.1
      · intro c
        rw [← z.1.1] at c
        exact absurd c z.2.1
  by_cases c : A (3826 + 4 * p) = 0
  · rw [if_pos c, if_pos (hz.mpr c)]
    have o : ∀ i, (i < 3826 + 4 * p ∨ 3830 + 4 * p ≤ i) → cpF A A (514 * s + 30 + 4 * p) (3826 + 4 * p) 4 i = A i := fun i hi => cpF_out (by omega)
    have oi : ∀ i, i < 4 → cpF A A (514 * s + 30 + 4 * p) (3826 + 4 * p) 4 (3826 + 4 * p + i) = A (514 * s + 30 + 4 * p + i) := fun i hi => cpF_in hi
    obtain ⟨h1, h2, h3, h4, h5⟩ := h
    refine ⟨h1, fun t ht => ?_, ⟨?_, ?_, fun i hi => ?_⟩, ⟨fun q q1 q2 => ?_, fun t t1 t2 => ?_⟩, ?_⟩
    · exact St_congr ht (h2 t ht) (fun i i1 i2 => o i (by omega)) (o _ (by omega)) (fun y y1 y2 => upI_ne (by omega))
    · rw [upI_ne (by omega)]
      simp (disch := omega) only [o]
      exact h3.1
    · simp (disch := omega) only [o]
      exact h3.2.1
    · rw [o _ (by omega)] at hi
      obtain ⟨n, e1, e2, -, e3⟩ := rg_ex h3.2.1.1
      have hi' := hi
      rw [e1, nI_clamp e2] at hi'
      obtain ⟨j, j1, j2, -⟩ := WOK_box h1 (i := i) (by omega)
      refine MsR_congr (h3.2.2 i hi) (fun k hk => o _ (by omega)) (o _ (by omega)) ?_ ?_
      · exact upI_ne (by omega)
      · exact upI_ne (by omega)
    · by_cases cq : q = p
      · subst cq
        rw [upI_at]
        exact Or.inr (enR_congr he (oi 0 (by omega)) (oi 1 (by omega)) (oi 2 (by omega)) (oi 3 (by omega)))
      · rw [upI_k cq]
        rcases h4.1 q q1 q2 with z | z
        · exact Or.inl ⟨z.1, by rw [o _ (by omega)]; exact z.2⟩
        · exact Or.inr (enR_congr z (o _ (by omega)) (o _ (by omega)) (o _ (by omega)) (o _ (by omega)))
    · rw [upI_ne (by omega), o _ (by omega)]
      exact h4.2 t t1 t2
    · unfold Wd at *
      rw [upI_ne (by omega), o _ (by omega), o _ (by omega)]
      exact h5
  · rw [if_neg c, if_neg (fun z => c (hz.mp z))]
    exact h
def cDo1 (μ : Mi) (w x p : Nat) : Mi :=
  let e := μ (x + 1) p
  let μ1 := if eKd e = 1 then upI μ (x + 2) (eX e).toNatClampNeg (eY e) else if eKd e = 2 then upI μ (x + 2) (eX e).toNatClampNeg (μ (x + 2) (eX e).toNatClampNeg + eY e) else μ
  if μ1 (w + 128) p = 0 then upI μ1 (w + 128) p e else μ1
theorem RR_do1 {A : Rw} {w s p : Nat} {S : Sh} {μ : Mi} {ρ : Mr} (hs : s < 5) (h : RR A w S μ ρ) (p1 : (A (514 * s + 5)).toInt < p) (p2 : (p : Int) ≤ (A (514 * s + 4)).toInt) : RR (qDo1 A s p) w S (cDo1 μ w (w + 130 + 8 * s) p) ρ := by
  have hSt := RR_st h hs
  obtain ⟨l, l1, l2, -, l3⟩ := rg_ex hSt.2.1.2.1
  obtain ⟨sn, s1, s2, -, s3⟩ := rg_ex hSt.2.1.2.2.1
  rw [s1, nI_toInt s2] at p1
  rw [l1, nI_toInt l2] at p2
  have en := hSt.2.2.2.1 p (by rw [s1, nI_clamp s2]; omega) (by rw [l1, nI_clamp l2]; omega)
  obtain ⟨⟨q0, q1, q2, q3⟩, o1, o2, o3, o4, o5, o6⟩ := en
  -- the cells
  have stage : ∀ (B : Rw) (ν : Mi), RR B w S ν ρ → enR (μ (w + 130 + 8 * s + 1) p) B (514 * s + 30 + 4 * p) → RR (if B (3826 + 4 * p) = 0 then cpF B B (514 * s + 30 + 4 * p) (3826 + 4 * p) 4 else B) w S (if ν (w + 128) p = 0 then upI ν (w + 128) p (μ (w + 130 + 8 * s + 1) p) else ν) ρ := by
    intro B ν hB he
    refine ⟨R0_first hs hB.1 (by omega) (by omega) he, ?_⟩
    refine Nx_keep hB.2 (fun t i ht hi => ?_) (fun t ht => ⟨?_, ?_⟩)
    · split
      · exact cpF_out (by omega)
      · rfl
    · split
      · exact upI_ne (by omega)
      · rfl
    · split
      · exact upI_ne (by omega)
      · rfl
  have cells : ∀ (c : Nat) (v : Int32), c < 4 → RR (up A (514 * s + 16 + c) v) w S (upI μ (w + 130 + 8 * s + 2) c v) ρ := by
    intro c v hc
    refine ⟨R0_store hs h.1 (fun i hi => up_ne (by omega)) (fun y hy => upI_ne (by omega)) (St_cells hs hSt (fun i i1 i2 => up_ne (by omega)) (fun y y1 y2 => upI_ne y2) (fun i hi => by rw [upI_ne (by omega)]) ?_ (fun i hi => ?_)), Nx_keep h.2 (fun t i ht hi => up_ne (by omega)) (fun t ht => ⟨upI_ne (by omega), upI_ne (by omega)⟩)⟩
    · rw [upI_ne (by omega), up_ne (by omega)]
      exact hSt.1.2.2.2.2.2.2.2.2.1
    · by_cases z : i = c
      · subst z; rw [upI_at, up_at]
      · rw [upI_k z, up_ne (by omega)]
        exact hSt.2.2.1.1 i hi
  have keep : ∀ (c : Nat) (v : Int32), c < 4 → enR (μ (w + 130 + 8 * s + 1) p) (up A (514 * s + 16 + c) v) (514 * s + 30 + 4 * p) := by
    intro c v hc
    exact enR_congr ⟨⟨q0, q1, q2, q3⟩, o1, o2, o3, o4, o5, o6⟩ (up_ne (by omega)) (up_ne (by omega)) (up_ne (by omega)) (up_ne (by omega))
  unfold qDo1 cDo1
  simp only []
  rw [← q1, ← q2, ← q3]
  by_cases c1 : eKd (μ (w + 130 + 8 * s + 1) p) = 1
  · simp only [if_pos c1]
    obtain ⟨c, e1, e2, -, e3⟩ := rg_ex (o6 (Or.inl c1))
    rw [e1, nI_clamp e2]
    exact stage _ _ (cells c _ (by omega)) (keep c _ (by omega))
  · simp only [if_neg c1]
    by_cases c2 : eKd (μ (w + 130 + 8 * s + 1) p) = 2
    · simp only [if_pos c2]
      obtain ⟨c, e1, e2, -, e3⟩ := rg_ex (o6 (Or.inr c2))
      rw [e1, nI_clamp e2, hSt.2.2.1.1 c (by omega)]
      exact stage _ _ (cells c _ (by omega)) (keep c _ (by omega))
    · simp only [if_neg c2]
      exact stage _ _ h ⟨⟨q0, q1, q2, q3⟩, o1, o2, o3, o4, o5, o6⟩
theorem cDo1_ne {μ : Mi} {w x p y : Nat} (h1 : y ≠ x + 2) (h2 : y ≠ w + 128) : cDo1 μ w x p y = μ y := by
  unfold cDo1
  have key : ∀ ν : Mi, ν y = μ y → (if ν (w + 128) p = 0 then upI ν (w + 128) p (μ (x + 1) p) else ν) y = μ y := by
    intro ν hν
    split
    · rw [upI_ne h2, hν]
    · exact hν
  apply key
  split
  · rw [upI_ne h1]
  · split
    · rw [upI_ne h1]
    · rfl
theorem dosF_s {s n p : Nat} {A : Rw} : dosF s (n + 1) p A = dosF s n (p + 1) (qDo1 A s p) := rfl
def Ka (w s : Nat) (μ μ' : Mi) : Prop := ∀ y : Nat, y ≠ w + 130 + 8 * s → y ≠ w + 130 + 8 * s + 2 → y ≠ w + 128 → μ' y = μ y
theorem Ka_Ot {w s : Nat} {μ μ' : Mi} (hs : s < 5) (h : Ka w s μ μ') : Ot w μ μ' := fun y hy => h y (by omega) (by omega) (by omega)
def w_X10_agreeUpTo_130 (M : CT) (G : Nat → PT) (Rp : RT) : PT := tAload 1 <| tAload 1 <| tGetI 7 18 8 <| tIload 3 <| tMax <| tPutI 7 18 8 <| tVret Rp
def w_X10_agreeUpTo_124 (M : CT) (G : Nat → PT) (Rp : RT) : PT := tIinc 4 1 <| tGoto (G 17)
def w_X10_agreeUpTo_105 (M : CT) (G : Nat → PT) (Rp : RT) : PT := tAload 0 <| tGetR 10 6 2 <| tIload 4 <| tAld 20 <| tIf (fun x => x ≠ 0) (w_X10_agreeUpTo_124 M G Rp) <| tAload 0 <| tGetR 10 6 2 <| tIload 4 <| tIload 5 <| tIast <| w_X10_agreeUpTo_124 M G Rp
def w_X10_agreeUpTo_87 (M : CT) (G : Nat → PT) (Rp : RT) : PT := tAload 1 <| tGetR 7 18 13 <| tIload 6 <| tDup2 <| tAld 20 <| tIload 5 <| tFn 1 F_X0_numberOf <| tBin (fun x y => x + y) <| tIast <| tGoto (w_X10_agreeUpTo_105 M G Rp)
def w_X10_agreeUpTo_72 (M : CT) (G : Nat → PT) (Rp : RT) : PT := tAload 1 <| tGetR 7 18 13 <| tIload 6 <| tIload 5 <| tFn 1 F_X0_numberOf <| tIast <| tGoto (w_X10_agreeUpTo_105 M G Rp)
def w_X10_agreeUpTo_17 (M : CT) (G : Nat → PT) (Rp : RT) : PT := tIload 4 <| tIload 3 <| tIf2 (fun x y => y < x) (w_X10_agreeUpTo_130 M G Rp) <| tAload 1 <| tGetR 7 18 12 <| tIload 4 <| tAld 20 <| tIstore 5 <| tIload 5 <| tFn 1 F_X0_cellOf <| tIstore 6 <| tIload 5 <| tFn 1 F_X0_kindOf <| tSw [(1, w_X10_agreeUpTo_72 M G Rp), (2, w_X10_agreeUpTo_87 M G Rp)] (w_X10_agreeUpTo_105 M G Rp)
def w_X10_agreeUpTo_0 (M : CT) (G : Nat → PT) (Rp : RT) : PT := tIload 2 <| tAload 1 <| tGetI 7 18 7 <| tMin <| tIstore 3 <| tAload 1 <| tGetI 7 18 8 <| tConst 1 <| tBin (fun x y => x + y) <| tIstore 4 <| G 17
set_option maxRecDepth 20000 in
theorem b_X10_agreeUpTo_130 {Z : Zt} {d : Nat} {p : Program} {e : Env} {R : Room} {s : State} {m : MethodId} {args : Array Value} {below : List Frame} {meth : Method} {c : Code} {Rp : RT} (C : Cx Z (d + 1) jX10_agreeUpTo RX10 p R s m args meth c) : Sd Z jX10_agreeUpTo p e R s m args below meth c (MQ below (QcS Z Rp) args s 0 0 (fun a => Z.2.2.1 < a)) 130 (w_X10_agreeUpTo_130 (MS Z (d + 1)) (Gw Z 7 p e R s m args below meth c (MQ below (QcS Z Rp) args s 0 0 (fun a => Z.2.2.1 < a))) Rp) := by
  unfold w_X10_agreeUpTo_130
  refine s_aload_n (k := 1) C (by decide +kernel) ?_
  refine s_aload_n (k := 1) C (by decide +kernel) ?_
  refine s_getI C w_2_9 (by decide +kernel) rfl ?_
  refine s_iload_n (k := 3) C (by decide +kernel) ?_
  refine s_max C w_3_167 w_3_168 w_1_16 w_max (by decide +kernel) ?_
  refine s_putI C w_2_9 (by decide +kernel) rfl (Or.inl rfl) ?_
  exact s_vret C rfl (by decide +kernel)
set_option maxRecDepth 20000 in
theorem b_X10_agreeUpTo_124 {Z : Zt} {d : Nat} {p : Program} {e : Env} {R : Room} {s : State} {m : MethodId} {args : Array Value} {below : List Frame} {meth : Method} {c : Code} {Rp : RT} (C : Cx Z (d + 1) jX10_agreeUpTo RX10 p R s m args meth c) : Sd Z jX10_agreeUpTo p e R s m args below meth c (MQ below (QcS Z Rp) args s 0 0 (fun a => Z.2.2.1 < a)) 124 (w_X10_agreeUpTo_124 (MS Z (d + 1)) (Gw Z 7 p e R s m args below meth c (MQ below (QcS Z Rp) args s 0 0 (fun a => Z.2.2.1 < a))) Rp) := by
  unfold w_X10_agreeUpTo_124
  refine s_iinc (n := 1) C (by decide +kernel) (by decide) ?_
  exact s_goto (off := (-110)) (tgt := 17) C (by decide +kernel) (by decide) (fun _ _ _ _ _ _ h => h)
set_option maxRecDepth 20000 in
theorem b_X10_agreeUpTo_105 {Z : Zt} {d : Nat} {p : Program} {e : Env} {R : Room} {s : State} {m : MethodId} {args : Array Value} {below : List Frame} {meth : Method} {c : Code} {Rp : RT} (C : Cx Z (d + 1) jX10_agreeUpTo RX10 p R s m args meth c) : Sd Z jX10_agreeUpTo p e R s m args below meth c (MQ below (QcS Z Rp) args s 0 0 (fun a => Z.2.2.1 < a)) 105 (w_X10_agreeUpTo_105 (MS Z (d + 1)) (Gw Z 7 p e R s m args below meth c (MQ below (QcS Z Rp) args s 0 0 (fun a => Z.2.2.1 < a))) Rp) := by
  unfold w_X10_agreeUpTo_105
  refine s_aload_n (k := 0) C (by decide +kernel) ?_
  refine s_getR C w_2_121 (by decide +kernel) rfl ?_
  refine s_iload (k := 4) C (by decide +kernel) ?_
  refine s_iald C (by decide +kernel) ?_
  refine s_if_ne (off := 12) (tgt := 124) C (by decide +kernel) (by decide) (b_X10_agreeUpTo_124 C) ?_
  refine s_aload_n (k := 0) C (by decide +kernel) ?_
  refine s_getR C w_2_121 (by decide +kernel) rfl ?_
  refine s_iload (k := 4) C (by decide +kernel) ?_
  refine s_iload (k := 5) C (by decide +kernel) ?_
  refine s_iast C (by decide +kernel) ?_
  exact (b_X10_agreeUpTo_124 C)
set_option maxRecDepth 20000 in
theorem b_X10_agreeUpTo_87 {Z : Zt} {d : Nat} {p : Program} {e : Env} {R : Room} {s : State} {m : MethodId} {args : Array Value} {below : List Frame} {meth : Method} {c : Code} {Rp : RT} (C : Cx Z (d + 1) jX10_agreeUpTo RX10 p R s m args meth c) : Sd Z jX10_agreeUpTo p e R s m args below meth c (MQ below (QcS Z Rp) args s 0 0 (fun a => Z.2.2.1 < a)) 87 (w_X10_agreeUpTo_87 (MS Z (d + 1)) (Gw Z 7 p e R s m args below meth c (MQ below (QcS Z Rp) args s 0 0 (fun a => Z.2.2.1 < a))) Rp) := by
  unfold w_X10_agreeUpTo_87
  refine s_aload_n (k := 1) C (by decide +kernel) ?_
  refine s_getR C w_2_25 (by decide +kernel) rfl ?_
  refine s_iload (k := 6) C (by decide +kernel) ?_
  refine s_dup2 C (by decide +kernel) ?_
  refine s_iald C (by decide +kernel) ?_
  refine s_iload (k := 5) C (by decide +kernel) ?_
  refine s_fnS C (j2 := jX0_numberOf) (by decide +kernel) rfl w_3_185 w_2_106 w_1_9 w_2_107 (by decide +kernel) (fun _ _ _ _ _ h => f_X0_numberOf h) ?_
  refine s_iadd C (by decide +kernel) ?_
  refine s_iast C (by decide +kernel) ?_
  exact s_goto (off := 3) (tgt := 105) C (by decide +kernel) (by decide) (b_X10_agreeUpTo_105 C)
set_option maxRecDepth 20000 in
theorem b_X10_agreeUpTo_72 {Z : Zt} {d : Nat} {p : Program} {e : Env} {R : Room} {s : State} {m : MethodId} {args : Array Value} {below : List Frame} {meth : Method} {c : Code} {Rp : RT} (C : Cx Z (d + 1) jX10_agreeUpTo RX10 p R s m args meth c) : Sd Z jX10_agreeUpTo p e R s m args below meth c (MQ below (QcS Z Rp) args s 0 0 (fun a => Z.2.2.1 < a)) 72 (w_X10_agreeUpTo_72 (MS Z (d + 1)) (Gw Z 7 p e R s m args below meth c (MQ below (QcS Z Rp) args s 0 0 (fun a => Z.2.2.1 < a))) Rp) := by
  unfold w_X10_agreeUpTo_72
  refine s_aload_n (k := 1) C (by decide +kernel) ?_
  refine s_getR C w_2_25 (by decide +kernel) rfl ?_
  refine s_iload (k := 6) C (by decide +kernel) ?_
  refine s_iload (k := 5) C (by decide +kernel) ?_
  refine s_fnS C (j2 := jX0_numberOf) (by decide +kernel) rfl w_3_185 w_2_106 w_1_9 w_2_107 (by decide +kernel) (fun _ _ _ _ _ h => f_X0_numberOf h) ?_
  refine s_iast C (by decide +kernel) ?_
  exact s_goto (off := 21) (tgt := 105) C (by decide +kernel) (by decide) (b_X10_agreeUpTo_105 C)
set_option maxRecDepth 20000 in
theorem b_X10_agreeUpTo_17 {Z : Zt} {d : Nat} {p : Program} {e : Env} {R : Room} {s : State} {m : MethodId} {args : Array Value} {below : List Frame} {meth : Method} {c : Code} {Rp : RT} (C : Cx Z (d + 1) jX10_agreeUpTo RX10 p R s m args meth c) : Sd Z jX10_agreeUpTo p e R s m args below meth c (MQ below (QcS Z Rp) args s 0 0 (fun a => Z.2.2.1 < a)) 17 (w_X10_agreeUpTo_17 (MS Z (d + 1)) (Gw Z 7 p e R s m args below meth c (MQ below (QcS Z Rp) args s 0 0 (fun a => Z.2.2.1 < a))) Rp) := by
  unfold w_X10_agreeUpTo_17
  refine s_iload (k := 4) C (by decide +kernel) ?_
  refine s_iload_n (k := 3) C (by decide +kernel) ?_
  refine s_icmp_gt (off := 110) (tgt := 130) C (by decide +kernel) (by decide) (b_X10_agreeUpTo_130 C) ?_
  refine s_aload_n (k := 1) C (by decide +kernel) ?_
  refine s_getR C w_2_22 (by decide +kernel) rfl ?_
  refine s_iload (k := 4) C (by decide +kernel) ?_
  refine s_iald C (by decide +kernel) ?_
  refine s_istore (k := 5) C (by decide +kernel) ?_
  refine s_iload (k := 5) C (by decide +kernel) ?_
  refine s_fnS C (j2 := jX0_cellOf) (by decide +kernel) rfl w_3_181 w_2_103 w_1_9 w_2_104 (by decide +kernel) (fun _ _ _ _ _ h => f_X0_cellOf h) ?_
  refine s_istore (k := 6) C (by decide +kernel) ?_
  refine s_iload (k := 5) C (by decide +kernel) ?_
  refine s_fnS C (j2 := jX0_kindOf) (by decide +kernel) rfl w_3_182 w_3_183 w_1_9 w_3_184 (by decide +kernel) (fun _ _ _ _ _ h => f_X0_kindOf h) ?_
  refine s_lsw (df := 61) (ps := #[(1, 28), (2, 43)]) (len := 28) C (by decide +kernel) (by decide) 105 (by decide) (b_X10_agreeUpTo_105 C) (fun i r h => ?_) (fun x h => ?_)
  · match i, h with
    | 0, h => cases h; dsimp only; exact ⟨28, 72, by decide, by decide, (b_X10_agreeUpTo_72 C)⟩
    | 1, h => cases h; dsimp only; exact ⟨43, 87, by decide, by decide, (b_X10_agreeUpTo_87 C)⟩
    | q + 2, h => simp at h
  · refine lsw_out _ _ x (fun a ha => ?_)
    simp at ha h
    rcases ha with ⟨rfl, _⟩ | ⟨rfl, _⟩
    · exact fun z => h.1 (Int32.toInt_inj.mp (by rw [z]; rfl))
    · exact fun z => h.2 (Int32.toInt_inj.mp (by rw [z]; rfl))
set_option maxRecDepth 20000 in
theorem b_X10_agreeUpTo_0 {Z : Zt} {d : Nat} {p : Program} {e : Env} {R : Room} {s : State} {m : MethodId} {args : Array Value} {below : List Frame} {meth : Method} {c : Code} {Rp : RT} (C : Cx Z (d + 1) jX10_agreeUpTo RX10 p R s m args meth c) : Sd Z jX10_agreeUpTo p e R s m args below meth c (MQ below (QcS Z Rp) args s 0 0 (fun a => Z.2.2.1 < a)) 0 (w_X10_agreeUpTo_0 (MS Z (d + 1)) (Gw Z 7 p e R s m args below meth c (MQ below (QcS Z Rp) args s 0 0 (fun a => Z.2.2.1 < a))) Rp) := by
  unfold w_X10_agreeUpTo_0
  refine s_iload_n (k := 2) C (by decide +kernel) ?_
  refine s_aload_n (k := 1) C (by decide +kernel) ?_
  refine s_getI C w_2_5 (by decide +kernel) rfl ?_
  refine s_min C w_3_166 w_3_84 w_1_16 w_min (by decide +kernel) ?_
  refine s_istore_n (k := 3) C (by decide +kernel) ?_
  refine s_aload_n (k := 1) C (by decide +kernel) ?_
  refine s_getI C w_2_9 (by decide +kernel) rfl ?_
  refine s_iconst (n := 1) C (by decide +kernel) (by decide) ?_
  refine s_iadd C (by decide +kernel) ?_
  refine s_istore (k := 4) C (by decide +kernel) ?_
  exact (fun _ _ _ _ _ _ h => h)
theorem ms_X10_agreeUpTo {Z : Zt} {d : Nat} {S : Sh} {μ : Mi} {ρ : Mr} {Rp : RT} (a0 : Nat) (a1 : Nat) (x2 : Int32) (h : ∀ G : Nat → PT, (∀ (L st : List Value) (S : Sh) (q : Nat × Nat) (μ : Mi) (ρ : Mr), w_X10_agreeUpTo_17 (MS Z (d + 1)) G Rp L st S q μ ρ → G 17 L st S q μ ρ) → w_X10_agreeUpTo_0 (MS Z (d + 1)) G Rp [.ref a0, .ref a1, .int x2, .null, .null, .null, .null] [] S (0, 0) μ ρ) : MS Z (d + 2) jX10_agreeUpTo [.ref a0, .ref a1, .int x2] S μ ρ Rp :=
  MS_of [.ref a0, .ref a1, .int x2, .null, .null, .null, .null] (by decide +kernel) rfl rfl (Nat.le_of_ble_eq_true rfl) rfl (fun p e R s m args below meth c C => b_X10_agreeUpTo_0 C _ _ _ _ _ _ (h _ (b_X10_agreeUpTo_17 C)))
def F_X10_agreeUpTo : FT := fun As S μ ρ k => match As with
  | [.ref a, .ref x, .int to] => S.2 a = (10, 6) ∧ ∃ (s : Nat) (A : Rw), s < 5 ∧ x = a + 130 + 8 * s ∧ RR A a S μ ρ ∧ (A (514 * s + 5)).toInt ≤ (A (514 * s + 7)).toInt ∧ rg (A (514 * s + 7)) 0 120 ∧ rg to 0 120 ∧ to.toInt ≤ (A (514 * s + 4)).toInt ∧ ∀ μ', RR (qDoes A s to) a S μ' ρ → Ka a s μ μ' → k none μ'
  | _ => False
theorem r_X10_agreeUpTo {As S μ ρ k} (h : F_X10_agreeUpTo As S μ ρ k) : ∃ a As', As = Value.ref a :: As' ∧ S.2 a = (10, 6) := by
  unfold F_X10_agreeUpTo at h
  split at h
  · exact ⟨_, _, rfl, h.1⟩
  · exact h.elim
set_option maxHeartbeats 1000000 in
theorem f_X10_agreeUpTo {Z : Zt} {d : Nat} {As : List Value} {S : Sh} {μ : Mi} {ρ : Mr} {Rp : RT} (h : F_X10_agreeUpTo As S μ ρ (fun r μ' => Rp r S μ' ρ)) : MS Z (d + 2) jX10_agreeUpTo As S μ ρ Rp := by
  unfold F_X10_agreeUpTo at h
  split at h
  · rename_i a x to
    obtain ⟨a, hNa⟩ : ∃ n : Nat, n = a := ⟨a, rfl⟩
    subst hNa
    obtain ⟨h1, s, A, hs, rfl, hR, hag, hr7, hto, htl, h⟩ := h
    refine ms_X10_agreeUpTo _ _ _ (fun G g17 => ?_)
    have hW := RR_W hR
    obtain ⟨x1, x2, -⟩ := W_st hW hs
    unfold StS at x2
    have hSt := RR_st hR hs
    obtain ⟨to, rfl, t2, -, t3⟩ := rg_ex hto
    obtain ⟨l, l1, l2, -, l3⟩ := rg_ex hSt.2.1.2.1
    obtain ⟨sn, s1, s2, -, s3⟩ := rg_ex hSt.2.1.2.2.1
    obtain ⟨ag, a1, a2, -, a3⟩ := rg_ex hr7
    rw [s1, a1, nI_toInt s2, nI_toInt a2] at hag
    rw [l1, nI_toInt l2, nI_toInt t2] at htl
    have hmin : (if nI l < nI to then nI l else nI to) = nI to := by
      rw [if_neg (by rw [nI_ltI l2 t2]; omega)]
    unfold qDoes at h
    rw [a1, nI_clamp a2, nI_clamp t2] at h
    simp only [] at h
    have loop : ∀ (n p : Nat) (B : Rw) (ν : Mi) (v5 v6 : Value), p + n = max (ag + 1) (to + 1) → ag < p → RR B a S ν ρ → (∀ i, (i < 514 * s + 16 ∨ 514 * s + 20 ≤ i) → (i < 3830 ∨ 4310 ≤ i) → B i = A i) → Ka a s μ ν → (∀ ν', RR (up (dosF s n p B) (514 * s + 7) (if dosF s n p B (514 * s + 7) < nI to then nI to else dosF s n p B (514 * s + 7))) a S ν' ρ → Ka a s μ ν' → Rp none S ν' ρ) →
        G 17 [.ref a, .ref (a + 130 + 8 * s), .int (nI to), .int (nI to), .int (nI p), v5, v6] [] S (0, 0) ν ρ := by
      intro n
      induction n with
      | zero =>
        intro p B ν v5 v6 hp hap hB hBA hO hh
        have hStB := RR_st hB hs
        have e8 : ν (a + 130 + 8 * s) 8 = nI ag := by rw [hStB.1.2.2.2.2.2.2.2.2.1, hBA _ (by omega) (by omega), a1]
        apply g17
        simp only [w_X10_agreeUpTo_17, w_X10_agreeUpTo_130, tAload, tIload, nth, tGetI, tGetR, tConst, tLconst, tBin, tUn, tI2l, tAld, tAldR, tAlen, tIast, tBast, tZast, tAast, tIret, tZret, tVret, tAret, tIf, tIf2, tGoto, tIstore, tAstore, sset, tIinc, tDup, tDup2, tPop, tPutI, tPutZ, tPutR, tCallV, tCallS, popN, tFn, tCopy, tMax, tMin, tSw, swc, tRem, tObjI, Option.toList, List.nil_append, List.cons_append, okR, true_and, and_true, true_or, or_true, Nat.zero_le, ne_eq, not_false_eq_true, Nat.reduceEqDiff, x1, e8]
        refine ⟨fun _ => ?_, fun c => absurd (by rw [nI_ltI t2 (by omega)]; omega) c⟩
        have ed : dosF s 0 p B = B := rfl
        rw [ed] at hh
        have eb7 : B (514 * s + 7) = nI ag := by rw [hBA _ (by omega) (by omega), a1]
        refine hh _ ⟨R0_store hs hB.1 (fun i hi => up_ne (by omega)) (fun y hy => upI_ne (by omega)) (St_cells hs hStB (fun i i1 i2 => up_ne i1) (fun y y1 y2 => upI_ne y1) (fun i hi => upI_k hi) ?_ (fun i hi => ?_)), Nx_keep hB.2 (fun t i ht hi => up_ne (by omega)) (fun t ht => ⟨upI_ne (by omega), upI_ne (by omega)⟩)⟩ (fun y y1 y2 y3 => by rw [upI_ne y1]; exact hO y y1 y2 y3)
        · rw [upI_at, up_at, eb7]
        · rw [upI_ne (by omega), up_ne (by omega)]
          exact hStB.2.2.1.1 i hi
      | succ n ih =>
        intro p B ν v5 v6 hp hap hB hBA hO hh
        have hStB := RR_st hB hs
        have hpt : p ≤ to := by omega
        have b4 : B (514 * s + 4) = nI l := by rw [hBA _ (by omega) (by omega), l1]
        have b5 : B (514 * s + 5) = nI sn := by rw [hBA _ (by omega) (by omega), s1]
        have en := hStB.2.2.2.1 p (by rw [b5, nI_clamp s2]; omega) (by rw [b4, nI_clamp l2]; omega)
        have hstep := RR_do1 (p := p) hs hB (by rw [b5, nI_toInt s2]; omega) (by rw [b4, nI_toInt l2]; omega)
        rw [dosF_s] at hh
        have hq : ∀ i, (i < 514 * s + 16 ∨ 514 * s + 20 ≤ i) → (i < 3830 ∨ 4310 ≤ i) → qDo1 B s p i = A i := by
          intro i i1 i2
          rw [qDo1_out (fun z => ?_) (by omega), hBA i i1 i2]
          rw [← en.1.2.2.1]
          rw [← en.1.2.1] at z
          exact en.2.2.2.2.2.2 z
        have ho : Ka a s μ (cDo1 ν a (a + 130 + 8 * s) p) := fun y y1 y2 y3 => by rw [cDo1_ne y2 y3]; exact hO y y1 y2 y3
        have hnext : ∀ (v5 v6 : Value), w_X10_agreeUpTo_124 (MS Z (d + 1)) G Rp [.ref a, .ref (a + 130 + 8 * s), .int (nI to), .int (nI to), .int (nI p), v5, v6] [] S (0, 0) (cDo1 ν a (a + 130 + 8 * s) p) ρ := by
          intro v5 v6
          simp only [w_X10_agreeUpTo_124, tAload, tIload, nth, tGetI, tGetR, tConst, tLconst, tBin, tUn, tI2l, tAld, tAldR, tAlen, tIast, tBast, tZast, tAast, tIret, tZret, tVret, tAret, tIf, tIf2, tGoto, tIstore, tAstore, sset, tIinc, tDup, tDup2, tPop, tPutI, tPutZ, tPutR, tCallV, tCallS, popN, tFn, tCopy, tMax, tMin, tSw, swc, tRem, tObjI, Option.toList, List.nil_append, List.cons_append, okR, true_and, and_true, true_or, or_true, Nat.zero_le, ne_eq, not_false_eq_true, Nat.reduceEqDiff, nI_s1]
          exact ih (p + 1) _ _ v5 v6 (by omega) (by omega) hstep hq ho hh
        unfold cDo1 at hnext
        simp only [] at hnext
        generalize he : ν (a + 130 + 8 * s + 1) p = e at hnext en
        have f105 : ∀ ν1 : Mi, (∀ v5 v6 : Value, w_X10_agreeUpTo_124 (MS Z (d + 1)) G Rp [.ref a, .ref (a + 130 + 8 * s), .int (nI to), .int (nI to), .int (nI p), v5, v6] [] S (0, 0) (if ν1 (a + 128) p = 0 then upI ν1 (a + 128) p e else ν1) ρ) → ∀ v6 : Value, w_X10_agreeUpTo_105 (MS Z (d + 1)) G Rp [.ref a, .ref (a + 130 + 8 * s), .int (nI to), .int (nI to), .int (nI p), .int e, v6] [] S (0, 0) ν1 ρ := by
          intro ν1 hn v6
          simp only [w_X10_agreeUpTo_105, tAload, tIload, nth, tGetI, tGetR, tConst, tLconst, tBin, tUn, tI2l, tAld, tAldR, tAlen, tIast, tBast, tZast, tAast, tIret, tZret, tVret, tAret, tIf, tIf2, tGoto, tIstore, tAstore, sset, tIinc, tDup, tDup2, tPop, tPutI, tPutZ, tPutR, tCallV, tCallS, popN, tFn, tCopy, tMax, tMin, tSw, swc, tRem, tObjI, Option.toList, List.nil_append, List.cons_append, okR, true_and, and_true, true_or, or_true, Nat.zero_le, ne_eq, not_false_eq_true, Nat.reduceEqDiff, h1, hW.2.2.2.2.1, hW.2.1, Decidable.not_not]
          rw [nI_clamp (by omega)]
          refine ⟨inb_nI (by omega) (by decide), fun c => ?_, fun c => ⟨inb_nI (by omega) (by decide), ?_⟩⟩
          · have := hn (.int e) v6
            rw [if_neg c] at this
            exact this
          · have := hn (.int e) v6
            rw [if_pos c] at this
            exact this
        apply g17
        simp only [w_X10_agreeUpTo_17, w_X10_agreeUpTo_72, w_X10_agreeUpTo_87, tAload, tIload, nth, tGetI, tGetR, tConst, tLconst, tBin, tUn, tI2l, tAld, tAldR, tAlen, tIast, tBast, tZast, tAast, tIret, tZret, tVret, tAret, tIf, tIf2, tGoto, tIstore, tAstore, sset, tIinc, tDup, tDup2, tPop, tPutI, tPutZ, tPutR, tCallV, tCallS, popN, tFn, tCopy, tMax, tMin, tSw, swc, tRem, tObjI, Option.toList, List.nil_append, List.cons_append, okR, true_and, and_true, true_or, or_true, Nat.zero_le, ne_eq, not_false_eq_true, Nat.reduceEqDiff, F_X0_cellOf, F_X0_kindOf, F_X0_numberOf, x1, x2]
        rw [nI_clamp (by omega), he]
        refine ⟨fun c => ?_, fun _ => ⟨inb_nI (by omega) (by decide), fun c => ⟨?_, ?_⟩, fun c => ⟨fun c2 => ⟨?_, ?_⟩, fun c2 => ?_⟩⟩⟩
        · rw [nI_ltI t2 (by omega)] at c
          omega
        · obtain ⟨cc, e1, e2, -, e3⟩ := rg_ex (en.2.2.2.2.2.2 (Or.inl c))
          rw [e1]
          exact inb_nI (by omega) (by decide)
        · rw [if_pos c] at hnext
          exact f105 _ hnext _
        · obtain ⟨cc, e1, e2, -, e3⟩ := rg_ex (en.2.2.2.2.2.2 (Or.inr c2))
          rw [e1]
          exact inb_nI (by omega) (by decide)
        · refine ⟨?_, ?_⟩
          · obtain ⟨cc, e1, e2, -, e3⟩ := rg_ex (en.2.2.2.2.2.2 (Or.inr c2))
            rw [e1]
            exact inb_nI (by omega) (by decide)
          · rw [if_neg c, if_pos c2] at hnext
            exact f105 _ hnext _
        · rw [if_neg c, if_neg c2] at hnext
          exact f105 _ hnext _
    simp only [w_X10_agreeUpTo_0, tAload, tIload, nth, tGetI, tGetR, tConst, tLconst, tBin, tUn, tI2l, tAld, tAldR, tAlen, tIast, tBast, tZast, tAast, tIret, tZret, tVret, tAret, tIf, tIf2, tGoto, tIstore, tAstore, sset, tIinc, tDup, tDup2, tPop, tPutI, tPutZ, tPutR, tCallV, tCallS, popN, tFn, tCopy, tMax, tMin, tSw, swc, tRem, tObjI, Option.toList, List.nil_append, List.cons_append, okR, true_and, and_true, true_or, or_true, Nat.zero_le, ne_eq, not_false_eq_true, Nat.reduceEqDiff, x1]
    have e7 : μ (a + 130 + 8 * s) 7 = nI l := hSt.1.2.2.2.2.2.2.2.1.trans l1
    have e8 : μ (a + 130 + 8 * s) 8 = nI ag := hSt.1.2.2.2.2.2.2.2.2.1.trans a1
    rw [e7, e8, hmin, nI_s1]
    exact loop (to - ag) (ag + 1) A μ _ _ (by omega) (by omega) hR (fun _ _ _ => rfl) (fun _ _ _ _ => rfl) h
  · exact h.elim
