/-! ===== the class: on paper ===== -/
theorem Gd_set {n : Nat} : ∀ {A : Rw}, Gd A → Gd (setF n A) := by
  induction n with
  | zero => intro A h; exact h
  | succ n ih =>
    intro A h
    rw [setF_st]
    split
    · rename_i c
      exact ih (Gd_step h (Sp.comes ((wait_pos (good_w (Gd_good h))).1.mp c)))
    · exact h
def w_X3_drain_31 (M : CT) (G : Nat → PT) (Rp : RT) : PT := tIload 1 <| tIret Rp
def w_X3_drain_2 (M : CT) (G : Nat → PT) (Rp : RT) : PT := tIload 1 <| tConst 300 <| tIf2 (fun x y => y ≤ x) (w_X3_drain_31 M G Rp) <| tAload 0 <| tGetR 10 6 1 <| tGetI 1 6 2 <| tIf (fun x => x ≤ 0) (w_X3_drain_31 M G Rp) <| tAload 0 <| tConst 0 <| tFn2 2 F_X10_takeIn <| tPop <| tIinc 1 1 <| tGoto (G 2)
def w_X3_drain_0 (M : CT) (G : Nat → PT) (Rp : RT) : PT := tConst 0 <| tIstore 1 <| G 2
set_option maxRecDepth 20000 in
theorem b_X3_drain_31 {Z : Zt} {d : Nat} {p : Program} {e : Env} {R : Room} {s : State} {m : MethodId} {args : Array Value} {below : List Frame} {meth : Method} {c : Code} {Rp : RT} (C : Cx Z (d + 5) jX3_drain RX3 p R s m args meth c) : Sd Z jX3_drain p e R s m args below meth c (MQ below (QcS Z Rp) args s 0 0 (fun a => Z.2.2.1 < a)) 31 (w_X3_drain_31 (MS Z (d + 5)) (Gw Z 2 p e R s m args below meth c (MQ below (QcS Z Rp) args s 0 0 (fun a => Z.2.2.1 < a))) Rp) := by
  unfold w_X3_drain_31
  refine s_iload_n (k := 1) C (by decide +kernel) ?_
  exact s_iret C rfl (by decide +kernel)
set_option maxRecDepth 20000 in
theorem b_X3_drain_2 {Z : Zt} {d : Nat} {p : Program} {e : Env} {R : Room} {s : State} {m : MethodId} {args : Array Value} {below : List Frame} {meth : Method} {c : Code} {Rp : RT} (C : Cx Z (d + 5) jX3_drain RX3 p R s m args meth c) : Sd Z jX3_drain p e R s m args below meth c (MQ below (QcS Z Rp) args s 0 0 (fun a => Z.2.2.1 < a)) 2 (w_X3_drain_2 (MS Z (d + 5)) (Gw Z 2 p e R s m args below meth c (MQ below (QcS Z Rp) args s 0 0 (fun a => Z.2.2.1 < a))) Rp) := by
  unfold w_X3_drain_2
  refine s_iload_n (k := 1) C (by decide +kernel) ?_
  refine s_sipush (n := 300) C (by decide +kernel) (by decide) ?_
  refine s_icmp_ge (off := 25) (tgt := 31) C (by decide +kernel) (by decide) (b_X3_drain_31 C) ?_
  refine s_aload_n (k := 0) C (by decide +kernel) ?_
  refine s_getR C w_2_118 (by decide +kernel) rfl ?_
  refine s_getI C w_1_124 (by decide +kernel) rfl ?_
  refine s_if_le (off := 15) (tgt := 31) C (by decide +kernel) (by decide) (b_X3_drain_31 C) ?_
  refine s_aload_n (k := 0) C (by decide +kernel) ?_
  refine s_iconst (n := 0) C (by decide +kernel) (by decide) ?_
  refine s_fnV2 C (j2 := jX10_takeIn) (cl := 10) (nf := 6) rfl rfl (by decide +kernel) rfl w_5_219 w_4_68 w_4_69 w_1_2 w_4_70 (by decide +kernel) (fun _ _ _ _ _ h => f_X10_takeIn h) (fun _ _ _ _ _ h => r_X10_takeIn h) ?_
  refine s_pop C (by decide +kernel) ?_
  refine s_iinc (n := 1) C (by decide +kernel) (by decide) ?_
  exact s_goto (off := (-26)) (tgt := 2) C (by decide +kernel) (by decide) (fun _ _ _ _ _ _ h => h)
set_option maxRecDepth 20000 in
theorem b_X3_drain_0 {Z : Zt} {d : Nat} {p : Program} {e : Env} {R : Room} {s : State} {m : MethodId} {args : Array Value} {below : List Frame} {meth : Method} {c : Code} {Rp : RT} (C : Cx Z (d + 5) jX3_drain RX3 p R s m args meth c) : Sd Z jX3_drain p e R s m args below meth c (MQ below (QcS Z Rp) args s 0 0 (fun a => Z.2.2.1 < a)) 0 (w_X3_drain_0 (MS Z (d + 5)) (Gw Z 2 p e R s m args below meth c (MQ below (QcS Z Rp) args s 0 0 (fun a => Z.2.2.1 < a))) Rp) := by
  unfold w_X3_drain_0
  refine s_iconst (n := 0) C (by decide +kernel) (by decide) ?_
  refine s_istore_n (k := 1) C (by decide +kernel) ?_
  exact (fun _ _ _ _ _ _ h => h)
theorem ms_X3_drain {Z : Zt} {d : Nat} {S : Sh} {μ : Mi} {ρ : Mr} {Rp : RT} (a1 : Nat) (h : ∀ G : Nat → PT, (∀ (L st : List Value) (S : Sh) (q : Nat × Nat) (μ : Mi) (ρ : Mr), w_X3_drain_2 (MS Z (d + 5)) G Rp L st S q μ ρ → G 2 L st S q μ ρ) → w_X3_drain_0 (MS Z (d + 5)) G Rp [.ref a1, .null] [] S (0, 0) μ ρ) : MS Z (d + 6) jX3_drain [.ref a1] S μ ρ Rp :=
  MS_of [.ref a1, .null] (by decide +kernel) rfl rfl (Nat.le_of_ble_eq_true rfl) rfl (fun p e R s m args below meth c C => b_X3_drain_0 C _ _ _ _ _ _ (h _ (b_X3_drain_2 C)))
def F_X3_drain : FT2 := fun As S μ ρ k => match As with
  | [.ref a] => S.2 a = (10, 6) ∧ ∃ A : Rw, RR A a S μ ρ ∧ Gd A ∧ ∀ (μ' : Mi) (ρ' : Mr), RR (setF 300 A) a S μ' ρ' → Ot a μ μ' → Orf a ρ ρ' → k (some (.int (nI (setN 300 A)))) μ' ρ'
  | _ => False
set_option maxHeartbeats 1000000 in
theorem f_X3_drain {Z : Zt} {d : Nat} {As : List Value} {S : Sh} {μ : Mi} {ρ : Mr} {Rp : RT} (h : F_X3_drain As S μ ρ (fun r μ' ρ' => Rp r S μ' ρ')) : MS Z (d + 6) jX3_drain As S μ ρ Rp := by
  unfold F_X3_drain at h
  split at h
  · rename_i a
    obtain ⟨a, hNa⟩ : ∃ n : Nat, n = a := ⟨a, rfl⟩
    subst hNa
    obtain ⟨h1, A, hR, hG, h⟩ := h
    refine ms_X3_drain _ (fun G g2 => ?_)
    have loop : ∀ (m k : Nat) (B : Rw) (ν : Mi) (ρ' : Mr), k + m = 300 → RR B a S ν ρ' → Gd B → Ot a μ ν → Orf a ρ ρ' → (∀ ν' ρ'', RR (setF m B) a S ν' ρ'' → Ot a μ ν' → Orf a ρ ρ'' → Rp (some (.int (nI (k + setN m B)))) S ν' ρ'') → G 2 [.ref a, .int (nI k)] [] S (0, 0) ν ρ' := by
      intro m
      induction m with
      | zero =>
        intro k B ν ρ' hk r hg o p hh
        obtain rfl : k = 300 := by omega
        apply g2
        simp only [w_X3_drain_2, w_X3_drain_31, tAload, tIload, nth, tGetI, tGetR, tConst, tLconst, tBin, tUn, tI2l, tAld, tAldR, tAlen, tIast, tBast, tZast, tAast, tIret, tZret, tVret, tAret, tIf, tIf2, tGoto, tIstore, tAstore, sset, tIinc, tDup, tDup2, tPop, tPutI, tPutZ, tPutR, tCallV, tCallS, popN, tFn, tCopy, tMax, tMin, tSw, swc, tRem, tObjI, Option.toList, List.nil_append, List.cons_append, okR, true_and, and_true, true_or, or_true, Nat.zero_le, ne_eq, not_false_eq_true, Nat.reduceEqDiff, tFn2]
        exact ⟨fun _ => hh ν ρ' r o p, fun z => absurd (by decide) z⟩
      | succ m ih =>
        intro k B ν ρ' hk r hg o p hh
        rw [setF_st, setN_st] at hh
        have hwp := wait_pos r.1.2.2.1.2.1.1
        have hW' := RR_W r
        have e2' : ν (a + 2) 2 = B 4510 := r.1.2.2.1.1.1
        apply g2
        simp only [w_X3_drain_2, w_X3_drain_31, tAload, tIload, nth, tGetI, tGetR, tConst, tLconst, tBin, tUn, tI2l, tAld, tAldR, tAlen, tIast, tBast, tZast, tAast, tIret, tZret, tVret, tAret, tIf, tIf2, tGoto, tIstore, tAstore, sset, tIinc, tDup, tDup2, tPop, tPutI, tPutZ, tPutR, tCallV, tCallS, popN, tFn, tCopy, tMax, tMin, tSw, swc, tRem, tObjI, Option.toList, List.nil_append, List.cons_append, okR, true_and, and_true, true_or, or_true, Nat.zero_le, ne_eq, not_false_eq_true, Nat.reduceEqDiff, tFn2, F_X10_takeIn, h1, hW'.2.2.2.2.1, hW'.2.1, e2', nI_s1]
        refine ⟨fun z => absurd z (by rw [show (300 : Int32) = nI 300 from rfl, nI_leI (by decide) (by omega)]; omega), fun _ => ⟨fun c4 => ?_, fun c4 => ?_⟩⟩
        · rw [if_neg (hwp.2.mp c4), if_neg (hwp.2.mp c4)] at hh
          exact hh ν ρ' r o p
        · have c5 : 0 < B 4510 := Classical.not_not.mp (fun z => c4 (hwp.2.mpr z))
          rw [if_pos c5, if_pos c5] at hh
          refine ⟨0, B, r, rfl, hwp.1.mp c5, hg, fun μ' ρ'' r' o' p' => ih (k + 1) _ μ' ρ'' (by omega) r' (Gd_step hg (Sp.comes (hwp.1.mp c5))) (ot_trans o o') (orf_trans p p') ?_⟩
          rw [show k + (setN m (qComes B 0) + 1) = k + 1 + setN m (qComes B 0) by omega] at hh
          exact hh
    simp only [w_X3_drain_0, tAload, tIload, nth, tGetI, tGetR, tConst, tLconst, tBin, tUn, tI2l, tAld, tAldR, tAlen, tIast, tBast, tZast, tAast, tIret, tZret, tVret, tAret, tIf, tIf2, tGoto, tIstore, tAstore, sset, tIinc, tDup, tDup2, tPop, tPutI, tPutZ, tPutR, tCallV, tCallS, popN, tFn, tCopy, tMax, tMin, tSw, swc, tRem, tObjI, Option.toList, List.nil_append, List.cons_append, okR, true_and, and_true, true_or, or_true, Nat.zero_le, ne_eq, not_false_eq_true, Nat.reduceEqDiff, tFn2]
    exact loop 300 0 A μ ρ (by omega) hR hG (fun _ _ => rfl) (fun _ _ => rfl) (by rw [Nat.zero_add]; exact h)
  · exact h.elim
/-- the paper at p: its sheet, its pages -/
def PapOK (p : Nat) (S : Sh) (ρ : Mr) : Prop := S.2 p = (3, 2) ∧ ρ p 0 = p + 1 ∧ ρ p 1 = p + 2 ∧ S.2 (p + 1) = (40, 3) ∧ (∀ i, i < 3 → ρ (p + 1) i = p + 172 + 170 * i) ∧ 1 ≤ p
def apP (p w : Nat) : Prop := p + 682 ≤ w ∨ w + 170 ≤ p
def Sht (p : Nat) (S : Sh) (μ : Mi) (ρ : Mr) : Prop := ∃ B : Rw, RR B (p + 2) S μ ρ
theorem Sht_I {p : Nat} {S : Sh} {μ : Mi} {ρ : Mr} (h : Sht p S μ ρ) : S.2 (p + 2) = (10, 6) ∧ WOK (p + 2) S ρ ∧ WI (p + 2) μ := by
  obtain ⟨B, hB⟩ := h
  exact ⟨hB.1.1.2.1.1, hB.1.1, fun s hs => (RR_st hB hs).1.1⟩
theorem RR_far {A : Rw} {w v : Nat} {S : Sh} {μ μ' : Mi} {ρ ρ' : Mr} (h : RR A w S μ ρ) (ha : apW v w) (ho : Ot v μ μ') (hr : Orf v ρ ρ') : RR A w S μ' ρ' := by
  unfold apW at ha
  obtain ⟨⟨h1, h2, h3, h4, h5⟩, h6⟩ := h
  have o : ∀ y, w ≤ y → y < w + 170 → μ' y = μ y := fun y y1 y2 => ho y (by omega)
  have r : ∀ y, w ≤ y → y < w + 170 → ρ' y = ρ y := fun y y1 y2 => hr y (by omega)
  obtain ⟨k0, k1, k2, k4, k5, k6, k7⟩ := h1
  have hb : ∀ i, i ≤ 60 → ∃ j, j ≤ 60 ∧ ρ (w + 3) i = w + 6 + 2 * j := k6
  refine ⟨⟨⟨k0, k1, fun i hi => ?_, fun s hs => ?_, ?_, fun i hi => ?_, fun i j hi hj e => ?_⟩, fun s hs => ?_, ⟨?_, h3.2.1, fun i hi => ?_⟩, ⟨fun p p1 p2 => ?_, fun t t1 t2 => ?_⟩, ?_⟩, Nx_keep h6 (fun _ _ _ _ => rfl) (fun s hs => ⟨o _ (by omega) (by omega), o _ (by omega) (by omega)⟩)⟩
  · rw [r _ (by omega) (by omega)]; exact k2 i hi
  · have := k4 s hs
    unfold StS at *
    rw [r (w + 130 + 8 * s) (by omega) (by omega), r (w + 130 + 8 * s + 5) (by omega) (by omega), r (w + 1) (by omega) (by omega)]
    exact this
  · rw [r w (by omega) (by omega), r (w + 2) (by omega) (by omega)]; exact k5
  · rw [r _ (by omega) (by omega)]; exact k6 i hi
  · rw [r _ (by omega) (by omega)] at e; exact k7 i j hi hj e
  · exact St_congr hs (h2 s hs) (fun _ _ _ => rfl) rfl (fun y y1 y2 => o y (by omega) (by omega))
  · rw [o _ (by omega) (by omega)]; exact h3.1
  · rw [r _ (by omega) (by omega)]
    obtain ⟨n, e1, e2, -, e3⟩ := rg_ex h3.2.1.1
    have hi' := hi
    rw [e1, nI_clamp e2] at hi'
    obtain ⟨j, j1, j2⟩ := hb i (by omega)
    exact MsR_congr (h3.2.2 i hi) (fun _ _ => rfl) rfl (o _ (by omega) (by omega)) (o _ (by omega) (by omega))
  · rw [o _ (by omega) (by omega)]; exact h4.1 p p1 p2
  · rw [o _ (by omega) (by omega)]; exact h4.2 t t1 t2
  · unfold Wd at *
    rw [o _ (by omega) (by omega)]; exact h5
theorem aT_pos {A : Rw} {s : Nat} (hs : s < 5) (c : canT A s) : aTimeout A (nI s) = (qAsks A s (514 * s + 1), qAsks A s) := by
  unfold aTimeout
  rw [nI_clamp (by omega), if_neg (not_not_intro (show rgd (nI s) 0 4 from (rg_nI (by omega)).mpr ⟨by omega, by omega⟩)), if_neg (not_not_intro c)]
def w_X3_factThen_0 (M : CT) (G : Nat → PT) (Rp : RT) : PT := tAload 0 <| tGetR 3 2 1 <| tAload 1 <| tFn 2 F_X10_copyFrom <| tAload 0 <| tGetR 3 2 1 <| tFn2 1 F_X3_drain <| tPop <| tAload 0 <| tGetR 3 2 1 <| tIload 2 <| tIload 3 <| tFn 3 F_X8_storeFact <| tIret Rp
set_option maxRecDepth 20000 in
theorem b_X3_factThen_0 {Z : Zt} {d : Nat} {p : Program} {e : Env} {R : Room} {s : State} {m : MethodId} {args : Array Value} {below : List Frame} {meth : Method} {c : Code} {Rp : RT} (C : Cx Z (d + 6) jX3_factThen RX3 p R s m args meth c) : Sd Z jX3_factThen p e R s m args below meth c (MQ below (QcS Z Rp) args s 0 0 (fun a => Z.2.2.1 < a)) 0 (w_X3_factThen_0 (MS Z (d + 6)) (Gw Z 4 p e R s m args below meth c (MQ below (QcS Z Rp) args s 0 0 (fun a => Z.2.2.1 < a))) Rp) := by
  unfold w_X3_factThen_0
  refine s_aload_n (k := 0) C (by decide +kernel) ?_
  refine s_getR C w_2_153 (by decide +kernel) rfl ?_
  refine s_aload_n (k := 1) C (by decide +kernel) ?_
  refine s_fnV C (j2 := jX10_copyFrom) (cl := 10) (nf := 6) rfl rfl (by decide +kernel) rfl w_5_215 w_3_37 w_3_38 w_1_2 w_3_39 (by decide +kernel) (fun _ _ _ _ _ h => f_X10_copyFrom h) (fun _ _ _ _ _ h => r_X10_copyFrom h) ?_
  refine s_aload_n (k := 0) C (by decide +kernel) ?_
  refine s_getR C w_2_153 (by decide +kernel) rfl ?_
  refine s_fnS2 C (j2 := jX3_drain) (by decide +kernel) rfl w_5_216 w_5_217 w_1_10 w_5_218 (by decide +kernel) (fun _ _ _ _ _ h => f_X3_drain h) ?_
  refine s_pop C (by decide +kernel) ?_
  refine s_aload_n (k := 0) C (by decide +kernel) ?_
  refine s_getR C w_2_153 (by decide +kernel) rfl ?_
  refine s_iload_n (k := 2) C (by decide +kernel) ?_
  refine s_iload_n (k := 3) C (by decide +kernel) ?_
  refine s_fnS C (j2 := jX8_storeFact) (by decide +kernel) rfl w_5_230 w_5_92 w_1_21 w_5_93 (by decide +kernel) (fun _ _ _ _ _ h => f_X8_storeFact h) ?_
  exact s_iret C rfl (by decide +kernel)
theorem ms_X3_factThen {Z : Zt} {d : Nat} {S : Sh} {μ : Mi} {ρ : Mr} {Rp : RT} (a0 : Nat) (a1 : Nat) (x2 : Int32) (x3 : Int32) (h : ∀ G : Nat → PT, w_X3_factThen_0 (MS Z (d + 6)) G Rp [.ref a0, .ref a1, .int x2, .int x3] [] S (0, 0) μ ρ) : MS Z (d + 7) jX3_factThen [.ref a0, .ref a1, .int x2, .int x3] S μ ρ Rp :=
  MS_of [.ref a0, .ref a1, .int x2, .int x3] (by decide +kernel) rfl rfl (Nat.le_of_ble_eq_true rfl) rfl (fun p e R s m args below meth c C => b_X3_factThen_0 C _ _ _ _ _ _ (h _ ))
def F_X3_factThen : FT2 := fun As S μ ρ k => match As with
  | [.ref p, .ref w, .int n, .int x] => S.2 p = (3, 2) ∧ S.2 w = (10, 6) ∧ PapOK p S ρ ∧ Sht p S μ ρ ∧ apP p w ∧ ∃ A : Rw, RR A w S μ ρ ∧ Gd A ∧ ∀ (μ' : Mi) (ρ' : Mr), Sht p S μ' ρ' → Ot (p + 2) μ μ' → Orf (p + 2) ρ ρ' → k (some (.int (vThen A n x))) μ' ρ'
  | _ => False
theorem r_X3_factThen {As S μ ρ k} (h : F_X3_factThen As S μ ρ k) : ∃ a As', As = Value.ref a :: As' ∧ S.2 a = (3, 2) := by
  unfold F_X3_factThen at h
  split at h
  · exact ⟨_, _, rfl, h.1⟩
  · exact h.elim
set_option maxHeartbeats 1000000 in
theorem f_X3_factThen {Z : Zt} {d : Nat} {As : List Value} {S : Sh} {μ : Mi} {ρ : Mr} {Rp : RT} (h : F_X3_factThen As S μ ρ (fun r μ' ρ' => Rp r S μ' ρ')) : MS Z (d + 7) jX3_factThen As S μ ρ Rp := by
  unfold F_X3_factThen at h
  split at h
  · rename_i p w n x
    obtain ⟨p, hNp⟩ : ∃ n : Nat, n = p := ⟨p, rfl⟩
    subst hNp
    obtain ⟨w, hNw⟩ : ∃ n : Nat, n = w := ⟨w, rfl⟩
    subst hNw
    obtain ⟨h1, h2, hP, hS, hp, A, hR, hG, h⟩ := h
    unfold apP at hp
    obtain ⟨i1, i2, i3⟩ := Sht_I hS
    refine ms_X3_factThen _ _ _ _ (fun G => ?_)
    obtain ⟨-, r0, r1, sp, -, p1⟩ := hP
    have hap : apW (p + 2) w := by unfold apW; omega
    simp only [w_X3_factThen_0, tAload, tIload, nth, tGetI, tGetR, tConst, tLconst, tBin, tUn, tI2l, tAld, tAldR, tAlen, tIast, tBast, tZast, tAast, tIret, tZret, tVret, tAret, tIf, tIf2, tGoto, tIstore, tAstore, sset, tIinc, tDup, tDup2, tPop, tPutI, tPutZ, tPutR, tCallV, tCallS, popN, tFn, tCopy, tMax, tMin, tSw, swc, tRem, tObjI, Option.toList, List.nil_append, List.cons_append, okR, true_and, and_true, true_or, or_true, Nat.zero_le, ne_eq, not_false_eq_true, Nat.reduceEqDiff, tFn2, F_X10_copyFrom, F_X3_drain, F_X8_storeFact, h1, h2, r1, i1]
    refine ⟨i2, i3, hap, A, hR, fun μ1 q1 o1 => ⟨A, q1, hG, fun μ2 ρ2 q2 o2 f2 => ?_⟩⟩
    have e : ρ2 p = ρ p := f2 p (by omega)
    rw [e, r1]
    refine ⟨by omega, i1, _, q2, ?_⟩
    exact h μ2 ρ2 ⟨_, q2⟩ (ot_trans o1 o2) f2
  · exact h.elim
def w_X3_stormOf_42 (M : CT) (G : Nat → PT) (Rp : RT) : PT := tIret Rp
def w_X3_stormOf_24 (M : CT) (G : Nat → PT) (Rp : RT) : PT := tAload 0 <| tGetR 3 2 1 <| tGetR 10 6 1 <| tGetI 1 6 3 <| tAload 1 <| tGetR 10 6 1 <| tGetI 1 6 3 <| tBin (fun x y => x - y) <| w_X3_stormOf_42 M G Rp
def w_X3_stormOf_0 (M : CT) (G : Nat → PT) (Rp : RT) : PT := tAload 0 <| tGetR 3 2 1 <| tAload 1 <| tFn 2 F_X10_copyFrom <| tAload 0 <| tGetR 3 2 1 <| tFn2 1 F_X3_drain <| tIstore 3 <| tIload 2 <| tIf (fun x => x ≠ 0) (w_X3_stormOf_24 M G Rp) <| tIload 3 <| tGoto (w_X3_stormOf_42 M G Rp)
set_option maxRecDepth 20000 in
theorem b_X3_stormOf_42 {Z : Zt} {d : Nat} {p : Program} {e : Env} {R : Room} {s : State} {m : MethodId} {args : Array Value} {below : List Frame} {meth : Method} {c : Code} {Rp : RT} (C : Cx Z (d + 6) jX3_stormOf RX3 p R s m args meth c) : Sd Z jX3_stormOf p e R s m args below meth c (MQ below (QcS Z Rp) args s 0 0 (fun a => Z.2.2.1 < a)) 42 (w_X3_stormOf_42 (MS Z (d + 6)) (Gw Z 4 p e R s m args below meth c (MQ below (QcS Z Rp) args s 0 0 (fun a => Z.2.2.1 < a))) Rp) := by
  unfold w_X3_stormOf_42
  exact s_iret C rfl (by decide +kernel)
set_option maxRecDepth 20000 in
theorem b_X3_stormOf_24 {Z : Zt} {d : Nat} {p : Program} {e : Env} {R : Room} {s : State} {m : MethodId} {args : Array Value} {below : List Frame} {meth : Method} {c : Code} {Rp : RT} (C : Cx Z (d + 6) jX3_stormOf RX3 p R s m args meth c) : Sd Z jX3_stormOf p e R s m args below meth c (MQ below (QcS Z Rp) args s 0 0 (fun a => Z.2.2.1 < a)) 24 (w_X3_stormOf_24 (MS Z (d + 6)) (Gw Z 4 p e R s m args below meth c (MQ below (QcS Z Rp) args s 0 0 (fun a => Z.2.2.1 < a))) Rp) := by
  unfold w_X3_stormOf_24
  refine s_aload_n (k := 0) C (by decide +kernel) ?_
  refine s_getR C w_2_153 (by decide +kernel) rfl ?_
  refine s_getR C w_2_118 (by decide +kernel) rfl ?_
  refine s_getI C w_1_129 (by decide +kernel) rfl ?_
  refine s_aload_n (k := 1) C (by decide +kernel) ?_
  refine s_getR C w_2_118 (by decide +kernel) rfl ?_
  refine s_getI C w_1_129 (by decide +kernel) rfl ?_
  refine s_isub C (by decide +kernel) ?_
  exact (b_X3_stormOf_42 C)
set_option maxRecDepth 20000 in
theorem b_X3_stormOf_0 {Z : Zt} {d : Nat} {p : Program} {e : Env} {R : Room} {s : State} {m : MethodId} {args : Array Value} {below : List Frame} {meth : Method} {c : Code} {Rp : RT} (C : Cx Z (d + 6) jX3_stormOf RX3 p R s m args meth c) : Sd Z jX3_stormOf p e R s m args below meth c (MQ below (QcS Z Rp) args s 0 0 (fun a => Z.2.2.1 < a)) 0 (w_X3_stormOf_0 (MS Z (d + 6)) (Gw Z 4 p e R s m args below meth c (MQ below (QcS Z Rp) args s 0 0 (fun a => Z.2.2.1 < a))) Rp) := by
  unfold w_X3_stormOf_0
  refine s_aload_n (k := 0) C (by decide +kernel) ?_
  refine s_getR C w_2_153 (by decide +kernel) rfl ?_
  refine s_aload_n (k := 1) C (by decide +kernel) ?_
  refine s_fnV C (j2 := jX10_copyFrom) (cl := 10) (nf := 6) rfl rfl (by decide +kernel) rfl w_5_215 w_3_37 w_3_38 w_1_2 w_3_39 (by decide +kernel) (fun _ _ _ _ _ h => f_X10_copyFrom h) (fun _ _ _ _ _ h => r_X10_copyFrom h) ?_
  refine s_aload_n (k := 0) C (by decide +kernel) ?_
  refine s_getR C w_2_153 (by decide +kernel) rfl ?_
  refine s_fnS2 C (j2 := jX3_drain) (by decide +kernel) rfl w_5_216 w_5_217 w_1_10 w_5_218 (by decide +kernel) (fun _ _ _ _ _ h => f_X3_drain h) ?_
  refine s_istore_n (k := 3) C (by decide +kernel) ?_
  refine s_iload_n (k := 2) C (by decide +kernel) ?_
  refine s_if_ne (off := 7) (tgt := 24) C (by decide +kernel) (by decide) (b_X3_stormOf_24 C) ?_
  refine s_iload_n (k := 3) C (by decide +kernel) ?_
  exact s_goto (off := 21) (tgt := 42) C (by decide +kernel) (by decide) (b_X3_stormOf_42 C)
theorem ms_X3_stormOf {Z : Zt} {d : Nat} {S : Sh} {μ : Mi} {ρ : Mr} {Rp : RT} (a0 : Nat) (a1 : Nat) (x2 : Int32) (h : ∀ G : Nat → PT, w_X3_stormOf_0 (MS Z (d + 6)) G Rp [.ref a0, .ref a1, .int x2, .null] [] S (0, 0) μ ρ) : MS Z (d + 7) jX3_stormOf [.ref a0, .ref a1, .int x2] S μ ρ Rp :=
  MS_of [.ref a0, .ref a1, .int x2, .null] (by decide +kernel) rfl rfl (Nat.le_of_ble_eq_true rfl) rfl (fun p e R s m args below meth c C => b_X3_stormOf_0 C _ _ _ _ _ _ (h _ ))
def F_X3_stormOf : FT2 := fun As S μ ρ k => match As with
  | [.ref p, .ref w, .int x] => S.2 p = (3, 2) ∧ S.2 w = (10, 6) ∧ PapOK p S ρ ∧ Sht p S μ ρ ∧ apP p w ∧ ∃ A : Rw, RR A w S μ ρ ∧ Gd A ∧ rgd x 0 1 ∧ ∀ (μ' : Mi) (ρ' : Mr), Sht p S μ' ρ' → Ot (p + 2) μ μ' → Orf (p + 2) ρ ρ' → k (some (.int (vStorm A x))) μ' ρ'
  | _ => False
theorem r_X3_stormOf {As S μ ρ k} (h : F_X3_stormOf As S μ ρ k) : ∃ a As', As = Value.ref a :: As' ∧ S.2 a = (3, 2) := by
  unfold F_X3_stormOf at h
  split at h
  · exact ⟨_, _, rfl, h.1⟩
  · exact h.elim
set_option maxHeartbeats 1000000 in
theorem f_X3_stormOf {Z : Zt} {d : Nat} {As : List Value} {S : Sh} {μ : Mi} {ρ : Mr} {Rp : RT} (h : F_X3_stormOf As S μ ρ (fun r μ' ρ' => Rp r S μ' ρ')) : MS Z (d + 7) jX3_stormOf As S μ ρ Rp := by
  unfold F_X3_stormOf at h
  split at h
  · rename_i p w x
    obtain ⟨p, hNp⟩ : ∃ n : Nat, n = p := ⟨p, rfl⟩
    subst hNp
    obtain ⟨w, hNw⟩ : ∃ n : Nat, n = w := ⟨w, rfl⟩
    subst hNw
    obtain ⟨h1, h2, hP, hS, hp, A, hR, hG, hx, h⟩ := h
    unfold apP at hp
    obtain ⟨i1, i2, i3⟩ := Sht_I hS
    refine ms_X3_stormOf _ _ _ (fun G => ?_)
    obtain ⟨-, r0, r1, sp, -, p1⟩ := hP
    have hap : apW (p + 2) w := by unfold apW; omega
    unfold vStorm at h
    rw [if_neg (not_not_intro hx)] at h
    simp only [w_X3_stormOf_0, w_X3_stormOf_42, w_X3_stormOf_24, tAload, tIload, nth, tGetI, tGetR, tConst, tLconst, tBin, tUn, tI2l, tAld, tAldR, tAlen, tIast, tBast, tZast, tAast, tIret, tZret, tVret, tAret, tIf, tIf2, tGoto, tIstore, tAstore, sset, tIinc, tDup, tDup2, tPop, tPutI, tPutZ, tPutR, tCallV, tCallS, popN, tFn, tCopy, tMax, tMin, tSw, swc, tRem, tObjI, Option.toList, List.nil_append, List.cons_append, okR, true_and, and_true, true_or, or_true, Nat.zero_le, ne_eq, not_false_eq_true, Nat.reduceEqDiff, tFn2, F_X10_copyFrom, F_X3_drain, h1, h2, r1, i1]
    refine ⟨i2, i3, hap, A, hR, fun μ1 q1 o1 => ⟨A, q1, hG, fun μ2 ρ2 q2 o2 f2 => ⟨fun c => ?_, fun c => ?_⟩⟩⟩
    · have e : ρ2 p = ρ p := f2 p (by omega)
      have hw := RR_far hR hap (ot_trans o1 o2) f2
      have hW2 := RR_W q2
      have hW3 := RR_W hw
      rw [e, r1, hW2.2.2.2.2.1.2.1, hW2.2.1.2.2.1, hW3.2.2.2.2.1.2.1, hW3.2.1.2.2.1, i1, q2.1.2.2.1.1.2.1, hw.1.2.2.1.1.2.1]
      refine ⟨by omega, rfl, by omega, rfl, by omega, rfl, ?_⟩
      have := h μ2 ρ2 ⟨_, q2⟩ (ot_trans o1 o2) f2
      rw [if_neg c] at this
      exact this
    · have := h μ2 ρ2 ⟨_, q2⟩ (ot_trans o1 o2) f2
      rw [if_pos (Classical.not_not.mp c)] at this
      exact this
  · exact h.elim
def w_X3_wouldWin_67 (M : CT) (G : Nat → PT) (Rp : RT) : PT := tIret Rp
def w_X3_wouldWin_66 (M : CT) (G : Nat → PT) (Rp : RT) : PT := tConst 0 <| w_X3_wouldWin_67 M G Rp
def w_X3_wouldWin_29 (M : CT) (G : Nat → PT) (Rp : RT) : PT := tAload 0 <| tGetR 3 2 1 <| tIload 2 <| tFn 2 F_X10_timesOut <| tPop <| tAload 0 <| tGetR 3 2 1 <| tFn2 1 F_X3_drain <| tPop <| tAload 0 <| tGetR 3 2 1 <| tGetR 10 6 0 <| tIload 2 <| tAldR 37 <| tGetI 7 18 4 <| tConst 2 <| tIf2 (fun x y => x ≠ y) (w_X3_wouldWin_66 M G Rp) <| tConst 1 <| tGoto (w_X3_wouldWin_67 M G Rp)
def w_X3_wouldWin_0 (M : CT) (G : Nat → PT) (Rp : RT) : PT := tAload 0 <| tGetR 3 2 1 <| tAload 1 <| tFn 2 F_X10_copyFrom <| tAload 0 <| tGetR 3 2 1 <| tFn2 1 F_X3_drain <| tPop <| tAload 0 <| tGetR 3 2 1 <| tIload 2 <| tFn 2 F_X10_canTimeOut <| tIf (fun x => x ≠ 0) (w_X3_wouldWin_29 M G Rp) <| tConst (-1) <| tIret Rp
set_option maxRecDepth 20000 in
theorem b_X3_wouldWin_67 {Z : Zt} {d : Nat} {p : Program} {e : Env} {R : Room} {s : State} {m : MethodId} {args : Array Value} {below : List Frame} {meth : Method} {c : Code} {Rp : RT} (C : Cx Z (d + 6) jX3_wouldWin RX3 p R s m args meth c) : Sd Z jX3_wouldWin p e R s m args below meth c (MQ below (QcS Z Rp) args s 0 0 (fun a => Z.2.2.1 < a)) 67 (w_X3_wouldWin_67 (MS Z (d + 6)) (Gw Z 3 p e R s m args below meth c (MQ below (QcS Z Rp) args s 0 0 (fun a => Z.2.2.1 < a))) Rp) := by
  unfold w_X3_wouldWin_67
  exact s_iret C rfl (by decide +kernel)
set_option maxRecDepth 20000 in
theorem b_X3_wouldWin_66 {Z : Zt} {d : Nat} {p : Program} {e : Env} {R : Room} {s : State} {m : MethodId} {args : Array Value} {below : List Frame} {meth : Method} {c : Code} {Rp : RT} (C : Cx Z (d + 6) jX3_wouldWin RX3 p R s m args meth c) : Sd Z jX3_wouldWin p e R s m args below meth c (MQ below (QcS Z Rp) args s 0 0 (fun a => Z.2.2.1 < a)) 66 (w_X3_wouldWin_66 (MS Z (d + 6)) (Gw Z 3 p e R s m args below meth c (MQ below (QcS Z Rp) args s 0 0 (fun a => Z.2.2.1 < a))) Rp) := by
  unfold w_X3_wouldWin_66
  refine s_iconst (n := 0) C (by decide +kernel) (by decide) ?_
  exact (b_X3_wouldWin_67 C)
set_option maxRecDepth 20000 in
theorem b_X3_wouldWin_29 {Z : Zt} {d : Nat} {p : Program} {e : Env} {R : Room} {s : State} {m : MethodId} {args : Array Value} {below : List Frame} {meth : Method} {c : Code} {Rp : RT} (C : Cx Z (d + 6) jX3_wouldWin RX3 p R s m args meth c) : Sd Z jX3_wouldWin p e R s m args below meth c (MQ below (QcS Z Rp) args s 0 0 (fun a => Z.2.2.1 < a)) 29 (w_X3_wouldWin_29 (MS Z (d + 6)) (Gw Z 3 p e R s m args below meth c (MQ below (QcS Z Rp) args s 0 0 (fun a => Z.2.2.1 < a))) Rp) := by
  unfold w_X3_wouldWin_29
  refine s_aload_n (k := 0) C (by decide +kernel) ?_
  refine s_getR C w_2_153 (by decide +kernel) rfl ?_
  refine s_iload_n (k := 2) C (by decide +kernel) ?_
  refine s_fnV C (j2 := jX10_timesOut) (cl := 10) (nf := 6) rfl rfl (by decide +kernel) rfl w_5_221 w_3_99 w_3_100 w_1_2 w_3_101 (by decide +kernel) (fun _ _ _ _ _ h => f_X10_timesOut h) (fun _ _ _ _ _ h => r_X10_timesOut h) ?_
  refine s_pop C (by decide +kernel) ?_
  refine s_aload_n (k := 0) C (by decide +kernel) ?_
  refine s_getR C w_2_153 (by decide +kernel) rfl ?_
  refine s_fnS2 C (j2 := jX3_drain) (by decide +kernel) rfl w_5_216 w_5_217 w_1_10 w_5_218 (by decide +kernel) (fun _ _ _ _ _ h => f_X3_drain h) ?_
  refine s_pop C (by decide +kernel) ?_
  refine s_aload_n (k := 0) C (by decide +kernel) ?_
  refine s_getR C w_2_153 (by decide +kernel) rfl ?_
  refine s_getR C w_2_115 (by decide +kernel) rfl ?_
  refine s_iload_n (k := 2) C (by decide +kernel) ?_
  refine s_aald C rfl (by decide +kernel) ?_
  refine s_getI C w_1_233 (by decide +kernel) rfl ?_
  refine s_iconst (n := 2) C (by decide +kernel) (by decide) ?_
  refine s_icmp_ne (off := 7) (tgt := 66) C (by decide +kernel) (by decide) (b_X3_wouldWin_66 C) ?_
  refine s_iconst (n := 1) C (by decide +kernel) (by decide) ?_
  exact s_goto (off := 4) (tgt := 67) C (by decide +kernel) (by decide) (b_X3_wouldWin_67 C)
set_option maxRecDepth 20000 in
theorem b_X3_wouldWin_0 {Z : Zt} {d : Nat} {p : Program} {e : Env} {R : Room} {s : State} {m : MethodId} {args : Array Value} {below : List Frame} {meth : Method} {c : Code} {Rp : RT} (C : Cx Z (d + 6) jX3_wouldWin RX3 p R s m args meth c) : Sd Z jX3_wouldWin p e R s m args below meth c (MQ below (QcS Z Rp) args s 0 0 (fun a => Z.2.2.1 < a)) 0 (w_X3_wouldWin_0 (MS Z (d + 6)) (Gw Z 3 p e R s m args below meth c (MQ below (QcS Z Rp) args s 0 0 (fun a => Z.2.2.1 < a))) Rp) := by
  unfold w_X3_wouldWin_0
  refine s_aload_n (k := 0) C (by decide +kernel) ?_
  refine s_getR C w_2_153 (by decide +kernel) rfl ?_
  refine s_aload_n (k := 1) C (by decide +kernel) ?_
  refine s_fnV C (j2 := jX10_copyFrom) (cl := 10) (nf := 6) rfl rfl (by decide +kernel) rfl w_5_215 w_3_37 w_3_38 w_1_2 w_3_39 (by decide +kernel) (fun _ _ _ _ _ h => f_X10_copyFrom h) (fun _ _ _ _ _ h => r_X10_copyFrom h) ?_
  refine s_aload_n (k := 0) C (by decide +kernel) ?_
  refine s_getR C w_2_153 (by decide +kernel) rfl ?_
  refine s_fnS2 C (j2 := jX3_drain) (by decide +kernel) rfl w_5_216 w_5_217 w_1_10 w_5_218 (by decide +kernel) (fun _ _ _ _ _ h => f_X3_drain h) ?_
  refine s_pop C (by decide +kernel) ?_
  refine s_aload_n (k := 0) C (by decide +kernel) ?_
  refine s_getR C w_2_153 (by decide +kernel) rfl ?_
  refine s_iload_n (k := 2) C (by decide +kernel) ?_
  refine s_fnV C (j2 := jX10_canTimeOut) (cl := 10) (nf := 6) rfl rfl (by decide +kernel) rfl w_5_220 w_3_106 w_3_107 w_1_2 w_3_108 (by decide +kernel) (fun _ _ _ _ _ h => f_X10_canTimeOut h) (fun _ _ _ _ _ h => r_X10_canTimeOut h) ?_
  refine s_if_ne (off := 5) (tgt := 29) C (by decide +kernel) (by decide) (b_X3_wouldWin_29 C) ?_
  refine s_iconst (n := (-1)) C (by decide +kernel) (by decide) ?_
  exact s_iret C rfl (by decide +kernel)
theorem ms_X3_wouldWin {Z : Zt} {d : Nat} {S : Sh} {μ : Mi} {ρ : Mr} {Rp : RT} (a0 : Nat) (a1 : Nat) (x2 : Int32) (h : ∀ G : Nat → PT, w_X3_wouldWin_0 (MS Z (d + 6)) G Rp [.ref a0, .ref a1, .int x2] [] S (0, 0) μ ρ) : MS Z (d + 7) jX3_wouldWin [.ref a0, .ref a1, .int x2] S μ ρ Rp :=
  MS_of [.ref a0, .ref a1, .int x2] (by decide +kernel) rfl rfl (Nat.le_of_ble_eq_true rfl) rfl (fun p e R s m args below meth c C => b_X3_wouldWin_0 C _ _ _ _ _ _ (h _ ))
def F_X3_wouldWin : FT2 := fun As S μ ρ k => match As with
  | [.ref p, .ref w, .int n] => S.2 p = (3, 2) ∧ S.2 w = (10, 6) ∧ PapOK p S ρ ∧ Sht p S μ ρ ∧ apP p w ∧ ∃ A : Rw, RR A w S μ ρ ∧ Gd A ∧ ∃ s : Nat, n = nI s ∧ s < 5 ∧ ∀ (μ' : Mi) (ρ' : Mr), Sht p S μ' ρ' → Ot (p + 2) μ μ' → Orf (p + 2) ρ ρ' → k (some (.int ((qWinsP A s).1))) μ' ρ'
  | _ => False
theorem r_X3_wouldWin {As S μ ρ k} (h : F_X3_wouldWin As S μ ρ k) : ∃ a As', As = Value.ref a :: As' ∧ S.2 a = (3, 2) := by
  unfold F_X3_wouldWin at h
  split at h
  · exact ⟨_, _, rfl, h.1⟩
  · exact h.elim
set_option maxHeartbeats 1000000 in
theorem f_X3_wouldWin {Z : Zt} {d : Nat} {As : List Value} {S : Sh} {μ : Mi} {ρ : Mr} {Rp : RT} (h : F_X3_wouldWin As S μ ρ (fun r μ' ρ' => Rp r S μ' ρ')) : MS Z (d + 7) jX3_wouldWin As S μ ρ Rp := by
  unfold F_X3_wouldWin at h
  split at h
  · rename_i p w n
    obtain ⟨p, hNp⟩ : ∃ n : Nat, n = p := ⟨p, rfl⟩
    subst hNp
    obtain ⟨w, hNw⟩ : ∃ n : Nat, n = w := ⟨w, rfl⟩
    subst hNw
    obtain ⟨h1, h2, hP, hS, hp, A, hR, hG, s, rfl, hs, h⟩ := h
    unfold apP at hp
    obtain ⟨i1, i2, i3⟩ := Sht_I hS
    refine ms_X3_wouldWin _ _ _ (fun G => ?_)
    obtain ⟨-, r0, r1, sp, -, p1⟩ := hP
    have hap : apW (p + 2) w := by unfold apW; omega
    have hG2 := Gd_set (n := 300) hG
    have hst := (good_cm (Gd_good hG2)).1 s hs
    unfold qWinsP at h
    simp only [w_X3_wouldWin_0, tAload, tIload, nth, tGetI, tGetR, tConst, tLconst, tBin, tUn, tI2l, tAld, tAldR, tAlen, tIast, tBast, tZast, tAast, tIret, tZret, tVret, tAret, tIf, tIf2, tGoto, tIstore, tAstore, sset, tIinc, tDup, tDup2, tPop, tPutI, tPutZ, tPutR, tCallV, tCallS, popN, tFn, tCopy, tMax, tMin, tSw, swc, tRem, tObjI, Option.toList, List.nil_append, List.cons_append, okR, true_and, and_true, true_or, or_true, Nat.zero_le, ne_eq, not_false_eq_true, Nat.reduceEqDiff, tFn2, F_X10_copyFrom, F_X3_drain, F_X10_canTimeOut, b2_z, h1, h2, r1, i1]
    refine ⟨i2, i3, hap, A, hR, fun μ1 q1 o1 => ⟨A, q1, hG, fun μ2 ρ2 q2 o2 f2 => ?_⟩⟩
    have e : ρ2 p = ρ p := f2 p (by omega)
    rw [e, r1]
    refine ⟨by omega, i1, s, _, q2, rfl, hs, hst.2.2.1, fun c => ?_, fun c => ?_⟩
    · have c' := Decidable.not_not.mp c
      have hA := aT_pos (A := setF 300 A) hs c'
      have hG3 : Gd (qAsks (setF 300 A) s) := Gd_step hG2 (Sp.asks hs (by rw [canT_eq]; exact c'))
      simp only [w_X3_wouldWin_29, w_X3_wouldWin_66, w_X3_wouldWin_67, tAload, tIload, nth, tGetI, tGetR, tConst, tLconst, tBin, tUn, tI2l, tAld, tAldR, tAlen, tIast, tBast, tZast, tAast, tIret, tZret, tVret, tAret, tIf, tIf2, tGoto, tIstore, tAstore, sset, tIinc, tDup, tDup2, tPop, tPutI, tPutZ, tPutR, tCallV, tCallS, popN, tFn, tCopy, tMax, tMin, tSw, swc, tRem, tObjI, Option.toList, List.nil_append, List.cons_append, okR, true_and, and_true, true_or, or_true, Nat.zero_le, ne_eq, not_false_eq_true, Nat.reduceEqDiff, tFn2, F_X10_timesOut, F_X3_drain, h1, i1, e, r1]
      refine ⟨_, q2, hG2, fun μ3 q3 o3 => ?_⟩
      rw [hA] at q3
      refine ⟨_, q3, hG3, fun μ4 ρ4 q4 o4 f4 => ?_⟩
      have e4 : ρ4 p = ρ p := by rw [f4 p (by omega)]; exact e
      have hW4 := RR_W q4
      obtain ⟨x1, x2, x3⟩ := W_st hW4 hs
      rw [e4, r1, i1, hW4.2.2.2.2.1.1, hW4.2.1.2.1, nI_clamp (by omega), x3, x1, (RR_st q4 hs).1.2.2.2.2.1]
      have := h μ4 ρ4 ⟨_, q4⟩ (ot_trans (ot_trans o1 o2) (ot_trans o3 o4)) (orf_trans f2 f4)
      rw [if_neg (not_not_intro c')] at this
      refine ⟨by omega, rfl, by omega, rfl, inb_nI hs (by decide), by omega, rfl, fun c2 => ?_, fun c2 => ?_⟩
      · simp only [if_neg c2] at this
        exact this
      · simp only [if_pos (Classical.not_not.mp c2)] at this
        exact this
    · have := h μ2 ρ2 ⟨_, q2⟩ (ot_trans o1 o2) f2
      rw [if_pos (fun z => c (not_not_intro z))] at this
      exact this
  · exact h.elim
