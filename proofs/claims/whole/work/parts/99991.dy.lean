/-! ===== the class: the tape is fed ===== -/
def ap4 (f : Rw) (z : Nat) (v : Int32) : Rw := up (up (up (up f z (v >>> ((24 : Int32) &&& 31) &&& 255)) (z + 1) (v >>> ((16 : Int32) &&& 31) &&& 255)) (z + 2) (v >>> ((8 : Int32) &&& 31) &&& 255)) (z + 3) (v >>> ((0 : Int32) &&& 31) &&& 255)
def TpS (S : Sh) (ρ : Mr) : Prop := S.2 856 = (9, 7) ∧ S.2 857 = (20, 300) ∧ S.2 858 = (20, 3) ∧ ρ 856 0 = 857 ∧ ρ 856 1 = 858
def apM (μ : Mi) (z : Nat) (v : Int32) : Mi := upI (upF μ 857 (ap4 (μ 857) z v)) 856 2 (nI (z + 4))
def w_X9_append_49 (M : CT) (G : Nat → PT) (Rp : RT) : PT := tVret Rp
def w_X9_append_3 (M : CT) (G : Nat → PT) (Rp : RT) : PT := tIload 2 <| tIf (fun x => x < 0) (w_X9_append_49 M G Rp) <| tAload 0 <| tGetI 9 7 2 <| tConst 300 <| tIf2 (fun x y => y ≤ x) (w_X9_append_49 M G Rp) <| tAload 0 <| tGetR 9 7 0 <| tAload 0 <| tGetI 9 7 2 <| tIload 1 <| tIload 2 <| tBin (fun x y => x >>> (y &&& 31)) <| tConst 255 <| tBin (fun x y => x &&& y) <| tIast <| tAload 0 <| tDup <| tGetI 9 7 2 <| tConst 1 <| tBin (fun x y => x + y) <| tPutI 9 7 2 <| tIinc 2 (-8) <| tGoto (G 3)
def w_X9_append_0 (M : CT) (G : Nat → PT) (Rp : RT) : PT := tConst 24 <| tIstore 2 <| G 3
set_option maxRecDepth 20000 in
theorem b_X9_append_49 {Z : Zt} {d : Nat} {p : Program} {e : Env} {R : Room} {s : State} {m : MethodId} {args : Array Value} {below : List Frame} {meth : Method} {c : Code} {Rp : RT} (C : Cx Z d jX9_append RX9 p R s m args meth c) : Sd Z jX9_append p e R s m args below meth c (MQ below (QcS Z Rp) args s 0 0 (fun a => Z.2.2.1 < a)) 49 (w_X9_append_49 (MS Z d) (Gw Z 3 p e R s m args below meth c (MQ below (QcS Z Rp) args s 0 0 (fun a => Z.2.2.1 < a))) Rp) := by
  unfold w_X9_append_49
  exact s_vret C rfl (by decide +kernel)
set_option maxRecDepth 20000 in
theorem b_X9_append_3 {Z : Zt} {d : Nat} {p : Program} {e : Env} {R : Room} {s : State} {m : MethodId} {args : Array Value} {below : List Frame} {meth : Method} {c : Code} {Rp : RT} (C : Cx Z d jX9_append RX9 p R s m args meth c) : Sd Z jX9_append p e R s m args below meth c (MQ below (QcS Z Rp) args s 0 0 (fun a => Z.2.2.1 < a)) 3 (w_X9_append_3 (MS Z d) (Gw Z 3 p e R s m args below meth c (MQ below (QcS Z Rp) args s 0 0 (fun a => Z.2.2.1 < a))) Rp) := by
  unfold w_X9_append_3
  refine s_iload_n (k := 2) C (by decide +kernel) ?_
  refine s_if_lt (off := 45) (tgt := 49) C (by decide +kernel) (by decide) (b_X9_append_49 C) ?_
  refine s_aload_n (k := 0) C (by decide +kernel) ?_
  refine s_getI C w_2_167 (by decide +kernel) rfl ?_
  refine s_sipush (n := 300) C (by decide +kernel) (by decide) ?_
  refine s_icmp_ge (off := 35) (tgt := 49) C (by decide +kernel) (by decide) (b_X9_append_49 C) ?_
  refine s_aload_n (k := 0) C (by decide +kernel) ?_
  refine s_getR C w_2_165 (by decide +kernel) rfl ?_
  refine s_aload_n (k := 0) C (by decide +kernel) ?_
  refine s_getI C w_2_167 (by decide +kernel) rfl ?_
  refine s_iload_n (k := 1) C (by decide +kernel) ?_
  refine s_iload_n (k := 2) C (by decide +kernel) ?_
  refine s_ishr C (by decide +kernel) ?_
  refine s_sipush (n := 255) C (by decide +kernel) (by decide) ?_
  refine s_iand C (by decide +kernel) ?_
  refine s_iast C (by decide +kernel) ?_
  refine s_aload_n (k := 0) C (by decide +kernel) ?_
  refine s_dup C (by decide +kernel) ?_
  refine s_getI C w_2_167 (by decide +kernel) rfl ?_
  refine s_iconst (n := 1) C (by decide +kernel) (by decide) ?_
  refine s_iadd C (by decide +kernel) ?_
  refine s_putI C w_2_167 (by decide +kernel) rfl (Or.inl rfl) ?_
  refine s_iinc (n := (-8)) C (by decide +kernel) (by decide) ?_
  exact s_goto (off := (-43)) (tgt := 3) C (by decide +kernel) (by decide) (fun _ _ _ _ _ _ h => h)
set_option maxRecDepth 20000 in
theorem b_X9_append_0 {Z : Zt} {d : Nat} {p : Program} {e : Env} {R : Room} {s : State} {m : MethodId} {args : Array Value} {below : List Frame} {meth : Method} {c : Code} {Rp : RT} (C : Cx Z d jX9_append RX9 p R s m args meth c) : Sd Z jX9_append p e R s m args below meth c (MQ below (QcS Z Rp) args s 0 0 (fun a => Z.2.2.1 < a)) 0 (w_X9_append_0 (MS Z d) (Gw Z 3 p e R s m args below meth c (MQ below (QcS Z Rp) args s 0 0 (fun a => Z.2.2.1 < a))) Rp) := by
  unfold w_X9_append_0
  refine s_bipush (n := 24) C (by decide +kernel) (by decide) ?_
  refine s_istore_n (k := 2) C (by decide +kernel) ?_
  exact (fun _ _ _ _ _ _ h => h)
theorem ms_X9_append {Z : Zt} {d : Nat} {S : Sh} {μ : Mi} {ρ : Mr} {Rp : RT} (a0 : Nat) (x1 : Int32) (h : ∀ G : Nat → PT, (∀ (L st : List Value) (S : Sh) (q : Nat × Nat) (μ : Mi) (ρ : Mr), w_X9_append_3 (MS Z d) G Rp L st S q μ ρ → G 3 L st S q μ ρ) → w_X9_append_0 (MS Z d) G Rp [.ref a0, .int x1, .null] [] S (0, 0) μ ρ) : MS Z (d + 1) jX9_append [.ref a0, .int x1] S μ ρ Rp :=
  MS_of [.ref a0, .int x1, .null] (by decide +kernel) rfl rfl (Nat.le_of_ble_eq_true rfl) rfl (fun p e R s m args below meth c C => b_X9_append_0 C _ _ _ _ _ _ (h _ (b_X9_append_3 C)))
def F_X9_append : FT := fun As S μ ρ k => match As with
  | [.ref a, .int v] => S.2 a = (9, 7) ∧ a = 856 ∧ TpS S ρ ∧ ∃ z : Nat, μ 856 2 = nI z ∧ z + 4 ≤ 300 ∧ k none (apM μ z v)
  | _ => False
theorem r_X9_append {As S μ ρ k} (h : F_X9_append As S μ ρ k) : ∃ a As', As = Value.ref a :: As' ∧ S.2 a = (9, 7) := by
  unfold F_X9_append at h
  split at h
  · exact ⟨_, _, rfl, h.1⟩
  · exact h.elim
set_option maxHeartbeats 1000000 in
theorem f_X9_append {Z : Zt} {d : Nat} {As : List Value} {S : Sh} {μ : Mi} {ρ : Mr} {Rp : RT} (h : F_X9_append As S μ ρ (fun r μ' => Rp r S μ' ρ)) : MS Z (d + 1) jX9_append As S μ ρ Rp := by
  unfold F_X9_append at h
  split at h
  · rename_i a v
    obtain ⟨h1, rfl, hT, z, ez, hz, h⟩ := h
    obtain ⟨-, t2, t3, t4, t5⟩ := hT
    refine ms_X9_append _ _ (fun G g3 => ?_)
    have step : ∀ (ν : Mi) (w : Nat) (sh : Int32), ν 856 2 = nI w → w < 300 → ¬ sh < 0 → G 3 [.ref 856, .int v, .int (sh + -8)] [] S (0, 0) (upI (upI ν 857 w (v >>> (sh &&& 31) &&& 255)) 856 2 (nI (w + 1))) ρ → G 3 [.ref 856, .int v, .int sh] [] S (0, 0) ν ρ := by
      intro ν w sh ew hw hs hG
      apply g3
      simp only [w_X9_append_3, tAload, tIload, nth, tGetI, tGetR, tConst, tLconst, tBin, tUn, tI2l, tAld, tAldR, tAlen, tIast, tBast, tZast, tAast, tIret, tZret, tVret, tAret, tIf, tIf2, tGoto, tIstore, tAstore, sset, tIinc, tDup, tDup2, tPop, tPutI, tPutZ, tPutR, tCallV, tCallS, popN, tFn, tCopy, tMax, tMin, tSw, swc, tRem, tObjI, Option.toList, List.nil_append, List.cons_append, okR, true_and, and_true, true_or, or_true, Nat.zero_le, ne_eq, not_false_eq_true, Nat.reduceEqDiff, h1, t2, t4, ew]
      rw [nI_clamp (by omega)]
      simp (disch := omega) only [upI_ne, ew, nI_s1]
      refine ⟨fun y => absurd y hs, fun _ => ⟨fun y => ?_, fun _ => ⟨inb_nI (by omega) (by decide), hG⟩⟩⟩
      rw [show (300 : Int32) = nI 300 from rfl, nI_leI (by decide) (by omega)] at y
      omega
    have fin : ∀ (ν : Mi), Rp none S ν ρ → G 3 [.ref 856, .int v, .int (-8)] [] S (0, 0) ν ρ := by
      intro ν hν
      apply g3
      simp only [w_X9_append_3, w_X9_append_49, tAload, tIload, nth, tGetI, tGetR, tConst, tLconst, tBin, tUn, tI2l, tAld, tAldR, tAlen, tIast, tBast, tZast, tAast, tIret, tZret, tVret, tAret, tIf, tIf2, tGoto, tIstore, tAstore, sset, tIinc, tDup, tDup2, tPop, tPutI, tPutZ, tPutR, tCallV, tCallS, popN, tFn, tCopy, tMax, tMin, tSw, swc, tRem, tObjI, Option.toList, List.nil_append, List.cons_append, okR, true_and, and_true, true_or, or_true, Nat.zero_le, ne_eq, not_false_eq_true, Nat.reduceEqDiff]
      exact ⟨fun _ => hν, fun y => absurd (by decide) y⟩
    simp only [w_X9_append_0, tAload, tIload, nth, tGetI, tGetR, tConst, tLconst, tBin, tUn, tI2l, tAld, tAldR, tAlen, tIast, tBast, tZast, tAast, tIret, tZret, tVret, tAret, tIf, tIf2, tGoto, tIstore, tAstore, sset, tIinc, tDup, tDup2, tPop, tPutI, tPutZ, tPutR, tCallV, tCallS, popN, tFn, tCopy, tMax, tMin, tSw, swc, tRem, tObjI, Option.toList, List.nil_append, List.cons_append, okR, true_and, and_true, true_or, or_true, Nat.zero_le, ne_eq, not_false_eq_true, Nat.reduceEqDiff]
    refine step μ z 24 ez (by omega) (by decide) ?_
    rw [show (24 : Int32) + -8 = 16 by decide]
    refine step _ (z + 1) 16 upI_at (by omega) (by decide) ?_
    rw [show (16 : Int32) + -8 = 8 by decide]
    refine step _ (z + 1 + 1) 8 upI_at (by omega) (by decide) ?_
    rw [show (8 : Int32) + -8 = 0 by decide]
    refine step _ (z + 1 + 1 + 1) 0 upI_at (by omega) (by decide) ?_
    rw [show (0 : Int32) + -8 = -8 by decide]
    refine fin _ ?_
    have e : upI (upI (upI (upI (upI (upI (upI (upI μ 857 z (v >>> ((24 : Int32) &&& 31) &&& 255)) 856 2 (nI (z + 1))) 857 (z + 1) (v >>> ((16 : Int32) &&& 31) &&& 255)) 856 2 (nI (z + 1 + 1))) 857 (z + 1 + 1) (v >>> ((8 : Int32) &&& 31) &&& 255)) 856 2 (nI (z + 1 + 1 + 1))) 857 (z + 1 + 1 + 1) (v >>> ((0 : Int32) &&& 31) &&& 255)) 856 2 (nI (z + 1 + 1 + 1 + 1)) = apM μ z v := by
      funext b i
      unfold apM ap4 upI upF up
      by_cases h8 : b = 856
      · subst h8
        by_cases hi : i = 2
        · simp [hi]
        · simp [hi]
      · by_cases h9 : b = 857
        · subst h9
          simp
        · simp [h8, h9]
    rw [e]
    exact h
  · exact h.elim
def fdM (μ : Mi) (z : Nat) (x y w u v : Int32) : Mi := apM (apM (apM (apM (apM μ z x) (z + 4) y) (z + 8) w) (z + 12) u) (z + 16) v
theorem apM_2 {μ : Mi} {z : Nat} {v : Int32} : apM μ z v 856 2 = nI (z + 4) := by unfold apM; rw [upI_at]
def w_X11_feed_19 (M : CT) (G : Nat → PT) (Rp : RT) : PT := tAload 0 <| tGetR 11 11 4 <| tIload 1 <| tFn 2 F_X9_append <| tAload 0 <| tGetR 11 11 4 <| tIload 2 <| tFn 2 F_X9_append <| tAload 0 <| tGetR 11 11 4 <| tIload 3 <| tFn 2 F_X9_append <| tAload 0 <| tGetR 11 11 4 <| tIload 4 <| tFn 2 F_X9_append <| tAload 0 <| tGetR 11 11 4 <| tIload 5 <| tFn 2 F_X9_append <| tAload 0 <| tGetR 11 11 4 <| tGetI 9 7 2 <| tIret Rp
def w_X11_feed_0 (M : CT) (G : Nat → PT) (Rp : RT) : PT := tAload 0 <| tGetR 11 11 4 <| tGetI 9 7 2 <| tConst 20 <| tBin (fun x y => x + y) <| tConst 300 <| tIf2 (fun x y => x ≤ y) (w_X11_feed_19 M G Rp) <| tConst (-4) <| tIret Rp
set_option maxRecDepth 20000 in
theorem b_X11_feed_19 {Z : Zt} {d : Nat} {p : Program} {e : Env} {R : Room} {s : State} {m : MethodId} {args : Array Value} {below : List Frame} {meth : Method} {c : Code} {Rp : RT} (C : Cx Z (d + 1) jX11_feed RX11 p R s m args meth c) : Sd Z jX11_feed p e R s m args below meth c (MQ below (QcS Z Rp) args s 0 0 (fun a => Z.2.2.1 < a)) 19 (w_X11_feed_19 (MS Z (d + 1)) (Gw Z 6 p e R s m args below meth c (MQ below (QcS Z Rp) args s 0 0 (fun a => Z.2.2.1 < a))) Rp) := by
  unfold w_X11_feed_19
  refine s_aload_n (k := 0) C (by decide +kernel) ?_
  refine s_getR C w_2_238 (by decide +kernel) rfl ?_
  refine s_iload_n (k := 1) C (by decide +kernel) ?_
  refine s_fnV C (j2 := jX9_append) (cl := 9) (nf := 7) rfl rfl (by decide +kernel) rfl w_4_167 w_4_168 w_4_169 w_1_11 w_4_170 (by decide +kernel) (fun _ _ _ _ _ h => f_X9_append h) (fun _ _ _ _ _ h => r_X9_append h) ?_
  refine s_aload_n (k := 0) C (by decide +kernel) ?_
  refine s_getR C w_2_238 (by decide +kernel) rfl ?_
  refine s_iload_n (k := 2) C (by decide +kernel) ?_
  refine s_fnV C (j2 := jX9_append) (cl := 9) (nf := 7) rfl rfl (by decide +kernel) rfl w_4_167 w_4_168 w_4_169 w_1_11 w_4_170 (by decide +kernel) (fun _ _ _ _ _ h => f_X9_append h) (fun _ _ _ _ _ h => r_X9_append h) ?_
  refine s_aload_n (k := 0) C (by decide +kernel) ?_
  refine s_getR C w_2_238 (by decide +kernel) rfl ?_
  refine s_iload_n (k := 3) C (by decide +kernel) ?_
  refine s_fnV C (j2 := jX9_append) (cl := 9) (nf := 7) rfl rfl (by decide +kernel) rfl w_4_167 w_4_168 w_4_169 w_1_11 w_4_170 (by decide +kernel) (fun _ _ _ _ _ h => f_X9_append h) (fun _ _ _ _ _ h => r_X9_append h) ?_
  refine s_aload_n (k := 0) C (by decide +kernel) ?_
  refine s_getR C w_2_238 (by decide +kernel) rfl ?_
  refine s_iload (k := 4) C (by decide +kernel) ?_
  refine s_fnV C (j2 := jX9_append) (cl := 9) (nf := 7) rfl rfl (by decide +kernel) rfl w_4_167 w_4_168 w_4_169 w_1_11 w_4_170 (by decide +kernel) (fun _ _ _ _ _ h => f_X9_append h) (fun _ _ _ _ _ h => r_X9_append h) ?_
  refine s_aload_n (k := 0) C (by decide +kernel) ?_
  refine s_getR C w_2_238 (by decide +kernel) rfl ?_
  refine s_iload (k := 5) C (by decide +kernel) ?_
  refine s_fnV C (j2 := jX9_append) (cl := 9) (nf := 7) rfl rfl (by decide +kernel) rfl w_4_167 w_4_168 w_4_169 w_1_11 w_4_170 (by decide +kernel) (fun _ _ _ _ _ h => f_X9_append h) (fun _ _ _ _ _ h => r_X9_append h) ?_
  refine s_aload_n (k := 0) C (by decide +kernel) ?_
  refine s_getR C w_2_238 (by decide +kernel) rfl ?_
  refine s_getI C w_2_168 (by decide +kernel) rfl ?_
  exact s_iret C rfl (by decide +kernel)
set_option maxRecDepth 20000 in
theorem b_X11_feed_0 {Z : Zt} {d : Nat} {p : Program} {e : Env} {R : Room} {s : State} {m : MethodId} {args : Array Value} {below : List Frame} {meth : Method} {c : Code} {Rp : RT} (C : Cx Z (d + 1) jX11_feed RX11 p R s m args meth c) : Sd Z jX11_feed p e R s m args below meth c (MQ below (QcS Z Rp) args s 0 0 (fun a => Z.2.2.1 < a)) 0 (w_X11_feed_0 (MS Z (d + 1)) (Gw Z 6 p e R s m args below meth c (MQ below (QcS Z Rp) args s 0 0 (fun a => Z.2.2.1 < a))) Rp) := by
  unfold w_X11_feed_0
  refine s_aload_n (k := 0) C (by decide +kernel) ?_
  refine s_getR C w_2_238 (by decide +kernel) rfl ?_
  refine s_getI C w_2_168 (by decide +kernel) rfl ?_
  refine s_bipush (n := 20) C (by decide +kernel) (by decide) ?_
  refine s_iadd C (by decide +kernel) ?_
  refine s_sipush (n := 300) C (by decide +kernel) (by decide) ?_
  refine s_icmp_le (off := 6) (tgt := 19) C (by decide +kernel) (by decide) (b_X11_feed_19 C) ?_
  refine s_bipush (n := (-4)) C (by decide +kernel) (by decide) ?_
  exact s_iret C rfl (by decide +kernel)
theorem ms_X11_feed {Z : Zt} {d : Nat} {S : Sh} {μ : Mi} {ρ : Mr} {Rp : RT} (a0 : Nat) (x1 : Int32) (x2 : Int32) (x3 : Int32) (x4 : Int32) (x5 : Int32) (h : ∀ G : Nat → PT, w_X11_feed_0 (MS Z (d + 1)) G Rp [.ref a0, .int x1, .int x2, .int x3, .int x4, .int x5] [] S (0, 0) μ ρ) : MS Z (d + 2) jX11_feed [.ref a0, .int x1, .int x2, .int x3, .int x4, .int x5] S μ ρ Rp :=
  MS_of [.ref a0, .int x1, .int x2, .int x3, .int x4, .int x5] (by decide +kernel) rfl rfl (Nat.le_of_ble_eq_true rfl) rfl (fun p e R s m args below meth c C => b_X11_feed_0 C _ _ _ _ _ _ (h _ ))
def F_X11_feed : FT := fun As S μ ρ k => match As with
  | [.ref a, .int x, .int y, .int w, .int u, .int v] => S.2 a = (11, 11) ∧ a = 1 ∧ ρ 1 4 = 856 ∧ TpS S ρ ∧ ∃ z : Nat, μ 856 2 = nI z ∧ z ≤ 300 ∧ (¬ z + 20 ≤ 300 → k (some (.int (-4))) μ) ∧ (z + 20 ≤ 300 → k (some (.int (nI (z + 20)))) (fdM μ z x y w u v))
  | _ => False
theorem r_X11_feed {As S μ ρ k} (h : F_X11_feed As S μ ρ k) : ∃ a As', As = Value.ref a :: As' ∧ S.2 a = (11, 11) := by
  unfold F_X11_feed at h
  split at h
  · exact ⟨_, _, rfl, h.1⟩
  · exact h.elim
set_option maxHeartbeats 1000000 in
theorem f_X11_feed {Z : Zt} {d : Nat} {As : List Value} {S : Sh} {μ : Mi} {ρ : Mr} {Rp : RT} (h : F_X11_feed As S μ ρ (fun r μ' => Rp r S μ' ρ)) : MS Z (d + 2) jX11_feed As S μ ρ Rp := by
  unfold F_X11_feed at h
  split at h
  · rename_i a x y w u v
    obtain ⟨h1, rfl, r4, hT, z, ez, hz, hn, hy⟩ := h
    have t1 := hT.1
    refine ms_X11_feed _ _ _ _ _ _ (fun G => ?_)
    have e20 : nI z + 20 = nI (z + 20) := by rw [show (20 : Int32) = nI 20 from rfl, nI_add]
    simp only [w_X11_feed_0, w_X11_feed_19, tAload, tIload, nth, tGetI, tGetR, tConst, tLconst, tBin, tUn, tI2l, tAld, tAldR, tAlen, tIast, tBast, tZast, tAast, tIret, tZret, tVret, tAret, tIf, tIf2, tGoto, tIstore, tAstore, sset, tIinc, tDup, tDup2, tPop, tPutI, tPutZ, tPutR, tCallV, tCallS, popN, tFn, tCopy, tMax, tMin, tSw, swc, tRem, tObjI, Option.toList, List.nil_append, List.cons_append, okR, true_and, and_true, true_or, or_true, Nat.zero_le, ne_eq, not_false_eq_true, Nat.reduceEqDiff, F_X9_append, h1, r4, t1, ez, e20]
    rw [show (300 : Int32) = nI 300 from rfl, nI_leI (by omega) (by decide)]
    refine ⟨fun c => ⟨hT, z, rfl, by omega, hT, z + 4, apM_2, by omega, hT, z + 8, apM_2, by omega, hT, z + 12, apM_2, by omega, hT, z + 16, apM_2, by omega, ?_⟩, fun c => hn c⟩
    rw [apM_2]
    exact hy c
  · exact h.elim
