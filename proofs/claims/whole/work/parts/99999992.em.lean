/-! ===== the class: a script ===== -/
theorem Gd_a1 {A : Rw} {s : Int32} (h : Gd A) : Gd (aTimeout A s).2 := by
  unfold aTimeout
  split
  · exact h
  · rename_i c
    obtain ⟨s, rfl, hs0, -, hs⟩ := rg_ex (lo := 0) (hi := 4) (Classical.not_not.mp c)
    rw [nI_clamp hs0]
    split
    · exact h
    · rename_i c2; exact Gd_step h (Sp.asks (by omega) (Classical.not_not.mp c2))
theorem Gd_a2 {A : Rw} {s : Int32} (h : Gd A) : Gd (aBeat A s).2 := by
  unfold aBeat
  split
  · exact h
  · rename_i c
    obtain ⟨s, rfl, hs0, -, hs⟩ := rg_ex (lo := 0) (hi := 4) (Classical.not_not.mp c)
    rw [nI_clamp hs0]
    split
    · exact h
    · rename_i c2; exact Gd_step h (Sp.beat (by omega) (Classical.not_not.mp c2))
theorem Gd_a3 {A : Rw} {s kd x y : Int32} (h : Gd A) : Gd (aPropose A s kd x y).2 := by
  unfold aPropose
  split
  · exact h
  · rename_i c
    have c := Classical.not_not.mp c
    obtain ⟨s, rfl, hs0, -, hs⟩ := rg_ex (lo := 0) (hi := 4) c.1
    obtain ⟨kd, rfl, hk0, hk1, hk2⟩ := rg_ex (lo := 1) (hi := 2) c.2.1
    rw [nI_clamp hs0]
    split
    · exact h
    · rename_i c1
      split
      · exact h
      · rename_i c2
        split
        · exact h
        · rename_i c3
          refine Gd_step h (Sp.prop (by omega) (Classical.not_not.mp c2) (Classical.not_not.mp c3) ?_ c.2.2 (Classical.not_not.mp c1))
          have : kd = 1 ∨ kd = 2 := by omega
          rcases this with rfl | rfl
          · exact Or.inl rfl
          · exact Or.inr rfl
theorem Gd_a4 {A : Rw} {s x : Int32} (h : Gd A) : Gd (aRead A s x).2 := by
  unfold aRead
  split
  · exact h
  · rename_i c
    have c := Classical.not_not.mp c
    obtain ⟨s, rfl, hs0, -, hs⟩ := rg_ex (lo := 0) (hi := 4) c.1
    rw [nI_clamp hs0]
    split
    · exact h
    · rename_i c2; exact Gd_step h (Sp.read (by omega) (Classical.not_not.mp c2) c.2)
theorem Gd_a5 {A : Rw} {s x : Int32} (h : Gd A) : Gd (aHand A s x).2 := by
  unfold aHand
  split
  · exact h
  · rename_i c
    have c := Classical.not_not.mp c
    obtain ⟨s, rfl, hs0, -, hs⟩ := rg_ex (lo := 0) (hi := 4) c.1
    obtain ⟨x, rfl, hx0, -, hx⟩ := rg_ex (lo := 0) (hi := 4) c.2
    rw [nI_clamp hs0, nI_clamp hx0]
    split
    · exact h
    · rename_i c1
      split
      · exact h
      · rename_i c2; exact Gd_step h (Sp.hand (by omega) (by omega) (fun z => c1 (by rw [z])) (Classical.not_not.mp c2))
theorem Gd_a6 {A : Rw} {s x : Int32} (h : Gd A) : Gd (aChange A s x).2 := by
  unfold aChange
  split
  · exact h
  · rename_i c
    obtain ⟨s, rfl, hs0, -, hs⟩ := rg_ex (lo := 0) (hi := 4) (Classical.not_not.mp c)
    rw [nI_clamp hs0]
    split
    · exact h
    · rename_i c1
      split
      · exact h
      · rename_i c2
        split
        · exact h
        · rename_i c3; exact Gd_step h (Sp.change (by omega) (Classical.not_not.mp c2) (Classical.not_not.mp c3) (Classical.not_not.mp c1))
theorem Gd_a7 {A : Rw} {s : Int32} (h : Gd A) : Gd (aCompact A s).2 := by
  unfold aCompact
  split
  · exact h
  · rename_i c
    obtain ⟨s, rfl, hs0, -, hs⟩ := rg_ex (lo := 0) (hi := 4) (Classical.not_not.mp c)
    rw [nI_clamp hs0]
    split
    · exact h
    · rename_i c2; exact Gd_step h (Sp.compact (by omega) (Classical.not_not.mp c2))
theorem Gd_a8 {A : Rw} {s : Int32} (h : Gd A) : Gd (aStop A s).2 := by
  unfold aStop
  split
  · exact h
  · rename_i c
    obtain ⟨s, rfl, hs0, -, hs⟩ := rg_ex (lo := 0) (hi := 4) (Classical.not_not.mp c)
    rw [nI_clamp hs0]
    split
    · exact h
    · rename_i c2; exact Gd_step h (Sp.stop (by omega) (Classical.not_not.mp c2))
theorem Gd_a9 {A : Rw} {s : Int32} (h : Gd A) : Gd (aStart A s).2 := by
  unfold aStart
  split
  · exact h
  · rename_i c
    obtain ⟨s, rfl, hs0, -, hs⟩ := rg_ex (lo := 0) (hi := 4) (Classical.not_not.mp c)
    rw [nI_clamp hs0]
    split
    · exact h
    · rename_i c2; exact Gd_step h (Sp.start (by omega) c2)
theorem Gd_a10 {A : Rw} {a b hw : Int32} (h : Gd A) : Gd (aLink A a b hw).2 := by
  unfold aLink
  split
  · exact h
  · rename_i c
    have c := Classical.not_not.mp c
    split
    · exact h
    · rename_i c2; exact Gd_step h (Sp.link c.1 c.2 (Classical.not_not.mp c2).2)
theorem Gd_a11 {A : Rw} {i : Int32} (h : Gd A) : Gd (aCome A i).2 := by
  unfold aCome
  split
  · exact h
  · rename_i c
    obtain ⟨n, rfl, n0, n1, n2, n3⟩ := msg_ex (good_w (Gd_good h)) (Classical.not_not.mp c)
    rw [nI_clamp n0]
    exact Gd_step h (Sp.comes n2)
theorem Gd_a12 {A : Rw} {i : Int32} (h : Gd A) : Gd (aLose A i).2 := by
  unfold aLose
  split
  · exact h
  · rename_i c
    obtain ⟨n, rfl, n0, n1, n2, n3⟩ := msg_ex (good_w (Gd_good h)) (Classical.not_not.mp c)
    rw [nI_clamp n0]
    exact Gd_step h (Sp.lose n2)
theorem Gd_a13 {A : Rw} {i : Int32} (h : Gd A) : Gd (aTwice A i).2 := by
  unfold aTwice
  split
  · exact h
  · rename_i c
    split
    · exact h
    · rename_i c2
      obtain ⟨n, rfl, n0, n1, n2, n3⟩ := msg_ex (good_w (Gd_good h)) (Classical.not_not.mp c)
      rw [nI_clamp n0]
      exact Gd_step h (Sp.twice n2 c2)
theorem Gd_a14 {A : Rw} {n : Int32} (h : Gd A) : Gd (aSettle A n).2 := by
  unfold aSettle
  split
  · exact h
  · split
    · exact h
    · exact Gd_set h
theorem Gd_a15 {A : Rw} {v : Int32} (h : Gd A) : Gd (aCareful A v).2 := by
  unfold aCareful
  split
  · exact h
  · rename_i c; exact Gd_step h (Sp.careful (Classical.not_not.mp c))
theorem Gd_do {A : Rw} {w : Int32} {t : Rw} (h : Gd A) : Gd (aDo A w t).2 := by
  unfold aDo
  by_cases c0 : w = 0
  · rw [if_pos c0]; exact Gd_a1 h
  rw [if_neg c0]
  by_cases c1 : w = 1
  · rw [if_pos c1]; exact Gd_a2 h
  rw [if_neg c1]
  by_cases c2 : w = 2
  · rw [if_pos c2]; exact Gd_a3 h
  rw [if_neg c2]
  by_cases c3 : w = 3
  · rw [if_pos c3]; exact Gd_a3 h
  rw [if_neg c3]
  by_cases c4 : w = 4
  · rw [if_pos c4]; exact Gd_a4 h
  rw [if_neg c4]
  by_cases c5 : w = 5
  · rw [if_pos c5]; exact Gd_a5 h
  rw [if_neg c5]
  by_cases c6 : w = 6
  · rw [if_pos c6]; exact Gd_a6 h
  rw [if_neg c6]
  by_cases c7 : w = 7
  · rw [if_pos c7]; exact Gd_a7 h
  rw [if_neg c7]
  by_cases c8 : w = 8
  · rw [if_pos c8]; exact Gd_a8 h
  rw [if_neg c8]
  by_cases c9 : w = 9
  · rw [if_pos c9]; exact Gd_a9 h
  rw [if_neg c9]
  by_cases c10 : w = 10
  · rw [if_pos c10]; exact Gd_a10 h
  rw [if_neg c10]
  by_cases c11 : w = 11
  · rw [if_pos c11]; exact Gd_a10 h
  rw [if_neg c11]
  by_cases c12 : w = 12
  · rw [if_pos c12]; exact Gd_a11 h
  rw [if_neg c12]
  by_cases c13 : w = 13
  · rw [if_pos c13]; exact Gd_a12 h
  rw [if_neg c13]
  by_cases c14 : w = 14
  · rw [if_pos c14]; exact Gd_a13 h
  rw [if_neg c14]
  by_cases c15 : w = 15
  · rw [if_pos c15]; exact Gd_a14 h
  rw [if_neg c15]
  exact Gd_a15 h
def w_X11_script_205 (M : CT) (G : Nat → PT) (Rp : RT) : PT := tIret Rp
def w_X11_script_204 (M : CT) (G : Nat → PT) (Rp : RT) : PT := tConst 0 <| w_X11_script_205 M G Rp
def w_X11_script_192 (M : CT) (G : Nat → PT) (Rp : RT) : PT := tIload 2 <| tIf (fun x => x ≤ 0) (w_X11_script_204 M G Rp) <| tAload 0 <| tIload 2 <| tFn 2 F_X11_kept <| tGoto (w_X11_script_205 M G Rp)
def w_X11_script_189 (M : CT) (G : Nat → PT) (Rp : RT) : PT := tGoto (G 82)
def w_X11_script_186 (M : CT) (G : Nat → PT) (Rp : RT) : PT := tIinc 2 1 <| w_X11_script_189 M G Rp
def w_X11_script_82 (M : CT) (G : Nat → PT) (Rp : RT) : PT := tIload 2 <| tConst 400 <| tIf2 (fun x y => y ≤ x) (w_X11_script_192 M G Rp) <| tAload 0 <| tGetI 11 11 9 <| tIf (fun x => x ≠ 0) (w_X11_script_192 M G Rp) <| tAload 0 <| tGetR 11 11 5 <| tFn 1 F_X4_moveOn <| tIf (fun x => x = 0) (w_X11_script_192 M G Rp) <| tAload 0 <| tGetR 11 11 5 <| tGetI 4 10 9 <| tIstore 3 <| tAload 0 <| tGetR 11 11 0 <| tAload 0 <| tGetR 11 11 5 <| tGetR 4 10 0 <| tIload 3 <| tAld 20 <| tAload 0 <| tGetR 11 11 5 <| tGetR 4 10 2 <| tIload 3 <| tAld 20 <| tAload 0 <| tGetR 11 11 5 <| tGetR 4 10 3 <| tIload 3 <| tAld 20 <| tAload 0 <| tGetR 11 11 5 <| tGetR 4 10 4 <| tIload 3 <| tAld 20 <| tFn2 5 F_X10_act <| tIstore 4 <| tIload 4 <| tIf (fun x => 0 ≤ x) (w_X11_script_186 M G Rp) <| tAload 0 <| tIload 4 <| tPutI 11 11 9 <| tAload 0 <| tAload 0 <| tGetR 11 11 5 <| tGetR 4 10 1 <| tIload 3 <| tAld 20 <| tPutI 11 11 10 <| tGoto (w_X11_script_189 M G Rp)
def w_X11_script_59 (M : CT) (G : Nat → PT) (Rp : RT) : PT := tAload 0 <| tFn 1 F_X11_remember <| tAload 0 <| tConst 0 <| tPutI 11 11 9 <| tAload 0 <| tConst (-1) <| tPutI 11 11 10 <| tAload 0 <| tGetR 11 11 5 <| tFn 1 F_X4_rewind <| tConst 0 <| tIstore 2 <| G 82
def w_X11_script_18 (M : CT) (G : Nat → PT) (Rp : RT) : PT := tAload 0 <| tGetR 11 11 4 <| tIload 1 <| tAload 0 <| tGetR 11 11 5 <| tCallV M jX9_parse 9 7 2 <| tAload 0 <| tGetR 11 11 4 <| tConst 0 <| tPutI 9 7 2 <| tAload 0 <| tGetR 11 11 4 <| tGetI 9 7 3 <| tIf (fun x => x = 0) (w_X11_script_59 M G Rp) <| tConst (-30) <| tAload 0 <| tGetR 11 11 4 <| tGetI 9 7 3 <| tBin (fun x y => x - y) <| tIret Rp
def w_X11_script_15 (M : CT) (G : Nat → PT) (Rp : RT) : PT := tConst (-3) <| tIret Rp
def w_X11_script_0 (M : CT) (G : Nat → PT) (Rp : RT) : PT := tIload 1 <| tIf (fun x => x < 0) (w_X11_script_15 M G Rp) <| tIload 1 <| tAload 0 <| tGetR 11 11 4 <| tGetI 9 7 2 <| tIf2 (fun x y => x ≤ y) (w_X11_script_18 M G Rp) <| w_X11_script_15 M G Rp
set_option maxRecDepth 20000 in
theorem b_X11_script_205 {Z : Zt} {d : Nat} {p : Program} {e : Env} {R : Room} {s : State} {m : MethodId} {args : Array Value} {below : List Frame} {meth : Method} {c : Code} {Rp : RT} (C : Cx Z (d + 9) jX11_script RX11 p R s m args meth c) : Sd Z jX11_script p e R s m args below meth c (MQ below (QcS Z Rp) args s 0 0 (fun a => Z.2.2.1 < a)) 205 (w_X11_script_205 (MS Z (d + 9)) (Gw Z 5 p e R s m args below meth c (MQ below (QcS Z Rp) args s 0 0 (fun a => Z.2.2.1 < a))) Rp) := by
  unfold w_X11_script_205
  exact s_iret C rfl (by decide +kernel)
set_option maxRecDepth 20000 in
theorem b_X11_script_204 {Z : Zt} {d : Nat} {p : Program} {e : Env} {R : Room} {s : State} {m : MethodId} {args : Array Value} {below : List Frame} {meth : Method} {c : Code} {Rp : RT} (C : Cx Z (d + 9) jX11_script RX11 p R s m args meth c) : Sd Z jX11_script p e R s m args below meth c (MQ below (QcS Z Rp) args s 0 0 (fun a => Z.2.2.1 < a)) 204 (w_X11_script_204 (MS Z (d + 9)) (Gw Z 5 p e R s m args below meth c (MQ below (QcS Z Rp) args s 0 0 (fun a => Z.2.2.1 < a))) Rp) := by
  unfold w_X11_script_204
  refine s_iconst (n := 0) C (by decide +kernel) (by decide) ?_
  exact (b_X11_script_205 C)
set_option maxRecDepth 20000 in
theorem b_X11_script_192 {Z : Zt} {d : Nat} {p : Program} {e : Env} {R : Room} {s : State} {m : MethodId} {args : Array Value} {below : List Frame} {meth : Method} {c : Code} {Rp : RT} (C : Cx Z (d + 9) jX11_script RX11 p R s m args meth c) : Sd Z jX11_script p e R s m args below meth c (MQ below (QcS Z Rp) args s 0 0 (fun a => Z.2.2.1 < a)) 192 (w_X11_script_192 (MS Z (d + 9)) (Gw Z 5 p e R s m args below meth c (MQ below (QcS Z Rp) args s 0 0 (fun a => Z.2.2.1 < a))) Rp) := by
  unfold w_X11_script_192
  refine s_iload_n (k := 2) C (by decide +kernel) ?_
  refine s_if_le (off := 11) (tgt := 204) C (by decide +kernel) (by decide) (b_X11_script_204 C) ?_
  refine s_aload_n (k := 0) C (by decide +kernel) ?_
  refine s_iload_n (k := 2) C (by decide +kernel) ?_
  refine s_fnV C (j2 := jX11_kept) (cl := 11) (nf := 11) rfl rfl (by decide +kernel) rfl w_3_79 w_3_81 w_p1_2 w_1_1 w_3_82 (by decide +kernel) (fun _ _ _ _ _ h => f_X11_kept h) (fun _ _ _ _ _ h => r_X11_kept h) ?_
  exact s_goto (off := 4) (tgt := 205) C (by decide +kernel) (by decide) (b_X11_script_205 C)
set_option maxRecDepth 20000 in
theorem b_X11_script_189 {Z : Zt} {d : Nat} {p : Program} {e : Env} {R : Room} {s : State} {m : MethodId} {args : Array Value} {below : List Frame} {meth : Method} {c : Code} {Rp : RT} (C : Cx Z (d + 9) jX11_script RX11 p R s m args meth c) : Sd Z jX11_script p e R s m args below meth c (MQ below (QcS Z Rp) args s 0 0 (fun a => Z.2.2.1 < a)) 189 (w_X11_script_189 (MS Z (d + 9)) (Gw Z 5 p e R s m args below meth c (MQ below (QcS Z Rp) args s 0 0 (fun a => Z.2.2.1 < a))) Rp) := by
  unfold w_X11_script_189
  exact s_goto (off := (-107)) (tgt := 82) C (by decide +kernel) (by decide) (fun _ _ _ _ _ _ h => h)
set_option maxRecDepth 20000 in
theorem b_X11_script_186 {Z : Zt} {d : Nat} {p : Program} {e : Env} {R : Room} {s : State} {m : MethodId} {args : Array Value} {below : List Frame} {meth : Method} {c : Code} {Rp : RT} (C : Cx Z (d + 9) jX11_script RX11 p R s m args meth c) : Sd Z jX11_script p e R s m args below meth c (MQ below (QcS Z Rp) args s 0 0 (fun a => Z.2.2.1 < a)) 186 (w_X11_script_186 (MS Z (d + 9)) (Gw Z 5 p e R s m args below meth c (MQ below (QcS Z Rp) args s 0 0 (fun a => Z.2.2.1 < a))) Rp) := by
  unfold w_X11_script_186
  refine s_iinc (n := 1) C (by decide +kernel) (by decide) ?_
  exact (b_X11_script_189 C)
set_option maxRecDepth 20000 in
theorem b_X11_script_82 {Z : Zt} {d : Nat} {p : Program} {e : Env} {R : Room} {s : State} {m : MethodId} {args : Array Value} {below : List Frame} {meth : Method} {c : Code} {Rp : RT} (C : Cx Z (d + 9) jX11_script RX11 p R s m args meth c) : Sd Z jX11_script p e R s m args below meth c (MQ below (QcS Z Rp) args s 0 0 (fun a => Z.2.2.1 < a)) 82 (w_X11_script_82 (MS Z (d + 9)) (Gw Z 5 p e R s m args below meth c (MQ below (QcS Z Rp) args s 0 0 (fun a => Z.2.2.1 < a))) Rp) := by
  unfold w_X11_script_82
  refine s_iload_n (k := 2) C (by decide +kernel) ?_
  refine s_sipush (n := 400) C (by decide +kernel) (by decide) ?_
  refine s_icmp_ge (off := 106) (tgt := 192) C (by decide +kernel) (by decide) (b_X11_script_192 C) ?_
  refine s_aload_n (k := 0) C (by decide +kernel) ?_
  refine s_getI C w_3_3 (by decide +kernel) rfl ?_
  refine s_if_ne (off := 99) (tgt := 192) C (by decide +kernel) (by decide) (b_X11_script_192 C) ?_
  refine s_aload_n (k := 0) C (by decide +kernel) ?_
  refine s_getR C w_2_239 (by decide +kernel) rfl ?_
  refine s_fnV C (j2 := jX4_moveOn) (cl := 4) (nf := 10) rfl rfl (by decide +kernel) rfl w_5_51 w_5_52 w_5_53 w_1_12 w_5_54 (by decide +kernel) (fun _ _ _ _ _ h => f_X4_moveOn h) (fun _ _ _ _ _ h => r_X4_moveOn h) ?_
  refine s_if_eq (off := 89) (tgt := 192) C (by decide +kernel) (by decide) (b_X11_script_192 C) ?_
  refine s_aload_n (k := 0) C (by decide +kernel) ?_
  refine s_getR C w_2_239 (by decide +kernel) rfl ?_
  refine s_getI C w_2_212 (by decide +kernel) rfl ?_
  refine s_istore_n (k := 3) C (by decide +kernel) ?_
  refine s_aload_n (k := 0) C (by decide +kernel) ?_
  refine s_getR C w_2_234 (by decide +kernel) rfl ?_
  refine s_aload_n (k := 0) C (by decide +kernel) ?_
  refine s_getR C w_2_239 (by decide +kernel) rfl ?_
  refine s_getR C w_2_197 (by decide +kernel) rfl ?_
  refine s_iload_n (k := 3) C (by decide +kernel) ?_
  refine s_iald C (by decide +kernel) ?_
  refine s_aload_n (k := 0) C (by decide +kernel) ?_
  refine s_getR C w_2_239 (by decide +kernel) rfl ?_
  refine s_getR C w_2_201 (by decide +kernel) rfl ?_
  refine s_iload_n (k := 3) C (by decide +kernel) ?_
  refine s_iald C (by decide +kernel) ?_
  refine s_aload_n (k := 0) C (by decide +kernel) ?_
  refine s_getR C w_2_239 (by decide +kernel) rfl ?_
  refine s_getR C w_2_203 (by decide +kernel) rfl ?_
  refine s_iload_n (k := 3) C (by decide +kernel) ?_
  refine s_iald C (by decide +kernel) ?_
  refine s_aload_n (k := 0) C (by decide +kernel) ?_
  refine s_getR C w_2_239 (by decide +kernel) rfl ?_
  refine s_getR C w_2_205 (by decide +kernel) rfl ?_
  refine s_iload_n (k := 3) C (by decide +kernel) ?_
  refine s_iald C (by decide +kernel) ?_
  refine s_fnV2 C (j2 := jX10_act) (cl := 10) (nf := 6) rfl rfl (by decide +kernel) rfl w_5_59 w_5_60 w_5_61 w_1_2 w_5_62 (by decide +kernel) (fun _ _ _ _ _ h => f_X10_act h) (fun _ _ _ _ _ h => r_X10_act h) ?_
  refine s_istore (k := 4) C (by decide +kernel) ?_
  refine s_iload (k := 4) C (by decide +kernel) ?_
  refine s_if_ge (off := 25) (tgt := 186) C (by decide +kernel) (by decide) (b_X11_script_186 C) ?_
  refine s_aload_n (k := 0) C (by decide +kernel) ?_
  refine s_iload (k := 4) C (by decide +kernel) ?_
  refine s_putI C w_3_3 (by decide +kernel) rfl (Or.inl rfl) ?_
  refine s_aload_n (k := 0) C (by decide +kernel) ?_
  refine s_aload_n (k := 0) C (by decide +kernel) ?_
  refine s_getR C w_2_239 (by decide +kernel) rfl ?_
  refine s_getR C w_2_199 (by decide +kernel) rfl ?_
  refine s_iload_n (k := 3) C (by decide +kernel) ?_
  refine s_iald C (by decide +kernel) ?_
  refine s_putI C w_3_4 (by decide +kernel) rfl (Or.inl rfl) ?_
  exact s_goto (off := 6) (tgt := 189) C (by decide +kernel) (by decide) (b_X11_script_189 C)
set_option maxRecDepth 20000 in
theorem b_X11_script_59 {Z : Zt} {d : Nat} {p : Program} {e : Env} {R : Room} {s : State} {m : MethodId} {args : Array Value} {below : List Frame} {meth : Method} {c : Code} {Rp : RT} (C : Cx Z (d + 9) jX11_script RX11 p R s m args meth c) : Sd Z jX11_script p e R s m args below meth c (MQ below (QcS Z Rp) args s 0 0 (fun a => Z.2.2.1 < a)) 59 (w_X11_script_59 (MS Z (d + 9)) (Gw Z 5 p e R s m args below meth c (MQ below (QcS Z Rp) args s 0 0 (fun a => Z.2.2.1 < a))) Rp) := by
  unfold w_X11_script_59
  refine s_aload_n (k := 0) C (by decide +kernel) ?_
  refine s_fnV C (j2 := jX11_remember) (cl := 11) (nf := 11) rfl rfl (by decide +kernel) rfl w_3_32 w_3_34 w_p1_1 w_1_1 w_3_35 (by decide +kernel) (fun _ _ _ _ _ h => f_X11_remember h) (fun _ _ _ _ _ h => r_X11_remember h) ?_
  refine s_aload_n (k := 0) C (by decide +kernel) ?_
  refine s_iconst (n := 0) C (by decide +kernel) (by decide) ?_
  refine s_putI C w_3_3 (by decide +kernel) rfl (Or.inl rfl) ?_
  refine s_aload_n (k := 0) C (by decide +kernel) ?_
  refine s_iconst (n := (-1)) C (by decide +kernel) (by decide) ?_
  refine s_putI C w_3_4 (by decide +kernel) rfl (Or.inl rfl) ?_
  refine s_aload_n (k := 0) C (by decide +kernel) ?_
  refine s_getR C w_2_239 (by decide +kernel) rfl ?_
  refine s_fnV C (j2 := jX4_rewind) (cl := 4) (nf := 10) rfl rfl (by decide +kernel) rfl w_5_47 w_5_48 w_5_49 w_1_12 w_5_50 (by decide +kernel) (fun _ _ _ _ _ h => f_X4_rewind h) (fun _ _ _ _ _ h => r_X4_rewind h) ?_
  refine s_iconst (n := 0) C (by decide +kernel) (by decide) ?_
  refine s_istore_n (k := 2) C (by decide +kernel) ?_
  exact (fun _ _ _ _ _ _ h => h)
set_option maxRecDepth 20000 in
theorem b_X11_script_18 {Z : Zt} {d : Nat} {p : Program} {e : Env} {R : Room} {s : State} {m : MethodId} {args : Array Value} {below : List Frame} {meth : Method} {c : Code} {Rp : RT} (C : Cx Z (d + 9) jX11_script RX11 p R s m args meth c) : Sd Z jX11_script p e R s m args below meth c (MQ below (QcS Z Rp) args s 0 0 (fun a => Z.2.2.1 < a)) 18 (w_X11_script_18 (MS Z (d + 9)) (Gw Z 5 p e R s m args below meth c (MQ below (QcS Z Rp) args s 0 0 (fun a => Z.2.2.1 < a))) Rp) := by
  unfold w_X11_script_18
  refine s_aload_n (k := 0) C (by decide +kernel) ?_
  refine s_getR C w_2_238 (by decide +kernel) rfl ?_
  refine s_iload_n (k := 1) C (by decide +kernel) ?_
  refine s_aload_n (k := 0) C (by decide +kernel) ?_
  refine s_getR C w_2_239 (by decide +kernel) rfl ?_
  refine s_callV C rfl rfl (by decide +kernel) rfl w_4_175 w_4_176 w_4_177 w_1_11 w_4_178 (by decide +kernel) ?_
  refine s_aload_n (k := 0) C (by decide +kernel) ?_
  refine s_getR C w_2_238 (by decide +kernel) rfl ?_
  refine s_iconst (n := 0) C (by decide +kernel) (by decide) ?_
  refine s_putI C w_2_168 (by decide +kernel) rfl (Or.inl rfl) ?_
  refine s_aload_n (k := 0) C (by decide +kernel) ?_
  refine s_getR C w_2_238 (by decide +kernel) rfl ?_
  refine s_getI C w_2_170 (by decide +kernel) rfl ?_
  refine s_if_eq (off := 14) (tgt := 59) C (by decide +kernel) (by decide) (b_X11_script_59 C) ?_
  refine s_bipush (n := (-30)) C (by decide +kernel) (by decide) ?_
  refine s_aload_n (k := 0) C (by decide +kernel) ?_
  refine s_getR C w_2_238 (by decide +kernel) rfl ?_
  refine s_getI C w_2_170 (by decide +kernel) rfl ?_
  refine s_isub C (by decide +kernel) ?_
  exact s_iret C rfl (by decide +kernel)
set_option maxRecDepth 20000 in
theorem b_X11_script_15 {Z : Zt} {d : Nat} {p : Program} {e : Env} {R : Room} {s : State} {m : MethodId} {args : Array Value} {below : List Frame} {meth : Method} {c : Code} {Rp : RT} (C : Cx Z (d + 9) jX11_script RX11 p R s m args meth c) : Sd Z jX11_script p e R s m args below meth c (MQ below (QcS Z Rp) args s 0 0 (fun a => Z.2.2.1 < a)) 15 (w_X11_script_15 (MS Z (d + 9)) (Gw Z 5 p e R s m args below meth c (MQ below (QcS Z Rp) args s 0 0 (fun a => Z.2.2.1 < a))) Rp) := by
  unfold w_X11_script_15
  refine s_bipush (n := (-3)) C (by decide +kernel) (by decide) ?_
  exact s_iret C rfl (by decide +kernel)
set_option maxRecDepth 20000 in
theorem b_X11_script_0 {Z : Zt} {d : Nat} {p : Program} {e : Env} {R : Room} {s : State} {m : MethodId} {args : Array Value} {below : List Frame} {meth : Method} {c : Code} {Rp : RT} (C : Cx Z (d + 9) jX11_script RX11 p R s m args meth c) : Sd Z jX11_script p e R s m args below meth c (MQ below (QcS Z Rp) args s 0 0 (fun a => Z.2.2.1 < a)) 0 (w_X11_script_0 (MS Z (d + 9)) (Gw Z 5 p e R s m args below meth c (MQ below (QcS Z Rp) args s 0 0 (fun a => Z.2.2.1 < a))) Rp) := by
  unfold w_X11_script_0
  refine s_iload_n (k := 1) C (by decide +kernel) ?_
  refine s_if_lt (off := 14) (tgt := 15) C (by decide +kernel) (by decide) (b_X11_script_15 C) ?_
  refine s_iload_n (k := 1) C (by decide +kernel) ?_
  refine s_aload_n (k := 0) C (by decide +kernel) ?_
  refine s_getR C w_2_238 (by decide +kernel) rfl ?_
  refine s_getI C w_2_168 (by decide +kernel) rfl ?_
  refine s_icmp_le (off := 6) (tgt := 18) C (by decide +kernel) (by decide) (b_X11_script_18 C) ?_
  exact (b_X11_script_15 C)
theorem ms_X11_script {Z : Zt} {d : Nat} {S : Sh} {μ : Mi} {ρ : Mr} {Rp : RT} (a0 : Nat) (x1 : Int32) (h : ∀ G : Nat → PT, (∀ (L st : List Value) (S : Sh) (q : Nat × Nat) (μ : Mi) (ρ : Mr), w_X11_script_82 (MS Z (d + 9)) G Rp L st S q μ ρ → G 82 L st S q μ ρ) → w_X11_script_0 (MS Z (d + 9)) G Rp [.ref a0, .int x1, .null, .null, .null] [] S (0, 0) μ ρ) : MS Z (d + 10) jX11_script [.ref a0, .int x1] S μ ρ Rp :=
  MS_of [.ref a0, .int x1, .null, .null, .null] (by decide +kernel) rfl rfl (Nat.le_of_ble_eq_true rfl) rfl (fun p e R s m args below meth c C => b_X11_script_0 C _ _ _ _ _ _ (h _ (b_X11_script_82 C)))
theorem TC_in {A : Rw} {u : Nat} {D : Nat → Rw} {S : Sh} {μ μ' : Mi} {ρ : Mr} (h : TC A u D S μ ρ) (o : ∀ y, (2 ≤ y ∧ y < 172) ∨ (176 ≤ y ∧ y < 856) ∨ (867 ≤ y ∧ y < 2737) → μ' y = μ y) (h6 : μ' 1 6 = μ 1 6) (h7 : μ' 1 7 = μ 1 7) : TC A u D S μ' ρ := by
  obtain ⟨h1, h2, sp, e6, hsp, e7, hu, hD⟩ := h
  exact ⟨TW_in h1 o, RR_in h2 (fun y y1 y2 => o y (by omega)), sp, h6.trans e6, hsp, h7.trans e7, hu, fun j hj => RR_in (hD j hj) (fun y y1 y2 => o y (by omega))⟩
/-- while a script is done -/
def ScR (S : Sh) (ν1 : Mi) (ρ : Mr) (e : Ec) (ν : Mi) (ρ' : Mr) : Prop := RR e.2.2.2.2 2 S ν ρ' ∧ (∀ y, y ≠ 1 → y ≠ 859 → y ≠ 866 → (y < 2 ∨ 172 ≤ y) → ν y = ν1 y) ∧ (∀ k, k ≠ 9 → k ≠ 10 → ν 1 k = ν1 1 k) ∧ ν 859 7 = ν1 859 7 ∧ (ν 1 9 = e.2.2.1 ∧ ν 1 10 = e.2.2.2.1) ∧ Orf 2 ρ ρ' ∧ ∃ dn, e.2.1 = nI dn ∧ dn ≤ 400
def ScT (tl : List Value) : Prop := ∃ a b : Value, tl = [a, b]
def ScH (G : Nat → PT) (m : Int32) (S : Sh) (ν1 : Mi) (ρ : Mr) (e : Ec) (i o : Nat) (L : Rw) : Prop := (∃ dn, e.2.1 = nI dn ∧ dn < 400) → e.2.2.1 = 0 → Gd e.2.2.2.2 → i ≤ 300 → o ≤ 3 → ∀ ν ρ' tl, ScT tl → ScR S ν1 ρ e ν ρ' → ν 859 9 + 1 = nI i → ν 859 8 = nI o → ν 866 = L → G 82 (.ref 1 :: .int m :: .int e.2.1 :: tl) [] S (0, 0) ν ρ'
def ScF (W : PT) (m : Int32) (S : Sh) (ν1 : Mi) (ρ : Mr) (e : Ec) : Prop := ∀ ν ρ' tl, ScT tl → ScR S ν1 ρ e ν ρ' → W (.ref 1 :: .int m :: .int e.2.1 :: tl) [] S (0, 0) ν ρ'
theorem ScR_mv {S : Sh} {ν1 ν : Mi} {ρ ρ' : Mr} {e : Ec} {v : Int32} {o : Nat} {L : Rw} (h : ScR S ν1 ρ e ν ρ') : ScR S ν1 ρ e (mvM ν v o L) ρ' := by
  obtain ⟨h1, h2, h3, h4, h5, h6⟩ := h
  have e1 : mvM ν v o L 1 = ν 1 := mvM_o (by omega) (by omega)
  exact ⟨RR_in h1 (fun y y1 y2 => mvM_o (by omega) (by omega)), fun y a b c d => by rw [mvM_o b c]; exact h2 y a b c d, fun k a b => by rw [e1]; exact h3 k a b, by rw [mvM_7 (by omega) (by omega)]; exact h4, by rw [e1]; exact h5, h6⟩
section Sc
variable {Z : Zt} {d : Nat} {S : Sh} {ν1 : Mi} {ρ : Mr} {Rp : RT} {m : Int32} {sz : Nat} {G : Nat → PT}
set_option maxHeartbeats 1000000 in
theorem sc_head (g : ∀ L st S q μ ρ, w_X11_script_82 (MS Z (d + 9)) G Rp L st S q μ ρ → G 82 L st S q μ ρ) (s1 : S.2 1 = (11, 11)) (r1 : ρ 1 0 = 2 ∧ ρ 1 5 = 859) (hP : PgS S ρ) (e7 : ν1 859 7 = nI sz) (hsz : sz ≤ 300) :
    ∀ e i o L, e.1 = 0 → KK (ν1 860) (ν1 861) (ν1 862) (ν1 863) (ν1 864) sz (ScH G m S ν1 ρ) (ScF (w_X11_script_192 (MS Z (d + 9)) G Rp) m S ν1 ρ) e 0 i o L → ScH G m S ν1 ρ e i o L := by
  intro e i o L he hK ⟨dn, ed, hdn⟩ e9 hG hi ho ν ρ' tl htl hR p9 p8 pL
  have hR0 := hR
  obtain ⟨h1, h2, h3, h4, h5, h6, h7⟩ := hR
  have hP' : PgS S ρ' := by
    unfold PgS at hP ⊢
    rw [h6 859 (by omega)]
    exact hP
  have rr : ρ' 1 0 = 2 ∧ ρ' 1 5 = 859 := by rw [h6 1 (by omega)]; exact r1
  obtain ⟨s0, ⟨s2, s3, s4, s5, s6, s7, s8⟩, q0, q1, q2, q3, q4, q5, q6⟩ := id hP'
  have c400 : ¬ (400 : Int32) ≤ nI dn := by rw [show (400 : Int32) = nI 400 from rfl, nI_leI (by decide) (by omega)]; omega
  have z9 : ν 1 9 = 0 := h5.1.trans e9
  have a0 : ν 860 = ν1 860 := h2 _ (by omega) (by omega) (by omega) (by omega)
  have a1 : ν 861 = ν1 861 := h2 _ (by omega) (by omega) (by omega) (by omega)
  have a2 : ν 862 = ν1 862 := h2 _ (by omega) (by omega) (by omega) (by omega)
  have a3 : ν 863 = ν1 863 := h2 _ (by omega) (by omega) (by omega) (by omega)
  have a4 : ν 864 = ν1 864 := h2 _ (by omega) (by omega) (by omega) (by omega)
  have i1 := (RR_W h1).2.1.1
  have b0 : ∀ v o' L', mvM ν v o' L' 860 = ν1 860 := fun v o' L' => (mvM_o (by omega) (by omega)).trans a0
  have b1 : ∀ v o' L', mvM ν v o' L' 861 = ν1 861 := fun v o' L' => (mvM_o (by omega) (by omega)).trans a1
  have b2 : ∀ v o' L', mvM ν v o' L' 862 = ν1 862 := fun v o' L' => (mvM_o (by omega) (by omega)).trans a2
  have b3 : ∀ v o' L', mvM ν v o' L' 863 = ν1 863 := fun v o' L' => (mvM_o (by omega) (by omega)).trans a3
  have b4 : ∀ v o' L', mvM ν v o' L' 864 = ν1 864 := fun v o' L' => (mvM_o (by omega) (by omega)).trans a4
  have aft : ∀ (pc' o' : Nat) (L' : Rw) (μ' : Mi) (ρ'' : Mr) (v : Int32) (B : Rw), acK (ν1 860) (ν1 861) (ν1 862) (ν1 863) (ν1 864) (ScH G m S ν1 ρ) (ScF (w_X11_script_192 (MS Z (d + 9)) G Rp) m S ν1 ρ) e pc' o' L' → aDo e.2.2.2.2 (ν1 860 pc') (t3 (ν1 862 pc') (ν1 863 pc') (ν1 864 pc')) = (v, B) → pc' < sz → o' ≤ 3 → RR B 2 S μ' ρ'' → Ot 2 (mvM ν (nI pc') o' L') μ' → Orf 2 ρ' ρ'' →
      (0 ≤ v → G 82 [.ref 1, .int m, .int (e.2.1 + 1), .int (nI pc'), .int v] [] S (0, 0) μ' ρ'') ∧ (¬ 0 ≤ v → G 82 [.ref 1, .int m, .int e.2.1, .int (nI pc'), .int v] [] S (0, 0) (upI (upI μ' 1 9 v) 1 10 (ν1 861 pc')) ρ'') := by
    intro pc' o' L' μ' ρ'' v B hac hv hpc ho' rB o2 f2
    have hGB : Gd B := by have := Gd_do (w := ν1 860 pc') (t := t3 (ν1 862 pc') (ν1 863 pc') (ν1 864 pc')) hG; rw [hv] at this; exact this
    unfold acK cAct at hac
    rw [hv] at hac
    dsimp only at hac
    have f3 : Orf 2 ρ ρ'' := fun y hy => (f2 y hy).trans (h6 y hy)
    have n1 : ∀ y, y ≠ 859 → y ≠ 866 → (y < 2 ∨ 172 ≤ y) → μ' y = ν y := fun y y1 y2 y3 => (o2 y y3).trans (mvM_o y1 y2)
    have n7 : μ' 859 7 = ν1 859 7 := by rw [o2 859 (by omega), mvM_7 (by omega) (by omega)]; exact h4
    have hr' : ρ'' 1 0 = 2 ∧ ρ'' 1 5 = 859 := by rw [f3 1 (by omega)]; exact r1
    refine ⟨fun c => ?_, fun c => ?_⟩
    · have c' : ¬ v < 0 := by rw [Int32.not_lt]; exact c
      rw [if_neg c'] at hac
      dsimp only at hac
      have nR : ScR S ν1 ρ (if ¬ e.2.1 + 1 = 400 then 0 else 1, e.2.1 + 1, e.2.2.1, e.2.2.2.1, B) μ' ρ'' := ⟨rB, fun y y1 y2 y3 y4 => (n1 y y2 y3 y4).trans (h2 y y1 y2 y3 y4), fun k k1 k2 => by rw [n1 1 (by omega) (by omega) (by omega)]; exact h3 k k1 k2, n7, by rw [n1 1 (by omega) (by omega) (by omega)]; exact h5, f3, dn + 1, by show e.2.1 + 1 = _; rw [ed, nI_s1], by omega⟩
      by_cases cd : e.2.1 + 1 = 400
      · rw [if_neg (not_not_intro cd)] at hac nR
        have hf := hac.1 (by decide) μ' ρ'' [.int (nI pc'), .int v] ⟨_, _, rfl⟩ nR
        apply g
        simp only [w_X11_script_82, tAload, tIload, nth, tGetI, tGetR, tConst, tLconst, tBin, tUn, tI2l, tAld, tAldR, tAlen, tIast, tBast, tZast, tAast, tIret, tZret, tVret, tAret, tIf, tIf2, tGoto, tIstore, tAstore, sset, tIinc, tDup, tDup2, tPop, tPutI, tPutZ, tPutR, tCallV, tCallS, popN, tFn, tCopy, tMax, tMin, tSw, swc, tRem, tObjI, Option.toList, List.nil_append, List.cons_append, okR, true_and, and_true, true_or, or_true, Nat.zero_le, ne_eq, not_false_eq_true, Nat.reduceEqDiff]
        exact ⟨fun _ => hf, fun q => absurd (by rw [cd]; decide) q⟩
      · rw [if_pos cd] at hac nR
        refine hac.2 rfl ⟨dn + 1, by show e.2.1 + 1 = _; rw [ed, nI_s1], ?_⟩ e9 hGB (by omega) ho' μ' ρ'' [.int (nI pc'), .int v] ⟨_, _, rfl⟩ nR ?_ ?_ ?_
        · apply Classical.byContradiction
          intro q
          have : dn + 1 = 400 := by omega
          exact cd (by rw [ed, nI_s1, this]; rfl)
        · rw [o2 859 (by omega), mvM_9, nI_s1]
        · rw [o2 859 (by omega), mvM_8]
        · rw [o2 866 (by omega), mvM_866]
    · have c' : v < 0 := by rw [← Int32.not_le]; exact c
      rw [if_pos c'] at hac
      dsimp only at hac
      have u1 : ∀ y, y ≠ 1 → upI (upI μ' 1 9 v) 1 10 (ν1 861 pc') y = μ' y := fun y hy => by rw [upI_ne hy, upI_ne hy]
      have u9 : upI (upI μ' 1 9 v) 1 10 (ν1 861 pc') 1 9 = v := by rw [upI_k (by omega), upI_at]
      have nR : ScR S ν1 ρ (1, e.2.1, v, ν1 861 pc', B) (upI (upI μ' 1 9 v) 1 10 (ν1 861 pc')) ρ'' := ⟨RR_in rB (fun y y1 y2 => u1 y (by omega)), fun y y1 y2 y3 y4 => by rw [u1 y y1]; exact (n1 y y2 y3 y4).trans (h2 y y1 y2 y3 y4), fun k k1 k2 => by rw [upI_k k2, upI_k k1, n1 1 (by omega) (by omega) (by omega)]; exact h3 k k1 k2, by rw [u1 859 (by omega)]; exact n7, ⟨u9, upI_at⟩, f3, dn, ed, by omega⟩
      have hf := hac.1 (by decide) _ ρ'' [.int (nI pc'), .int v] ⟨_, _, rfl⟩ nR
      apply g
      have vz : ¬ v = 0 := fun q => c (by rw [q]; decide)
      simp only [w_X11_script_82, tAload, tIload, nth, tGetI, tGetR, tConst, tLconst, tBin, tUn, tI2l, tAld, tAldR, tAlen, tIast, tBast, tZast, tAast, tIret, tZret, tVret, tAret, tIf, tIf2, tGoto, tIstore, tAstore, sset, tIinc, tDup, tDup2, tPop, tPutI, tPutZ, tPutR, tCallV, tCallS, popN, tFn, tCopy, tMax, tMin, tSw, swc, tRem, tObjI, Option.toList, List.nil_append, List.cons_append, okR, true_and, and_true, true_or, or_true, Nat.zero_le, ne_eq, not_false_eq_true, Nat.reduceEqDiff, s1, u9, ed] at hf ⊢
      exact ⟨fun q => absurd q c400, fun _ => ⟨fun _ => hf, fun q => absurd vz q⟩⟩
  unfold KK at hK
  obtain ⟨a, b, rfl⟩ := htl
  apply g
  simp only [w_X11_script_82, w_X11_script_186, w_X11_script_189, tAload, tIload, nth, tGetI, tGetR, tConst, tLconst, tBin, tUn, tI2l, tAld, tAldR, tAlen, tIast, tBast, tZast, tAast, tIret, tZret, tVret, tAret, tIf, tIf2, tGoto, tIstore, tAstore, sset, tIinc, tDup, tDup2, tPop, tPutI, tPutZ, tPutR, tCallV, tCallS, popN, tFn, tCopy, tMax, tMin, tSw, swc, tRem, tObjI, Option.toList, List.nil_append, List.cons_append, okR, true_and, and_true, true_or, or_true, Nat.zero_le, ne_eq, not_false_eq_true, Nat.reduceEqDiff, tFn2, F_X4_moveOn, F_X10_act, s1, rr, z9, s0, q0, q1, q2, q3, q4, s2, s3, s4, s5, s6, mvM_9, b0, b1, b2, b3, b4, a0, a2]
  refine ⟨fun q => absurd (by rw [← ed]; exact q) c400, fun _ => ⟨fun q => absurd trivial q, fun _ => ⟨hP', i, o, sz, p9, by omega, p8, ho, h4.trans e7, hsz, ?_⟩⟩⟩
  rw [pL]
  refine mvP_mono (fun pc' o' L' hac hpc ho' => ⟨fun q => absurd q (by decide), fun _ => ?_⟩) (fun hf v o' L' => ⟨fun _ => hf _ _ _ ⟨_, _, rfl⟩ (ScR_mv hR0), fun q => absurd trivial q⟩) 300 i o L hK
  have ib : inb (nI pc') 300 := inb_nI (by omega) (by decide)
  refine ⟨ib, ib, ib, ib, i1, e.2.2.2.2, t3 (ν1 862 pc') (ν1 863 pc') (ν1 864 pc'), (ScR_mv hR0).1, hG, by rw [nI_clamp (by omega)]; rfl, by rw [nI_clamp (by omega)]; rfl, by rw [nI_clamp (by omega)]; rfl, ?_⟩
  rw [nI_clamp (show pc' < 2 ^ 31 by omega)]
  intro μ' ρ'' rB o2 f2
  have f5 : ρ'' 1 5 = 859 := by rw [f2 1 (by omega)]; exact rr.2
  have f6 : ρ'' 859 1 = 861 := by rw [f2 859 (by omega)]; exact q1
  obtain ⟨w1, w2⟩ := aft pc' o' L' μ' ρ'' _ _ hac rfl hpc ho' rB o2 f2
  refine ⟨w1, fun c => ?_⟩
  have k1 : ∀ v, upI μ' 1 9 v 861 = ν1 861 := fun v => by rw [upI_ne (by omega), o2 861 (by omega), b1]
  rw [f5, f6, s3, k1]
  exact ⟨by decide, s0, by decide, rfl, ib, w2 c⟩
/-- at the end of a script -/
def ScZ (A : Rw) (u : Nat) (D : Nat → Rw) (S : Sh) (μ : Mi) (ρ : Mr) (e : Ec) (μ' : Mi) (ρ' : Mr) : Prop := ((e.2.1 = 0 → TC e.2.2.2.2 u D S μ' ρ') ∧ (¬ e.2.1 = 0 → TC e.2.2.2.2 (min (u + 1) 8) (pD A u D) S μ' ρ')) ∧ ((∀ y, 2397 ≤ y → μ' y = μ y) ∧ ∀ k, k ≠ 6 → k ≠ 7 → k ≠ 9 → k ≠ 10 → μ' 1 k = μ 1 k) ∧ (μ' 1 9 = e.2.2.1 ∧ μ' 1 10 = e.2.2.2.1) ∧ (μ' 856 2 = 0 ∧ μ' 856 3 = 0 ∧ μ' 856 4 = -1) ∧ KR ρ ρ'
theorem sc_fin {A : Rw} {u sp : Nat} {D : Nat → Rw} {μ μ1 : Mi} (s1 : S.2 1 = (11, 11)) (t1 : TW S μ1 ρ) (rS : RR A (867 + 170 * sp) S μ1 ρ) (d1 : PD sp u D S μ1 ρ) (e6 : μ1 1 6 = nI sp) (hsp : sp < 9) (e7 : μ1 1 7 = nI u) (hu : u ≤ 8) (n1 : ν1 = upI (upI (upI (upI μ1 1 9 0) 1 10 (-1)) 859 9 (-1)) 859 8 0)
    (k1 : ∀ y, 2397 ≤ y → μ1 y = μ y) (k2 : ∀ k, k ≠ 6 → k ≠ 7 → μ1 1 k = μ 1 k) (k3 : μ1 856 2 = 0 ∧ μ1 856 3 = 0 ∧ μ1 856 4 = -1) (e : Ec) (hR : ∀ μ' ρ', ScZ A u D S μ ρ e μ' ρ' → Rp (some (.int e.2.1)) S μ' ρ') :
    ScF (w_X11_script_192 (MS Z (d + 9)) G Rp) m S ν1 ρ e := by
  intro ν ρ' tl ⟨a, b, htl⟩ ⟨h1, h2, h3, h4, h5, h6, dn, ed, hdn⟩
  subst htl
  have m1 : ∀ y, y ≠ 1 → y ≠ 859 → ν1 y = μ1 y := fun y a b => by rw [n1, upI_ne b, upI_ne b, upI_ne a, upI_ne a]
  have m2 : ∀ k, k ≠ 9 → k ≠ 10 → ν1 1 k = μ1 1 k := fun k a b => by rw [n1, upI_ne (by omega), upI_ne (by omega), upI_k b, upI_k a]
  obtain ⟨μ2, hμ2⟩ : ∃ μ2 : Mi, μ2 = fun y => if 2 ≤ y ∧ y < 172 then μ1 y else ν y := ⟨_, rfl⟩
  have i1 : ∀ y, 2 ≤ y → y < 172 → μ2 y = μ1 y := fun y a b => by rw [hμ2]; exact if_pos ⟨a, b⟩
  have i2 : ∀ y, y < 2 ∨ 172 ≤ y → μ2 y = ν y := fun y a => by rw [hμ2]; exact if_neg (by omega)
  have i3 : ∀ y, (2 ≤ y ∧ y < 172) ∨ (176 ≤ y ∧ y < 856) ∨ (867 ≤ y ∧ y < 2737) → μ2 y = μ1 y := fun y hy => by
    by_cases c : 2 ≤ y ∧ y < 172
    · exact i1 y c.1 c.2
    · rw [i2 y (by omega), h2 y (by omega) (by omega) (by omega) (by omega)]
      exact m1 y (by omega) (by omega)
  have t2 := TW_in t1 i3
  have d2 : PD sp u D S μ2 ρ := fun j hj => RR_in (d1 j hj) (fun y y1 y2 => i3 y (by omega))
  have rS2 : RR A (867 + 170 * sp) S μ2 ρ := RR_in rS (fun y y1 y2 => i3 y (by omega))
  have o2 : Ot 2 μ2 ν := fun y hy => (i2 y hy).symm
  have q6 : ν 1 6 = nI sp := by rw [h3 6 (by omega) (by omega), m2 6 (by omega) (by omega)]; exact e6
  have q7 : ν 1 7 = nI u := by rw [h3 7 (by omega) (by omega), m2 7 (by omega) (by omega)]; exact e7
  have z : ∀ μ' : Mi, (∀ y, y ≠ 1 → μ' y = ν y) → (∀ k, k ≠ 6 → k ≠ 7 → μ' 1 k = ν 1 k) → ((∀ y, 2397 ≤ y → μ' y = μ y) ∧ ∀ k, k ≠ 6 → k ≠ 7 → k ≠ 9 → k ≠ 10 → μ' 1 k = μ 1 k) ∧ (μ' 1 9 = e.2.2.1 ∧ μ' 1 10 = e.2.2.2.1) ∧ (μ' 856 2 = 0 ∧ μ' 856 3 = 0 ∧ μ' 856 4 = -1) ∧ KR ρ ρ' := by
    intro μ' a1 a2
    refine ⟨⟨fun y hy => ?_, fun k b1 b2 b3 b4 => ?_⟩, ⟨by rw [a2 9 (by omega) (by omega)]; exact h5.1, by rw [a2 10 (by omega) (by omega)]; exact h5.2⟩, ?_, KR_2 h6⟩
    · rw [a1 y (by omega), h2 y (by omega) (by omega) (by omega) (by omega), m1 y (by omega) (by omega)]; exact k1 y hy
    · rw [a2 k b1 b2, h3 k b3 b4, m2 k b3 b4]; exact k2 k b1 b2
    · rw [a1 856 (by omega), h2 856 (by omega) (by omega) (by omega) (by omega), m1 856 (by omega) (by omega)]; exact k3
  simp only [w_X11_script_192, w_X11_script_204, w_X11_script_205, tAload, tIload, nth, tGetI, tGetR, tConst, tLconst, tBin, tUn, tI2l, tAld, tAldR, tAlen, tIast, tBast, tZast, tAast, tIret, tZret, tVret, tAret, tIf, tIf2, tGoto, tIstore, tAstore, sset, tIinc, tDup, tDup2, tPop, tPutI, tPutZ, tPutR, tCallV, tCallS, popN, tFn, tCopy, tMax, tMin, tSw, swc, tRem, tObjI, Option.toList, List.nil_append, List.cons_append, okR, true_and, and_true, true_or, or_true, Nat.zero_le, ne_eq, not_false_eq_true, Nat.reduceEqDiff, F_X11_kept, s1]
  refine ⟨fun c => ?_, fun c => ⟨sp, u, q6, hsp, q7, hu, fun q => ?_, fun q => ?_⟩⟩
  · have e0 : e.2.1 = 0 := by
      rw [ed, show (0 : Int32) = nI 0 from rfl, nI_leI (by omega) (by decide)] at c
      rw [ed, show dn = 0 by omega]; rfl
    have := hR ν ρ' ⟨⟨fun _ => TC_no t2 d2 (by rw [i2 1 (by omega)]; exact q6) hsp (by rw [i2 1 (by omega)]; exact q7) hu (fun _ _ => rfl) h1 o2 h6, fun q => absurd e0 q⟩, z ν (fun _ _ => rfl) (fun _ _ _ => rfl)⟩
    rw [e0] at this
    exact this
  · exfalso
    rw [ed, show (0 : Int32) = nI 0 from rfl, nI_ltI (by omega) (by decide)] at q
    omega
  · have e0 : ¬ e.2.1 = 0 := fun x => c (by rw [x]; decide)
    exact hR _ ρ' ⟨⟨fun x => absurd x e0, fun _ => TC_yes t2 rS2 d2 hsp hu h1 o2 h6⟩, z _ (fun y hy => by rw [upI_ne hy, upI_ne hy]) (fun k x1 x2 => by rw [upI_k x2, upI_k x1])⟩
end Sc
section Sd2
variable {Z : Zt} {d : Nat} {S : Sh} {μ : Mi} {ρ : Mr} {Rp : RT} {T : Rw} {m : Int32} {sz : Nat} {A tl : Rw} {u : Nat} {D : Nat → Rw}
set_option maxHeartbeats 1000000 in
theorem f_X11_script (hZ : ZX Z) (hP : PgS S ρ) (hS : TpS S ρ) (hT : TC A u D S μ ρ) (hG : Gd A) (hz : μ 856 2 = nI sz) (hsz : sz ≤ 300) (hb : ∀ i, i < sz → μ 857 i = T i &&& 255) (hby : byT T sz)
    (hno : ¬ (0 ≤ m.toInt ∧ m.toInt ≤ sz) → Rp (some (.int (-3))) S μ ρ)
    (hyes : ∀ n : Nat, m = nI n → n ≤ sz → ∀ B, cActs T n 3 0 ((0, 0, -1), μ 858) = B →
      (¬ (cWr n B).1 = 0 → ∀ μ' : Mi, TC A u D S μ' ρ → (∀ y, 2397 ≤ y → μ' y = μ y) → μ' 1 = μ 1 → μ' 856 2 = 0 → μ' 856 3 = (cWr n B).1 → μ' 856 4 = (cWr n B).2 → Rp (some (.int (-30 - (cWr n B).1))) S μ' ρ) ∧
      ((cWr n B).1 = 0 → ∀ Y, pActs T n 1 3 ((0, 0, -1), (0, 0, 0, -1, tl, A)) = Y → Y.1.2 = (0, -1) → ∀ μ' ρ', ScZ A u D S μ ρ (un Y.2) μ' ρ' → Rp (some (.int Y.2.2.1)) S μ' ρ')) :
    MS Z (d + 10) jX11_script [.ref 1, .int m] S μ ρ Rp := by
  have hT0 := hT.1
  have s1 := hT0.1
  obtain ⟨r0, r1, r2, r3, r4, r5⟩ := hT0.2.1
  obtain ⟨t1, t2, t3, t4, t5⟩ := id hS
  have hP0 := hP.1
  refine ms_X11_script _ _ (fun G g => ?_)
  have bad : ¬ (0 ≤ m.toInt ∧ m.toInt ≤ sz) → w_X11_script_15 (MS Z (d + 9)) G Rp [.ref 1, .int m, .null, .null, .null] [] S (0, 0) μ ρ := fun c => by
    simp only [w_X11_script_15, tAload, tIload, nth, tGetI, tGetR, tConst, tLconst, tBin, tUn, tI2l, tAld, tAldR, tAlen, tIast, tBast, tZast, tAast, tIret, tZret, tVret, tAret, tIf, tIf2, tGoto, tIstore, tAstore, sset, tIinc, tDup, tDup2, tPop, tPutI, tPutZ, tPutR, tCallV, tCallS, popN, tFn, tCopy, tMax, tMin, tSw, swc, tRem, tObjI, Option.toList, List.nil_append, List.cons_append, okR, true_and, and_true, true_or, or_true, Nat.zero_le, ne_eq, not_false_eq_true, Nat.reduceEqDiff]
    exact hno c
  simp only [w_X11_script_0, tAload, tIload, nth, tGetI, tGetR, tConst, tLconst, tBin, tUn, tI2l, tAld, tAldR, tAlen, tIast, tBast, tZast, tAast, tIret, tZret, tVret, tAret, tIf, tIf2, tGoto, tIstore, tAstore, sset, tIinc, tDup, tDup2, tPop, tPutI, tPutZ, tPutR, tCallV, tCallS, popN, tFn, tCopy, tMax, tMin, tSw, swc, tRem, tObjI, Option.toList, List.nil_append, List.cons_append, okR, true_and, and_true, true_or, or_true, Nat.zero_le, ne_eq, not_false_eq_true, Nat.reduceEqDiff, s1, r4, t1, hz]
  have nz : (nI sz).toInt = sz := nI_toInt (by omega)
  refine ⟨fun c => bad (fun q => ?_), fun c0 => ⟨fun c => ?_, fun c => bad (fun q => ?_)⟩⟩
  · have := Int32.lt_iff_toInt_lt.mp c
    rw [show (0 : Int32).toInt = 0 from rfl] at this
    omega
  · have c1 := Int32.le_iff_toInt_le.mp c
    rw [nz] at c1
    have c2 : ¬ m.toInt < 0 := fun q => c0 (Int32.lt_iff_toInt_lt.mpr q)
    obtain ⟨n, hm, hn0, -, hn1⟩ := rg_ex (x := m) (lo := 0) (hi := sz) ⟨by omega, c1⟩
    have hn : n ≤ sz := by omega
    obtain ⟨B, hB⟩ : ∃ B, cActs T n 3 0 ((0, 0, -1), μ 858) = B := ⟨_, rfl⟩
    obtain ⟨hbad, hok⟩ := hyes n hm hn B hB
    subst hm
    simp only [w_X11_script_18, tAload, tIload, nth, tGetI, tGetR, tConst, tLconst, tBin, tUn, tI2l, tAld, tAldR, tAlen, tIast, tBast, tZast, tAast, tIret, tZret, tVret, tAret, tIf, tIf2, tGoto, tIstore, tAstore, sset, tIinc, tDup, tDup2, tPop, tPutI, tPutZ, tPutR, tCallV, tCallS, popN, tFn, tCopy, tMax, tMin, tSw, swc, tRem, tObjI, Option.toList, List.nil_append, List.cons_append, okR, true_and, and_true, true_or, or_true, Nat.zero_le, ne_eq, not_false_eq_true, Nat.reduceEqDiff, s1, r4, r5, t1]
    refine f_X9_parse (d := d) hZ hP hS (by omega) (fun i hi => hb i (by omega)) (fun i hi => hby i (by omega)) hB (fun w0 ν' f e3 e4 => ?_) (fun w0 hw ν' f e3 e4 e7 hl hc => ?_)
    · have f1 : ν' 1 = μ 1 := f.1 1 (by omega) (by omega) (by omega)
      have k3 : upI ν' 856 2 0 856 3 = (cWr n B).1 := by rw [upI_k (by omega)]; exact e3
      simp only [tAload, tIload, nth, tGetI, tGetR, tConst, tLconst, tBin, tUn, tI2l, tAld, tAldR, tAlen, tIast, tBast, tZast, tAast, tIret, tZret, tVret, tAret, tIf, tIf2, tGoto, tIstore, tAstore, sset, tIinc, tDup, tDup2, tPop, tPutI, tPutZ, tPutR, tCallV, tCallS, popN, tFn, tCopy, tMax, tMin, tSw, swc, tRem, tObjI, Option.toList, List.nil_append, List.cons_append, okR, true_and, and_true, true_or, or_true, Nat.zero_le, ne_eq, not_false_eq_true, Nat.reduceEqDiff, s1, r4, t1, k3]
      refine ⟨fun q => absurd q w0, fun _ => hbad w0 _ (TC_in hT (fun y hy => ?_) ?_ ?_) (fun y hy => ?_) ?_ upI_at k3 ?_⟩
      · rw [upI_ne (by omega)]; exact f.1 y (by omega) (by omega) (by omega)
      · rw [upI_ne (by omega), f1]
      · rw [upI_ne (by omega), f1]
      · rw [upI_ne (by omega)]; exact f.1 y (by omega) (by omega) (by omega)
      · rw [upI_ne (by omega), f1]
      · rw [upI_k (by omega)]; exact e4
    · have f1 : ν' 1 = μ 1 := f.1 1 (by omega) (by omega) (by omega)
      obtain ⟨ν2, hν2⟩ : ∃ ν2, ν2 = upI ν' 856 2 0 := ⟨_, rfl⟩
      have n2 : ∀ y, y ≠ 856 → ν2 y = ν' y := fun y hy => by rw [hν2, upI_ne hy]
      have k2 : ν2 856 2 = 0 := by rw [hν2, upI_at]
      have k3 : ν2 856 3 = 0 := by rw [hν2, upI_k (by omega)]; exact e3
      have k4 : ν2 856 4 = -1 := by rw [hν2, upI_k (by omega)]; exact e4
      have tc2 : TC A u D S ν2 ρ := TC_in hT (fun y hy => by rw [n2 y (by omega)]; exact f.1 y (by omega) (by omega) (by omega)) (by rw [n2 1 (by omega), f1]) (by rw [n2 1 (by omega), f1])
      simp only [w_X11_script_59, tAload, tIload, nth, tGetI, tGetR, tConst, tLconst, tBin, tUn, tI2l, tAld, tAldR, tAlen, tIast, tBast, tZast, tAast, tIret, tZret, tVret, tAret, tIf, tIf2, tGoto, tIstore, tAstore, sset, tIinc, tDup, tDup2, tPop, tPutI, tPutZ, tPutR, tCallV, tCallS, popN, tFn, tCopy, tMax, tMin, tSw, swc, tRem, tObjI, Option.toList, List.nil_append, List.cons_append, okR, true_and, and_true, true_or, or_true, Nat.zero_le, ne_eq, not_false_eq_true, Nat.reduceEqDiff, F_X11_remember, F_X4_rewind, ← hν2, s1, r4, r5, t1, hP0, k3]
      refine ⟨fun _ => ⟨A, u, D, tc2, fun μ1 sp q1 rA rS d1 e6 hsp e7' hu o1 => ?_⟩, fun q => absurd trivial q⟩
      obtain ⟨ν1, hν1⟩ : ∃ ν1, ν1 = upI (upI (upI (upI μ1 1 9 0) 1 10 (-1)) 859 9 (-1)) 859 8 0 := ⟨_, rfl⟩
      rw [← hν1]
      have m1 : ∀ y, y ≠ 1 → y ≠ 859 → ν1 y = μ1 y := fun y a b => by rw [hν1, upI_ne b, upI_ne b, upI_ne a, upI_ne a]
      have o3 : ∀ y, y < 867 → ν1 y = μ1 y → ν1 y = ν2 y := fun y a b => by rw [b]; exact o1 y (by omega)
      have p7 : ν1 859 7 = nI B.2.length := by rw [hν1, upI_k (by omega), upI_k (by omega), upI_ne (by omega), upI_ne (by omega), o1 859 (by omega), n2 859 (by omega)]; exact e7
      have am : ∀ y, 860 ≤ y → y < 865 → ν1 y = ν' y := fun y a b => by rw [m1 y (by omega) (by omega), o1 y (by omega), n2 y (by omega)]
      have hc' : cdA ν1 B.2 0 := by
        unfold cdA at hc ⊢
        rw [am 860 (by omega) (by omega), am 861 (by omega) (by omega), am 862 (by omega) (by omega), am 863 (by omega) (by omega), am 864 (by omega) (by omega)]
        exact hc
      have hHd := sc_head (Z := Z) (d := d) (Rp := Rp) (m := nI n) (ν1 := ν1) (G := G) g s1 ⟨r0, r5⟩ hP p7 hl
      have hF := fun e hR => sc_fin (Z := Z) (d := d) (S := S) (ν1 := ν1) (ρ := ρ) (Rp := Rp) (m := nI n) (G := G) (A := A) (u := u) (sp := sp) (D := D) (μ := μ) (μ1 := μ1) s1 q1 rS d1 (by rw [o1 1 (by omega)]; exact e6) hsp (by rw [o1 1 (by omega)]; exact e7') hu hν1 (fun y hy => by rw [o1 y (by omega), n2 y (by omega)]; exact f.1 y (by omega) (by omega) (by omega)) (fun k _ _ => by rw [o1 1 (by omega), n2 1 (by omega), f1]) (by rw [o1 856 (by omega)]; exact ⟨k2, k3, k4⟩) e hR
      obtain ⟨Y, hY⟩ : ∃ Y, pActs T n 1 3 ((0, 0, -1), (0, 0, 0, -1, tl, A)) = Y := ⟨_, rfl⟩
      obtain ⟨y1, y2, y3, y4⟩ := rn_acts (T := T) (n := n) hHd hl 3 (by omega) 0 (0, 0, -1) (μ 858) B hB rfl (by rw [hw]) hc' (Or.inr (by omega)) (0, 0, 0, -1, tl, A) Y rfl hY
      have fY := hF (un Y.2) (hok w0 Y hY y1)
      have hK := y4 0 0 (ν1 866) (by omega) (by omega) (fun _ => fY) (fun _ c' L' hc' _ => by
        unfold KK
        rw [show 300 - c' = (299 - c') + 1 by omega, mvP_s]
        exact ⟨fun _ => fY, fun q => absurd q (by omega)⟩)
      refine hHd _ 0 0 _ rfl hK ⟨0, rfl, by omega⟩ rfl hG (by omega) (by omega) ν1 ρ [.null, .null] ⟨_, _, rfl⟩ ⟨RR_in rA (fun y y1 y2 => m1 y (by omega) (by omega)), fun _ _ _ _ _ => rfl, fun _ _ _ => rfl, rfl, ⟨?_, ?_⟩, fun _ _ => rfl, 0, rfl, by omega⟩ ?_ ?_ rfl
      · rw [hν1, upI_ne (by omega), upI_ne (by omega), upI_k (by omega), upI_at]; rfl
      · rw [hν1, upI_ne (by omega), upI_ne (by omega), upI_at]; rfl
      · rw [hν1, upI_k (by omega), upI_at]; decide
      · rw [hν1, upI_at]; rfl
  · exact c (Int32.le_iff_toInt_le.mpr (by rw [nz]; exact q.2))
end Sd2
