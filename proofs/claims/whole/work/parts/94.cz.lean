/-! ===== the class: entries and snapshots are heard of ===== -/
theorem min_sy {x y : Int32} : (if y < x then y else x) = (if x < y then x else y) := by
  by_cases c : y < x
  · rw [if_pos c, if_neg (fun z => absurd (Int32.lt_trans c z) Int32.lt_irrefl)]
  · rw [if_neg c]
    by_cases c2 : x < y
    · rw [if_pos c2]
    · rw [if_neg c2]
      exact Int32.le_antisymm (Int32.not_lt.mp c) (Int32.not_lt.mp c2)
theorem max_gt {x y : Int32} : (if x < y then y else x) = gt x y := by
  unfold gt
  by_cases c : y < x
  · rw [if_pos c, if_neg (fun z => absurd (Int32.lt_trans c z) Int32.lt_irrefl)]
  · rw [if_neg c]
    by_cases c2 : x < y
    · rw [if_pos c2]
    · rw [if_neg c2]
      exact Int32.le_antisymm (Int32.not_lt.mp c) (Int32.not_lt.mp c2)
theorem Nx_bump {A : Rw} {w s f k : Nat} {μ : Mi} {v : Int32} (hs : s < 5) (hf : f < 5) (hk : k = 0 ∨ k = 1) (h : Nx A w μ) : Nx (up A (514 * s + 24 + 5 * k + f) v) w (upI μ (w + 130 + 8 * s + 3 + k) f v) := by
  intro r hr hrr t ht
  rw [up_ne (by omega)] at hrr
  have := h r hr hrr t ht
  rcases hk with rfl | rfl
  · by_cases c : r = s
    · subst c
      by_cases c2 : t = f
      · subst c2
        rw [upI_at, up_at, upI_ne (by omega), up_ne (by omega)]
        exact ⟨rfl, this.2⟩
      · rw [upI_k c2, upI_ne (by omega), up_ne (by omega), up_ne (by omega)]
        exact this
    · rw [upI_ne (by omega), upI_ne (by omega), up_ne (by omega), up_ne (by omega)]
      exact this
  · by_cases c : r = s
    · subst c
      by_cases c2 : t = f
      · subst c2
        rw [upI_ne (by omega), up_ne (by omega), show w + 130 + 8 * r + 3 + 1 = w + 130 + 8 * r + 4 by omega, upI_at, show 514 * r + 24 + 5 * 1 + t = 514 * r + 29 + t by omega, up_at]
        exact ⟨this.1, rfl⟩
      · rw [upI_ne (by omega), show w + 130 + 8 * r + 3 + 1 = w + 130 + 8 * r + 4 by omega, upI_k c2, up_ne (by omega), up_ne (by omega)]
        exact this
    · rw [upI_ne (by omega), upI_ne (by omega), up_ne (by omega), up_ne (by omega)]
      exact this
theorem RR_nx {A : Rw} {w s f : Nat} {S : Sh} {μ : Mi} {ρ : Mr} {v : Int32} (hs : s < 5) (hf : f < 5) (h : RR A w S μ ρ) : RR (up A (514 * s + 24 + f) v) w S (upI μ (w + 130 + 8 * s + 3) f v) ρ :=
  ⟨R0_store hs h.1 (fun i hi => up_ne (by omega)) (fun y hy => upI_ne (by omega)) (St_congr2 hs (RR_st h hs) (fun i i1 i2 i3 => up_ne (by omega)) (up_ne (by omega)) (fun y y1 y2 y3 y4 => upI_ne (by omega))), Nx_bump (k := 0) hs hf (Or.inl rfl) h.2⟩
theorem RR_hs {A : Rw} {w s f : Nat} {S : Sh} {μ : Mi} {ρ : Mr} {v : Int32} (hs : s < 5) (hf : f < 5) (h : RR A w S μ ρ) : RR (up A (514 * s + 29 + f) v) w S (upI μ (w + 130 + 8 * s + 4) f v) ρ := by
  refine ⟨R0_store hs h.1 (fun i hi => up_ne (by omega)) (fun y hy => upI_ne (by omega)) (St_congr2 hs (RR_st h hs) (fun i i1 i2 i3 => up_ne (by omega)) (up_ne (by omega)) (fun y y1 y2 y3 y4 => upI_ne (by omega))), ?_⟩
  have := Nx_bump (k := 1) (v := v) hs hf (Or.inr rfl) h.2
  rw [show 514 * s + 24 + 5 * 1 + f = 514 * s + 29 + f by omega, show w + 130 + 8 * s + 3 + 1 = w + 130 + 8 * s + 4 by omega] at this
  exact this
theorem RR_s15 {A : Rw} {w s : Nat} {S : Sh} {μ : Mi} {ρ : Mr} {v : Int32} (hs : s < 5) (h : RR A w S μ ρ) : RR (up A (514 * s + 15) v) w S (upI μ (w + 130 + 8 * s + 7) 3 v) ρ :=
  ⟨R0_store hs h.1 (fun i hi => up_ne (by omega)) (fun y hy => upI_ne (by omega)) (St_set15 hs (RR_st h hs)), Nx_keep h.2 (fun r i hr hi => up_ne (by omega)) (fun r hr => ⟨upI_ne (by omega), upI_ne (by omega)⟩)⟩
theorem RR_ans {A : Rw} {w s : Nat} {S : Sh} {μ : Mi} {ρ : Mr} (hs : s < 5) (h : RR A w S μ ρ) (hc : rg (A (514 * s + 12)) 0 3) : RR (up (up (up A (514 * s + 11) 2) (514 * s + 13) (A (514 * s + 16 + (A (514 * s + 12)).toNatClampNeg))) (514 * s + 15) 0) w S (cAns μ (w + 130 + 8 * s)) ρ :=
  ⟨R0_store hs h.1 (fun i hi => by rw [up_ne (by omega), up_ne (by omega), up_ne (by omega)]) (fun y hy => cAns_ne (by omega)) (St_ans hs (RR_st h hs) hc), Nx_keep h.2 (fun r i hr hi => by rw [up_ne (by omega), up_ne (by omega), up_ne (by omega)]) (fun r hr => ⟨cAns_ne (by omega), cAns_ne (by omega)⟩)⟩
theorem qMem_15 {A : Rw} {s : Nat} {v : Int32} (hs : s < 5) : qMem (up A (514 * s + 15) v) s = qMem A s := by
  unfold qMem
  rw [up_ne (by omega)]
  exact qCfg_c (up_ne (by omega)) (up_ne (by omega)) (up_ne (by omega)) (up_ne (by omega)) _ (fun i i1 i2 => up_ne (by omega))
def w_X10_hearTook_89 (M : CT) (G : Nat → PT) (Rp : RT) : PT := tAload 1 <| tGetR 7 18 14 <| tIload 3 <| tAload 1 <| tGetR 7 18 14 <| tIload 3 <| tAld 20 <| tAload 2 <| tGetI 2 10 5 <| tConst 1 <| tBin (fun x y => x + y) <| tMin <| tAload 1 <| tGetR 7 18 15 <| tIload 3 <| tAld 20 <| tConst 1 <| tBin (fun x y => x + y) <| tMax <| tIast <| tAload 0 <| tAload 1 <| tIload 3 <| tFn 3 F_X10_send <| tConst 0 <| tIret Rp
def w_X10_hearTook_40 (M : CT) (G : Nat → PT) (Rp : RT) : PT := tAload 2 <| tGetI 2 10 0 <| tIstore 3 <| tAload 2 <| tGetI 2 10 4 <| tConst 1 <| tIf2 (fun x y => x ≠ y) (w_X10_hearTook_89 M G Rp) <| tAload 1 <| tGetR 7 18 15 <| tIload 3 <| tAload 1 <| tGetR 7 18 15 <| tIload 3 <| tAld 20 <| tAload 2 <| tGetI 2 10 5 <| tMax <| tIast <| tAload 1 <| tGetR 7 18 14 <| tIload 3 <| tAload 1 <| tGetR 7 18 15 <| tIload 3 <| tAld 20 <| tConst 1 <| tBin (fun x y => x + y) <| tIast <| tConst 24 <| tIret Rp
def w_X10_hearTook_21 (M : CT) (G : Nat → PT) (Rp : RT) : PT := tAload 1 <| tAload 2 <| tGetI 2 10 0 <| tAload 2 <| tGetI 2 10 8 <| tFn 3 F_X7_answersRead <| tIf (fun x => x = 0) (w_X10_hearTook_40 M G Rp) <| tAload 1 <| tFn 1 F_X7_answerRead <| w_X10_hearTook_40 M G Rp
def w_X10_hearTook_19 (M : CT) (G : Nat → PT) (Rp : RT) : PT := tConst 0 <| tIret Rp
def w_X10_hearTook_0 (M : CT) (G : Nat → PT) (Rp : RT) : PT := tAload 2 <| tGetI 2 10 3 <| tAload 1 <| tGetI 7 18 2 <| tIf2 (fun x y => x ≠ y) (w_X10_hearTook_19 M G Rp) <| tAload 1 <| tGetI 7 18 4 <| tConst 2 <| tIf2 (fun x y => x = y) (w_X10_hearTook_21 M G Rp) <| w_X10_hearTook_19 M G Rp
set_option maxRecDepth 20000 in
theorem b_X10_hearTook_89 {Z : Zt} {d : Nat} {p : Program} {e : Env} {R : Room} {s : State} {m : MethodId} {args : Array Value} {below : List Frame} {meth : Method} {c : Code} {Rp : RT} (C : Cx Z (d + 3) jX10_hearTook RX10 p R s m args meth c) : Sd Z jX10_hearTook p e R s m args below meth c (MQ below (QcS Z Rp) args s 0 0 (fun a => Z.2.2.1 < a)) 89 (w_X10_hearTook_89 (MS Z (d + 3)) (Gw Z 4 p e R s m args below meth c (MQ below (QcS Z Rp) args s 0 0 (fun a => Z.2.2.1 < a))) Rp) := by
  unfold w_X10_hearTook_89
  refine s_aload_n (k := 1) C (by decide +kernel) ?_
  refine s_getR C w_2_28 (by decide +kernel) rfl ?_
  refine s_iload_n (k := 3) C (by decide +kernel) ?_
  refine s_aload_n (k := 1) C (by decide +kernel) ?_
  refine s_getR C w_2_28 (by decide +kernel) rfl ?_
  refine s_iload_n (k := 3) C (by decide +kernel) ?_
  refine s_iald C (by decide +kernel) ?_
  refine s_aload_n (k := 2) C (by decide +kernel) ?_
  refine s_getI C w_1_79 (by decide +kernel) rfl ?_
  refine s_iconst (n := 1) C (by decide +kernel) (by decide) ?_
  refine s_iadd C (by decide +kernel) ?_
  refine s_min C w_3_166 w_3_84 w_1_16 w_min (by decide +kernel) ?_
  refine s_aload_n (k := 1) C (by decide +kernel) ?_
  refine s_getR C w_2_30 (by decide +kernel) rfl ?_
  refine s_iload_n (k := 3) C (by decide +kernel) ?_
  refine s_iald C (by decide +kernel) ?_
  refine s_iconst (n := 1) C (by decide +kernel) (by decide) ?_
  refine s_iadd C (by decide +kernel) ?_
  refine s_max C w_3_167 w_3_168 w_1_16 w_max (by decide +kernel) ?_
  refine s_iast C (by decide +kernel) ?_
  refine s_aload_n (k := 0) C (by decide +kernel) ?_
  refine s_aload_n (k := 1) C (by decide +kernel) ?_
  refine s_iload_n (k := 3) C (by decide +kernel) ?_
  refine s_fnV C (j2 := jX10_send) (cl := 10) (nf := 6) rfl rfl (by decide +kernel) rfl w_3_162 w_3_163 w_3_164 w_1_2 w_3_165 (by decide +kernel) (fun _ _ _ _ _ h => f_X10_send h) (fun _ _ _ _ _ h => r_X10_send h) ?_
  refine s_iconst (n := 0) C (by decide +kernel) (by decide) ?_
  exact s_iret C rfl (by decide +kernel)
set_option maxRecDepth 20000 in
theorem b_X10_hearTook_40 {Z : Zt} {d : Nat} {p : Program} {e : Env} {R : Room} {s : State} {m : MethodId} {args : Array Value} {below : List Frame} {meth : Method} {c : Code} {Rp : RT} (C : Cx Z (d + 3) jX10_hearTook RX10 p R s m args meth c) : Sd Z jX10_hearTook p e R s m args below meth c (MQ below (QcS Z Rp) args s 0 0 (fun a => Z.2.2.1 < a)) 40 (w_X10_hearTook_40 (MS Z (d + 3)) (Gw Z 4 p e R s m args below meth c (MQ below (QcS Z Rp) args s 0 0 (fun a => Z.2.2.1 < a))) Rp) := by
  unfold w_X10_hearTook_40
  refine s_aload_n (k := 2) C (by decide +kernel) ?_
  refine s_getI C w_1_55 (by decide +kernel) rfl ?_
  refine s_istore_n (k := 3) C (by decide +kernel) ?_
  refine s_aload_n (k := 2) C (by decide +kernel) ?_
  refine s_getI C w_1_74 (by decide +kernel) rfl ?_
  refine s_iconst (n := 1) C (by decide +kernel) (by decide) ?_
  refine s_icmp_ne (off := 39) (tgt := 89) C (by decide +kernel) (by decide) (b_X10_hearTook_89 C) ?_
  refine s_aload_n (k := 1) C (by decide +kernel) ?_
  refine s_getR C w_2_30 (by decide +kernel) rfl ?_
  refine s_iload_n (k := 3) C (by decide +kernel) ?_
  refine s_aload_n (k := 1) C (by decide +kernel) ?_
  refine s_getR C w_2_30 (by decide +kernel) rfl ?_
  refine s_iload_n (k := 3) C (by decide +kernel) ?_
  refine s_iald C (by decide +kernel) ?_
  refine s_aload_n (k := 2) C (by decide +kernel) ?_
  refine s_getI C w_1_79 (by decide +kernel) rfl ?_
  refine s_max C w_3_167 w_3_168 w_1_16 w_max (by decide +kernel) ?_
  refine s_iast C (by decide +kernel) ?_
  refine s_aload_n (k := 1) C (by decide +kernel) ?_
  refine s_getR C w_2_28 (by decide +kernel) rfl ?_
  refine s_iload_n (k := 3) C (by decide +kernel) ?_
  refine s_aload_n (k := 1) C (by decide +kernel) ?_
  refine s_getR C w_2_30 (by decide +kernel) rfl ?_
  refine s_iload_n (k := 3) C (by decide +kernel) ?_
  refine s_iald C (by decide +kernel) ?_
  refine s_iconst (n := 1) C (by decide +kernel) (by decide) ?_
  refine s_iadd C (by decide +kernel) ?_
  refine s_iast C (by decide +kernel) ?_
  refine s_bipush (n := 24) C (by decide +kernel) (by decide) ?_
  exact s_iret C rfl (by decide +kernel)
set_option maxRecDepth 20000 in
theorem b_X10_hearTook_21 {Z : Zt} {d : Nat} {p : Program} {e : Env} {R : Room} {s : State} {m : MethodId} {args : Array Value} {below : List Frame} {meth : Method} {c : Code} {Rp : RT} (C : Cx Z (d + 3) jX10_hearTook RX10 p R s m args meth c) : Sd Z jX10_hearTook p e R s m args below meth c (MQ below (QcS Z Rp) args s 0 0 (fun a => Z.2.2.1 < a)) 21 (w_X10_hearTook_21 (MS Z (d + 3)) (Gw Z 4 p e R s m args below meth c (MQ below (QcS Z Rp) args s 0 0 (fun a => Z.2.2.1 < a))) Rp) := by
  unfold w_X10_hearTook_21
  refine s_aload_n (k := 1) C (by decide +kernel) ?_
  refine s_aload_n (k := 2) C (by decide +kernel) ?_
  refine s_getI C w_1_55 (by decide +kernel) rfl ?_
  refine s_aload_n (k := 2) C (by decide +kernel) ?_
  refine s_getI C w_1_92 (by decide +kernel) rfl ?_
  refine s_fnV C (j2 := jX7_answersRead) (cl := 7) (nf := 18) rfl rfl (by decide +kernel) rfl w_4_109 w_4_110 w_4_111 w_1_5 w_4_112 (by decide +kernel) (fun _ _ _ _ _ h => f_X7_answersRead h) (fun _ _ _ _ _ h => r_X7_answersRead h) ?_
  refine s_if_eq (off := 7) (tgt := 40) C (by decide +kernel) (by decide) (b_X10_hearTook_40 C) ?_
  refine s_aload_n (k := 1) C (by decide +kernel) ?_
  refine s_fnV C (j2 := jX7_answerRead) (cl := 7) (nf := 18) rfl rfl (by decide +kernel) rfl w_3_225 w_3_226 w_3_227 w_1_5 w_3_228 (by decide +kernel) (fun _ _ _ _ _ h => f_X7_answerRead h) (fun _ _ _ _ _ h => r_X7_answerRead h) ?_
  exact (b_X10_hearTook_40 C)
set_option maxRecDepth 20000 in
theorem b_X10_hearTook_19 {Z : Zt} {d : Nat} {p : Program} {e : Env} {R : Room} {s : State} {m : MethodId} {args : Array Value} {below : List Frame} {meth : Method} {c : Code} {Rp : RT} (C : Cx Z (d + 3) jX10_hearTook RX10 p R s m args meth c) : Sd Z jX10_hearTook p e R s m args below meth c (MQ below (QcS Z Rp) args s 0 0 (fun a => Z.2.2.1 < a)) 19 (w_X10_hearTook_19 (MS Z (d + 3)) (Gw Z 4 p e R s m args below meth c (MQ below (QcS Z Rp) args s 0 0 (fun a => Z.2.2.1 < a))) Rp) := by
  unfold w_X10_hearTook_19
  refine s_iconst (n := 0) C (by decide +kernel) (by decide) ?_
  exact s_iret C rfl (by decide +kernel)
set_option maxRecDepth 20000 in
theorem b_X10_hearTook_0 {Z : Zt} {d : Nat} {p : Program} {e : Env} {R : Room} {s : State} {m : MethodId} {args : Array Value} {below : List Frame} {meth : Method} {c : Code} {Rp : RT} (C : Cx Z (d + 3) jX10_hearTook RX10 p R s m args meth c) : Sd Z jX10_hearTook p e R s m args below meth c (MQ below (QcS Z Rp) args s 0 0 (fun a => Z.2.2.1 < a)) 0 (w_X10_hearTook_0 (MS Z (d + 3)) (Gw Z 4 p e R s m args below meth c (MQ below (QcS Z Rp) args s 0 0 (fun a => Z.2.2.1 < a))) Rp) := by
  unfold w_X10_hearTook_0
  refine s_aload_n (k := 2) C (by decide +kernel) ?_
  refine s_getI C w_1_69 (by decide +kernel) rfl ?_
  refine s_aload_n (k := 1) C (by decide +kernel) ?_
  refine s_getI C w_1_227 (by decide +kernel) rfl ?_
  refine s_icmp_ne (off := 11) (tgt := 19) C (by decide +kernel) (by decide) (b_X10_hearTook_19 C) ?_
  refine s_aload_n (k := 1) C (by decide +kernel) ?_
  refine s_getI C w_1_234 (by decide +kernel) rfl ?_
  refine s_iconst (n := 2) C (by decide +kernel) (by decide) ?_
  refine s_icmp_eq (off := 5) (tgt := 21) C (by decide +kernel) (by decide) (b_X10_hearTook_21 C) ?_
  exact (b_X10_hearTook_19 C)
theorem ms_X10_hearTook {Z : Zt} {d : Nat} {S : Sh} {μ : Mi} {ρ : Mr} {Rp : RT} (a0 : Nat) (a1 : Nat) (a2 : Nat) (h : ∀ G : Nat → PT, w_X10_hearTook_0 (MS Z (d + 3)) G Rp [.ref a0, .ref a1, .ref a2, .null] [] S (0, 0) μ ρ) : MS Z (d + 4) jX10_hearTook [.ref a0, .ref a1, .ref a2] S μ ρ Rp :=
  MS_of [.ref a0, .ref a1, .ref a2, .null] (by decide +kernel) rfl rfl (Nat.le_of_ble_eq_true rfl) rfl (fun p e R s m args below meth c C => b_X10_hearTook_0 C _ _ _ _ _ _ (h _ ))
def F_X10_hearTook : FT := fun As S μ ρ k => match As with
  | [.ref a, .ref x, .ref q] => S.2 a = (10, 6) ∧ ∃ (s f : Nat) (A g : Rw), s < 5 ∧ x = a + 130 + 8 * s ∧ RR A a S μ ρ ∧ Mg A g a q μ ρ s f ∧ hK A s ∧ rg (g 5) (-1) 120 ∧ ∀ (μ' : Mi) (A' : Rw) (td : Int32), RR A' a S μ' ρ → Ot a μ μ' → (td = 0 ∨ μ' q = μ q) → finQ A' s f (nI f) td (if g 2 = A (514 * s + 1) ∧ A (514 * s + 3) = 2 then qTook A (g 8) s f (g 4 = 1) (g 5) else A) → k (some (.int td)) μ'
  | _ => False
theorem r_X10_hearTook {As S μ ρ k} (h : F_X10_hearTook As S μ ρ k) : ∃ a As', As = Value.ref a :: As' ∧ S.2 a = (10, 6) := by
  unfold F_X10_hearTook at h
  split at h
  · exact ⟨_, _, rfl, h.1⟩
  · exact h.elim
set_option maxHeartbeats 1000000 in
theorem f_X10_hearTook {Z : Zt} {d : Nat} {As : List Value} {S : Sh} {μ : Mi} {ρ : Mr} {Rp : RT} (h : F_X10_hearTook As S μ ρ (fun r μ' => Rp r S μ' ρ)) : MS Z (d + 4) jX10_hearTook As S μ ρ Rp := by
  unfold F_X10_hearTook at h
  split at h
  · rename_i a x q
    obtain ⟨a, hNa⟩ : ∃ n : Nat, n = a := ⟨a, rfl⟩
    subst hNa
    obtain ⟨q, hNq⟩ : ∃ n : Nat, n = q := ⟨q, rfl⟩
    subst hNq
    obtain ⟨h1, s, f, A, g, hs, rfl, hR, hM, hK0, hg5, h⟩ := h
    refine ms_X10_hearTook _ _ _ (fun G => ?_)
    have hW := RR_W hR
    obtain ⟨x1, x2, -⟩ := W_st hW hs
    obtain ⟨⟨jq, jq1, jq2⟩, m1, m2, m3⟩ := Mg_at hM hW
    obtain ⟨hq60, hMs, hg0, hf, hg1, hsf⟩ := hM
    have hSt := RR_st hR hs
    have hA := hSt.1
    unfold StA at hA
    have hmem := St_mem hSt
    rw [hSt.2.2.2.2.2.1, hSt.2.2.2.2.2.2] at hmem
    have no : ¬ (g 2 = A (514 * s + 1) ∧ A (514 * s + 3) = 2) → Rp (some (.int 0)) S μ ρ := fun c => h μ A 0 hR (fun _ _ => rfl) (Or.inr rfl) (by rw [if_neg c]; exact Or.inl ⟨rfl, rfl⟩)
    have x2' := x2
    unfold StS at x2
    have hears : ∀ W : Mi → Prop, (∀ ν, RR (qHears A (g 8) s f) a S ν ρ → (∀ y : Nat, y ≠ a + 130 + 8 * s + 7 → ν y = μ y) → W ν) →
        ((¬ A (514 * s + 11) = 1 ∨ g 8 < A (514 * s + 14)) → W μ) ∧ (¬ (¬ A (514 * s + 11) = 1 ∨ g 8 < A (514 * s + 14)) → (cMaj (qMem A s).1 (qMem A s).2.1 (A (514 * s + 15) ||| (1 : Int32) <<< (nI f &&& 31)) → rg (upI μ (a + 130 + 8 * s + 7) 3 (A (514 * s + 15) ||| (1 : Int32) <<< (nI f &&& 31)) (a + 130 + 8 * s + 7) 1) 0 3 ∧ W (cAns (upI μ (a + 130 + 8 * s + 7) 3 (A (514 * s + 15) ||| (1 : Int32) <<< (nI f &&& 31))) (a + 130 + 8 * s))) ∧ (¬ cMaj (qMem A s).1 (qMem A s).2.1 (A (514 * s + 15) ||| (1 : Int32) <<< (nI f &&& 31)) → W (upI μ (a + 130 + 8 * s + 7) 3 (A (514 * s + 15) ||| (1 : Int32) <<< (nI f &&& 31))))) := by
      intro W hk
      have r15 := RR_s15 (v := A (514 * s + 15) ||| (1 : Int32) <<< (nI f &&& 31)) hs hR
      have hm15 := qMem_15 (A := A) (v := A (514 * s + 15) ||| (1 : Int32) <<< (nI f &&& 31)) hs
      have hc12 : up A (514 * s + 15) (A (514 * s + 15) ||| (1 : Int32) <<< (nI f &&& 31)) (514 * s + 12) = A (514 * s + 12) := up_ne (by omega)
      unfold qHears at hk
      refine ⟨fun c => ?_, fun c => ⟨fun c2 => ⟨?_, ?_⟩, fun c2 => ?_⟩⟩
      · rw [if_pos c] at hk
        exact hk μ hR (fun _ _ => rfl)
      · rw [(RR_st r15 hs).1.2.2.2.2.2.2.2.2.2.2.2.2.2.1, hc12]
        exact hK0.1.2.2.2.1
      · rw [if_neg c] at hk
        unfold qAnsRead cMaj at *
        rw [hm15, up_at, if_pos c2] at hk
        exact hk _ (RR_ans hs r15 (by rw [hc12]; exact hK0.1.2.2.2.1)) (fun y hy => by rw [cAns_ne hy, upI_ne hy])
      · rw [if_neg c] at hk
        unfold qAnsRead cMaj at *
        rw [hm15, up_at, if_neg c2] at hk
        exact hk _ r15 (fun y hy => upI_ne hy)
    have qh := fun i a => qHears_out (A := A) (m8 := g 8) (s := s) (f := f) (i := i) a
    have hn24 : ∀ t, t < 5 → rg (A (514 * s + 24 + t)) 0 121 := hK0.1.1.1.2.2.2
    have f40 : g 2 = A (514 * s + 1) ∧ A (514 * s + 3) = 2 → ∀ ν, RR (qHears A (g 8) s f) a S ν ρ → (∀ y : Nat, y ≠ a + 130 + 8 * s + 7 → ν y = μ y) → w_X10_hearTook_40 (MS Z (d + 3)) G Rp [.ref a, .ref (a + 130 + 8 * s), .ref q, .null] [] S (0, 0) ν ρ := by
      intro c ν r o
      have eq : ν q = μ q := o q (by omega)
      have er : qHears A (g 8) s f (514 * s + 3) = 2 := by rw [qh _ (by omega)]; exact c.2
      have hN := r.2 s hs er f hf
      have hif : inb (nI f) 5 := inb_nI hf (by decide)
      have ha : agOK (qHears A (g 8) s f) s := agOK_hears hs hK0.1.1
      have hhs : rg (qHears A (g 8) s f (514 * s + 29 + f)) 0 120 := by rw [qh _ (by omega)]; exact hK0.1.2.2.2.2.1 f hf
      have hnx : rg (qHears A (g 8) s f (514 * s + 24 + f)) 0 121 := by rw [qh _ (by omega)]; exact hn24 f hf
      have hagr : agR (qHears A (g 8) s f) s := agR_of hK0.2.1 (qh _ (by omega)) (qh _ (by omega)) (qh _ (by omega))
      have htm : rg (qHears A (g 8) s f (514 * s + 1)) 1 200 := by rw [qh _ (by omega)]; exact ⟨hK0.2.2 c.2, hK0.1.2.2.1.2⟩
      rw [if_pos c] at h
      unfold qTook at h
      generalize qHears A (g 8) s f = C at *
      simp only [w_X10_hearTook_40, w_X10_hearTook_89, tAload, tIload, nth, tGetI, tGetR, tConst, tLconst, tBin, tUn, tI2l, tAld, tAldR, tAlen, tIast, tBast, tZast, tAast, tIret, tZret, tVret, tAret, tIf, tIf2, tGoto, tIstore, tAstore, sset, tIinc, tDup, tDup2, tPop, tPutI, tPutZ, tPutR, tCallV, tCallS, popN, tFn, tCopy, tMax, tMin, tSw, swc, tRem, tObjI, Option.toList, List.nil_append, List.cons_append, okR, true_and, and_true, true_or, or_true, Nat.zero_le, ne_eq, not_false_eq_true, Nat.reduceEqDiff, F_X10_send, h1, x1, x2, m1, eq, hMs.1, hg0, hif, Decidable.not_not]
      rw [nI_clamp (by omega)]
      simp (disch := omega) only [upI_at, upI_ne]
      rw [hN.1, hN.2, max_gt, max_gt, min_sy]
      refine ⟨fun c2 => ⟨s, f, _, hs, rfl, rfl, hf, hsf, RR_nx hs hf r, ?_, ?_, fun μ' q1 q2 => ?_⟩, fun c2 => ?_⟩
      · rw [up_ne (by omega)]; exact er
      · rw [up_at]
        refine gt_rg' ?_ ?_
        · split
          · exact hnx.2
          · have := rg_1 hg5 (by decide) (by decide)
            exact this.2
        · exact rg_w (rg_1 hhs (by decide) (by decide)) (by decide) (by decide)
      · refine h μ' _ 0 q1 (ot_trans (fun y hy => ?_) (Fm_Ot q2)) (Or.inl rfl) (Or.inl ⟨rfl, ?_⟩)
        · rw [upI_ne (by omega)]; exact o y (by omega)
        · rw [if_pos c2]
          rfl
      · refine h _ _ 24 (RR_nx hs hf (RR_hs hs hf r)) (fun y hy => ?_) (Or.inr ?_) (Or.inr (Or.inr (Or.inr (Or.inr ⟨rfl, ?_, ⟨?_, agOK_next hs hf (agOK_has hs hf ha) ?_, agR_of hagr ?_ ?_ ?_, ?_⟩, hsf, rfl, hf⟩))))
        · rw [upI_ne (by omega), upI_ne (by omega)]; exact o y (by omega)
        · rw [upI_ne (by omega), upI_ne (by omega)]; exact eq
        · rw [if_neg (not_not_intro c2)]
          show qGoesOn (up _ _ (up _ _ _ _ + 1)) s f = _
          rw [up_at]
        · rw [up_ne (by omega), up_ne (by omega)]; exact er
        · exact rg_w (rg_1 (gt_rg hhs hg5.2) (by decide) (by decide)) (by decide) (by decide)
        · rw [up_ne (by omega), up_ne (by omega)]
        · rw [up_ne (by omega), up_ne (by omega)]
        · rw [up_ne (by omega), up_ne (by omega)]
        · rw [up_ne (by omega), up_ne (by omega)]; exact htm
    simp only [w_X10_hearTook_0, w_X10_hearTook_19, w_X10_hearTook_21, tAload, tIload, nth, tGetI, tGetR, tConst, tLconst, tBin, tUn, tI2l, tAld, tAldR, tAlen, tIast, tBast, tZast, tAast, tIret, tZret, tVret, tAret, tIf, tIf2, tGoto, tIstore, tAstore, sset, tIinc, tDup, tDup2, tPop, tPutI, tPutZ, tPutR, tCallV, tCallS, popN, tFn, tCopy, tMax, tMin, tSw, swc, tRem, tObjI, Option.toList, List.nil_append, List.cons_append, okR, true_and, and_true, true_or, or_true, Nat.zero_le, ne_eq, not_false_eq_true, Nat.reduceEqDiff, F_X7_answersRead, F_X7_answerRead, x1, x2', m1, hA, hMs.1, hg0, hSt.2.2.2.2.2.1, hSt.2.2.2.2.2.2, hmem, Decidable.not_not]
    refine ⟨fun c => no (fun z => c z.1), fun c => ⟨fun c2 => ?_, fun c2 => no (fun z => c2 z.2)⟩⟩
    obtain ⟨w1, w2⟩ := hears _ (f40 ⟨c, c2⟩)
    exact ⟨fun z => ⟨fun _ => w1 z, fun z => absurd trivial z⟩, fun z => ⟨fun z2 => ⟨fun z3 => absurd z3 (by decide), fun _ => (w2 z).1 z2⟩, fun z2 => ⟨fun _ => (w2 z).2 z2, fun z => absurd trivial z⟩⟩⟩
  · exact h.elim
def w_X10_hearInstalled_49 (M : CT) (G : Nat → PT) (Rp : RT) : PT := tAload 2 <| tGetI 2 10 0 <| tIstore 3 <| tAload 1 <| tGetR 7 18 15 <| tIload 3 <| tAload 1 <| tGetR 7 18 15 <| tIload 3 <| tAld 20 <| tAload 2 <| tGetI 2 10 4 <| tMax <| tIast <| tAload 1 <| tGetR 7 18 14 <| tIload 3 <| tAload 1 <| tGetR 7 18 14 <| tIload 3 <| tAld 20 <| tAload 1 <| tGetR 7 18 15 <| tIload 3 <| tAld 20 <| tConst 1 <| tBin (fun x y => x + y) <| tMax <| tIast <| tConst 24 <| tIret Rp
def w_X10_hearInstalled_40 (M : CT) (G : Nat → PT) (Rp : RT) : PT := tAload 2 <| tGetI 2 10 4 <| tIf (fun x => 0 < x) (w_X10_hearInstalled_49 M G Rp) <| tConst 0 <| tIret Rp
def w_X10_hearInstalled_21 (M : CT) (G : Nat → PT) (Rp : RT) : PT := tAload 1 <| tAload 2 <| tGetI 2 10 0 <| tAload 2 <| tGetI 2 10 8 <| tFn 3 F_X7_answersRead <| tIf (fun x => x = 0) (w_X10_hearInstalled_40 M G Rp) <| tAload 1 <| tFn 1 F_X7_answerRead <| w_X10_hearInstalled_40 M G Rp
def w_X10_hearInstalled_19 (M : CT) (G : Nat → PT) (Rp : RT) : PT := tConst 0 <| tIret Rp
def w_X10_hearInstalled_0 (M : CT) (G : Nat → PT) (Rp : RT) : PT := tAload 2 <| tGetI 2 10 3 <| tAload 1 <| tGetI 7 18 2 <| tIf2 (fun x y => x ≠ y) (w_X10_hearInstalled_19 M G Rp) <| tAload 1 <| tGetI 7 18 4 <| tConst 2 <| tIf2 (fun x y => x = y) (w_X10_hearInstalled_21 M G Rp) <| w_X10_hearInstalled_19 M G Rp
set_option maxRecDepth 20000 in
theorem b_X10_hearInstalled_49 {Z : Zt} {d : Nat} {p : Program} {e : Env} {R : Room} {s : State} {m : MethodId} {args : Array Value} {below : List Frame} {meth : Method} {c : Code} {Rp : RT} (C : Cx Z (d + 3) jX10_hearInstalled RX10 p R s m args meth c) : Sd Z jX10_hearInstalled p e R s m args below meth c (MQ below (QcS Z Rp) args s 0 0 (fun a => Z.2.2.1 < a)) 49 (w_X10_hearInstalled_49 (MS Z (d + 3)) (Gw Z 4 p e R s m args below meth c (MQ below (QcS Z Rp) args s 0 0 (fun a => Z.2.2.1 < a))) Rp) := by
  unfold w_X10_hearInstalled_49
  refine s_aload_n (k := 2) C (by decide +kernel) ?_
  refine s_getI C w_1_55 (by decide +kernel) rfl ?_
  refine s_istore_n (k := 3) C (by decide +kernel) ?_
  refine s_aload_n (k := 1) C (by decide +kernel) ?_
  refine s_getR C w_2_30 (by decide +kernel) rfl ?_
  refine s_iload_n (k := 3) C (by decide +kernel) ?_
  refine s_aload_n (k := 1) C (by decide +kernel) ?_
  refine s_getR C w_2_30 (by decide +kernel) rfl ?_
  refine s_iload_n (k := 3) C (by decide +kernel) ?_
  refine s_iald C (by decide +kernel) ?_
  refine s_aload_n (k := 2) C (by decide +kernel) ?_
  refine s_getI C w_1_74 (by decide +kernel) rfl ?_
  refine s_max C w_3_167 w_3_168 w_1_16 w_max (by decide +kernel) ?_
  refine s_iast C (by decide +kernel) ?_
  refine s_aload_n (k := 1) C (by decide +kernel) ?_
  refine s_getR C w_2_28 (by decide +kernel) rfl ?_
  refine s_iload_n (k := 3) C (by decide +kernel) ?_
  refine s_aload_n (k := 1) C (by decide +kernel) ?_
  refine s_getR C w_2_28 (by decide +kernel) rfl ?_
  refine s_iload_n (k := 3) C (by decide +kernel) ?_
  refine s_iald C (by decide +kernel) ?_
  refine s_aload_n (k := 1) C (by decide +kernel) ?_
  refine s_getR C w_2_30 (by decide +kernel) rfl ?_
  refine s_iload_n (k := 3) C (by decide +kernel) ?_
  refine s_iald C (by decide +kernel) ?_
  refine s_iconst (n := 1) C (by decide +kernel) (by decide) ?_
  refine s_iadd C (by decide +kernel) ?_
  refine s_max C w_3_167 w_3_168 w_1_16 w_max (by decide +kernel) ?_
  refine s_iast C (by decide +kernel) ?_
  refine s_bipush (n := 24) C (by decide +kernel) (by decide) ?_
  exact s_iret C rfl (by decide +kernel)
set_option maxRecDepth 20000 in
theorem b_X10_hearInstalled_40 {Z : Zt} {d : Nat} {p : Program} {e : Env} {R : Room} {s : State} {m : MethodId} {args : Array Value} {below : List Frame} {meth : Method} {c : Code} {Rp : RT} (C : Cx Z (d + 3) jX10_hearInstalled RX10 p R s m args meth c) : Sd Z jX10_hearInstalled p e R s m args below meth c (MQ below (QcS Z Rp) args s 0 0 (fun a => Z.2.2.1 < a)) 40 (w_X10_hearInstalled_40 (MS Z (d + 3)) (Gw Z 4 p e R s m args below meth c (MQ below (QcS Z Rp) args s 0 0 (fun a => Z.2.2.1 < a))) Rp) := by
  unfold w_X10_hearInstalled_40
  refine s_aload_n (k := 2) C (by decide +kernel) ?_
  refine s_getI C w_1_74 (by decide +kernel) rfl ?_
  refine s_if_gt (off := 5) (tgt := 49) C (by decide +kernel) (by decide) (b_X10_hearInstalled_49 C) ?_
  refine s_iconst (n := 0) C (by decide +kernel) (by decide) ?_
  exact s_iret C rfl (by decide +kernel)
set_option maxRecDepth 20000 in
theorem b_X10_hearInstalled_21 {Z : Zt} {d : Nat} {p : Program} {e : Env} {R : Room} {s : State} {m : MethodId} {args : Array Value} {below : List Frame} {meth : Method} {c : Code} {Rp : RT} (C : Cx Z (d + 3) jX10_hearInstalled RX10 p R s m args meth c) : Sd Z jX10_hearInstalled p e R s m args below meth c (MQ below (QcS Z Rp) args s 0 0 (fun a => Z.2.2.1 < a)) 21 (w_X10_hearInstalled_21 (MS Z (d + 3)) (Gw Z 4 p e R s m args below meth c (MQ below (QcS Z Rp) args s 0 0 (fun a => Z.2.2.1 < a))) Rp) := by
  unfold w_X10_hearInstalled_21
  refine s_aload_n (k := 1) C (by decide +kernel) ?_
  refine s_aload_n (k := 2) C (by decide +kernel) ?_
  refine s_getI C w_1_55 (by decide +kernel) rfl ?_
  refine s_aload_n (k := 2) C (by decide +kernel) ?_
  refine s_getI C w_1_92 (by decide +kernel) rfl ?_
  refine s_fnV C (j2 := jX7_answersRead) (cl := 7) (nf := 18) rfl rfl (by decide +kernel) rfl w_4_109 w_4_110 w_4_111 w_1_5 w_4_112 (by decide +kernel) (fun _ _ _ _ _ h => f_X7_answersRead h) (fun _ _ _ _ _ h => r_X7_answersRead h) ?_
  refine s_if_eq (off := 7) (tgt := 40) C (by decide +kernel) (by decide) (b_X10_hearInstalled_40 C) ?_
  refine s_aload_n (k := 1) C (by decide +kernel) ?_
  refine s_fnV C (j2 := jX7_answerRead) (cl := 7) (nf := 18) rfl rfl (by decide +kernel) rfl w_3_225 w_3_226 w_3_227 w_1_5 w_3_228 (by decide +kernel) (fun _ _ _ _ _ h => f_X7_answerRead h) (fun _ _ _ _ _ h => r_X7_answerRead h) ?_
  exact (b_X10_hearInstalled_40 C)
set_option maxRecDepth 20000 in
theorem b_X10_hearInstalled_19 {Z : Zt} {d : Nat} {p : Program} {e : Env} {R : Room} {s : State} {m : MethodId} {args : Array Value} {below : List Frame} {meth : Method} {c : Code} {Rp : RT} (C : Cx Z (d + 3) jX10_hearInstalled RX10 p R s m args meth c) : Sd Z jX10_hearInstalled p e R s m args below meth c (MQ below (QcS Z Rp) args s 0 0 (fun a => Z.2.2.1 < a)) 19 (w_X10_hearInstalled_19 (MS Z (d + 3)) (Gw Z 4 p e R s m args below meth c (MQ below (QcS Z Rp) args s 0 0 (fun a => Z.2.2.1 < a))) Rp) := by
  unfold w_X10_hearInstalled_19
  refine s_iconst (n := 0) C (by decide +kernel) (by decide) ?_
  exact s_iret C rfl (by decide +kernel)
set_option maxRecDepth 20000 in
theorem b_X10_hearInstalled_0 {Z : Zt} {d : Nat} {p : Program} {e : Env} {R : Room} {s : State} {m : MethodId} {args : Array Value} {below : List Frame} {meth : Method} {c : Code} {Rp : RT} (C : Cx Z (d + 3) jX10_hearInstalled RX10 p R s m args meth c) : Sd Z jX10_hearInstalled p e R s m args below meth c (MQ below (QcS Z Rp) args s 0 0 (fun a => Z.2.2.1 < a)) 0 (w_X10_hearInstalled_0 (MS Z (d + 3)) (Gw Z 4 p e R s m args below meth c (MQ below (QcS Z Rp) args s 0 0 (fun a => Z.2.2.1 < a))) Rp) := by
  unfold w_X10_hearInstalled_0
  refine s_aload_n (k := 2) C (by decide +kernel) ?_
  refine s_getI C w_1_69 (by decide +kernel) rfl ?_
  refine s_aload_n (k := 1) C (by decide +kernel) ?_
  refine s_getI C w_1_227 (by decide +kernel) rfl ?_
  refine s_icmp_ne (off := 11) (tgt := 19) C (by decide +kernel) (by decide) (b_X10_hearInstalled_19 C) ?_
  refine s_aload_n (k := 1) C (by decide +kernel) ?_
  refine s_getI C w_1_234 (by decide +kernel) rfl ?_
  refine s_iconst (n := 2) C (by decide +kernel) (by decide) ?_
  refine s_icmp_eq (off := 5) (tgt := 21) C (by decide +kernel) (by decide) (b_X10_hearInstalled_21 C) ?_
  exact (b_X10_hearInstalled_19 C)
theorem ms_X10_hearInstalled {Z : Zt} {d : Nat} {S : Sh} {μ : Mi} {ρ : Mr} {Rp : RT} (a0 : Nat) (a1 : Nat) (a2 : Nat) (h : ∀ G : Nat → PT, w_X10_hearInstalled_0 (MS Z (d + 3)) G Rp [.ref a0, .ref a1, .ref a2, .null] [] S (0, 0) μ ρ) : MS Z (d + 4) jX10_hearInstalled [.ref a0, .ref a1, .ref a2] S μ ρ Rp :=
  MS_of [.ref a0, .ref a1, .ref a2, .null] (by decide +kernel) rfl rfl (Nat.le_of_ble_eq_true rfl) rfl (fun p e R s m args below meth c C => b_X10_hearInstalled_0 C _ _ _ _ _ _ (h _ ))
def F_X10_hearInstalled : FT := fun As S μ ρ k => match As with
  | [.ref a, .ref x, .ref q] => S.2 a = (10, 6) ∧ ∃ (s f : Nat) (A g : Rw), s < 5 ∧ x = a + 130 + 8 * s ∧ RR A a S μ ρ ∧ Mg A g a q μ ρ s f ∧ hK A s ∧ rg (g 4) 0 120 ∧ ∀ (μ' : Mi) (A' : Rw) (td : Int32), RR A' a S μ' ρ → Ot a μ μ' → (td = 0 ∨ μ' q = μ q) → finQ A' s f (nI f) td (if g 2 = A (514 * s + 1) ∧ A (514 * s + 3) = 2 then qInstalled A (g 8) s f (g 4) else A) → k (some (.int td)) μ'
  | _ => False
theorem r_X10_hearInstalled {As S μ ρ k} (h : F_X10_hearInstalled As S μ ρ k) : ∃ a As', As = Value.ref a :: As' ∧ S.2 a = (10, 6) := by
  unfold F_X10_hearInstalled at h
  split at h
  · exact ⟨_, _, rfl, h.1⟩
  · exact h.elim
set_option maxHeartbeats 1000000 in
theorem f_X10_hearInstalled {Z : Zt} {d : Nat} {As : List Value} {S : Sh} {μ : Mi} {ρ : Mr} {Rp : RT} (h : F_X10_hearInstalled As S μ ρ (fun r μ' => Rp r S μ' ρ)) : MS Z (d + 4) jX10_hearInstalled As S μ ρ Rp := by
  unfold F_X10_hearInstalled at h
  split at h
  · rename_i a x q
    obtain ⟨a, hNa⟩ : ∃ n : Nat, n = a := ⟨a, rfl⟩
    subst hNa
    obtain ⟨q, hNq⟩ : ∃ n : Nat, n = q := ⟨q, rfl⟩
    subst hNq
    obtain ⟨h1, s, f, A, g, hs, rfl, hR, hM, hK0, hg4, h⟩ := h
    refine ms_X10_hearInstalled _ _ _ (fun G => ?_)
    have hW := RR_W hR
    obtain ⟨x1, x2, -⟩ := W_st hW hs
    obtain ⟨⟨jq, jq1, jq2⟩, m1, m2, m3⟩ := Mg_at hM hW
    obtain ⟨hq60, hMs, hg0, hf, hg1, hsf⟩ := hM
    have hSt := RR_st hR hs
    have hA := hSt.1
    unfold StA at hA
    have hmem := St_mem hSt
    rw [hSt.2.2.2.2.2.1, hSt.2.2.2.2.2.2] at hmem
    have no : ¬ (g 2 = A (514 * s + 1) ∧ A (514 * s + 3) = 2) → Rp (some (.int 0)) S μ ρ := fun c => h μ A 0 hR (fun _ _ => rfl) (Or.inr rfl) (by rw [if_neg c]; exact Or.inl ⟨rfl, rfl⟩)
    have x2' := x2
    unfold StS at x2
    have hears : ∀ W : Mi → Prop, (∀ ν, RR (qHears A (g 8) s f) a S ν ρ → (∀ y : Nat, y ≠ a + 130 + 8 * s + 7 → ν y = μ y) → W ν) →
        ((¬ A (514 * s + 11) = 1 ∨ g 8 < A (514 * s + 14)) → W μ) ∧ (¬ (¬ A (514 * s + 11) = 1 ∨ g 8 < A (514 * s + 14)) → (cMaj (qMem A s).1 (qMem A s).2.1 (A (514 * s + 15) ||| (1 : Int32) <<< (nI f &&& 31)) → rg (upI μ (a + 130 + 8 * s + 7) 3 (A (514 * s + 15) ||| (1 : Int32) <<< (nI f &&& 31)) (a + 130 + 8 * s + 7) 1) 0 3 ∧ W (cAns (upI μ (a + 130 + 8 * s + 7) 3 (A (514 * s + 15) ||| (1 : Int32) <<< (nI f &&& 31))) (a + 130 + 8 * s))) ∧ (¬ cMaj (qMem A s).1 (qMem A s).2.1 (A (514 * s + 15) ||| (1 : Int32) <<< (nI f &&& 31)) → W (upI μ (a + 130 + 8 * s + 7) 3 (A (514 * s + 15) ||| (1 : Int32) <<< (nI f &&& 31))))) := by
      intro W hk
      have r15 := RR_s15 (v := A (514 * s + 15) ||| (1 : Int32) <<< (nI f &&& 31)) hs hR
      have hm15 := qMem_15 (A := A) (v := A (514 * s + 15) ||| (1 : Int32) <<< (nI f &&& 31)) hs
      have hc12 : up A (514 * s + 15) (A (514 * s + 15) ||| (1 : Int32) <<< (nI f &&& 31)) (514 * s + 12) = A (514 * s + 12) := up_ne (by omega)
      unfold qHears at hk
      refine ⟨fun c => ?_, fun c => ⟨fun c2 => ⟨?_, ?_⟩, fun c2 => ?_⟩⟩
      · rw [if_pos c] at hk
        exact hk μ hR (fun _ _ => rfl)
      · rw [(RR_st r15 hs).1.2.2.2.2.2.2.2.2.2.2.2.2.2.1, hc12]
        exact hK0.1.2.2.2.1
      · rw [if_neg c] at hk
        unfold qAnsRead cMaj at *
        rw [hm15, up_at, if_pos c2] at hk
        exact hk _ (RR_ans hs r15 (by rw [hc12]; exact hK0.1.2.2.2.1)) (fun y hy => by rw [cAns_ne hy, upI_ne hy])
      · rw [if_neg c] at hk
        unfold qAnsRead cMaj at *
        rw [hm15, up_at, if_neg c2] at hk
        exact hk _ r15 (fun y hy => upI_ne hy)
    have qh := fun i a => qHears_out (A := A) (m8 := g 8) (s := s) (f := f) (i := i) a
    have hn24 : ∀ t, t < 5 → rg (A (514 * s + 24 + t)) 0 121 := hK0.1.1.1.2.2.2
    have f40 : g 2 = A (514 * s + 1) ∧ A (514 * s + 3) = 2 → ∀ ν, RR (qHears A (g 8) s f) a S ν ρ → (∀ y : Nat, y ≠ a + 130 + 8 * s + 7 → ν y = μ y) → w_X10_hearInstalled_40 (MS Z (d + 3)) G Rp [.ref a, .ref (a + 130 + 8 * s), .ref q, .null] [] S (0, 0) ν ρ := by
      intro c ν r o
      have eq : ν q = μ q := o q (by omega)
      have er : qHears A (g 8) s f (514 * s + 3) = 2 := by rw [qh _ (by omega)]; exact c.2
      have hN := r.2 s hs er f hf
      have hif : inb (nI f) 5 := inb_nI hf (by decide)
      have ha : agOK (qHears A (g 8) s f) s := agOK_hears hs hK0.1.1
      have hhs : rg (qHears A (g 8) s f (514 * s + 29 + f)) 0 120 := by rw [qh _ (by omega)]; exact hK0.1.2.2.2.2.1 f hf
      have hnx : rg (qHears A (g 8) s f (514 * s + 24 + f)) 0 121 := by rw [qh _ (by omega)]; exact hn24 f hf
      have hagr : agR (qHears A (g 8) s f) s := agR_of hK0.2.1 (qh _ (by omega)) (qh _ (by omega)) (qh _ (by omega))
      have htm : rg (qHears A (g 8) s f (514 * s + 1)) 1 200 := by rw [qh _ (by omega)]; exact ⟨hK0.2.2 c.2, hK0.1.2.2.1.2⟩
      rw [if_pos c] at h
      unfold qInstalled at h
      generalize qHears A (g 8) s f = C at *
      simp only [w_X10_hearInstalled_40, w_X10_hearInstalled_49, tAload, tIload, nth, tGetI, tGetR, tConst, tLconst, tBin, tUn, tI2l, tAld, tAldR, tAlen, tIast, tBast, tZast, tAast, tIret, tZret, tVret, tAret, tIf, tIf2, tGoto, tIstore, tAstore, sset, tIinc, tDup, tDup2, tPop, tPutI, tPutZ, tPutR, tCallV, tCallS, popN, tFn, tCopy, tMax, tMin, tSw, swc, tRem, tObjI, Option.toList, List.nil_append, List.cons_append, okR, true_and, and_true, true_or, or_true, Nat.zero_le, ne_eq, not_false_eq_true, Nat.reduceEqDiff, h1, x1, x2, m1, eq, hMs.1, hg0, hif, Decidable.not_not]
      rw [nI_clamp (by omega)]
      simp (disch := omega) only [upI_at, upI_ne]
      rw [hN.1, hN.2, max_gt, max_gt]
      refine ⟨fun c2 => ?_, fun c2 => ?_⟩
      · have c3 : ¬ g 4 = 0 := fun z => by rw [z] at c2; exact absurd c2 (by decide)
        refine h _ _ 24 (RR_nx hs hf (RR_hs hs hf r)) (fun y hy => ?_) (Or.inr ?_) (Or.inr (Or.inr (Or.inr (Or.inr ⟨rfl, ?_, ⟨?_, agOK_next hs hf (agOK_has hs hf ha) ?_, agR_of hagr ?_ ?_ ?_, ?_⟩, hsf, rfl, hf⟩))))
        · rw [upI_ne (by omega), upI_ne (by omega)]; exact o y (by omega)
        · rw [upI_ne (by omega), upI_ne (by omega)]; exact eq
        · rw [if_neg c3]
          show qGoesOn (up _ _ (gt (up _ _ _ _) (up _ _ _ _ + 1))) s f = _
          rw [up_at, up_ne (by omega)]
        · rw [up_ne (by omega), up_ne (by omega)]; exact er
        · refine gt_rg hnx ?_
          exact (rg_1 (gt_rg hhs hg4.2) (by decide) (by decide)).2
        · rw [up_ne (by omega), up_ne (by omega)]
        · rw [up_ne (by omega), up_ne (by omega)]
        · rw [up_ne (by omega), up_ne (by omega)]
        · rw [up_ne (by omega), up_ne (by omega)]; exact htm
      · have c3 : g 4 = 0 := Int32.le_antisymm (Int32.not_lt.mp c2) (by rw [Int32.le_iff_toInt_le]; exact hg4.1)
        refine h ν _ 0 r (fun y hy => o y (by omega)) (Or.inl rfl) (Or.inl ⟨rfl, ?_⟩)
        rw [if_pos c3]
    simp only [w_X10_hearInstalled_0, w_X10_hearInstalled_19, w_X10_hearInstalled_21, tAload, tIload, nth, tGetI, tGetR, tConst, tLconst, tBin, tUn, tI2l, tAld, tAldR, tAlen, tIast, tBast, tZast, tAast, tIret, tZret, tVret, tAret, tIf, tIf2, tGoto, tIstore, tAstore, sset, tIinc, tDup, tDup2, tPop, tPutI, tPutZ, tPutR, tCallV, tCallS, popN, tFn, tCopy, tMax, tMin, tSw, swc, tRem, tObjI, Option.toList, List.nil_append, List.cons_append, okR, true_and, and_true, true_or, or_true, Nat.zero_le, ne_eq, not_false_eq_true, Nat.reduceEqDiff, F_X7_answersRead, F_X7_answerRead, x1, x2', m1, hA, hMs.1, hg0, hSt.2.2.2.2.2.1, hSt.2.2.2.2.2.2, hmem, Decidable.not_not]
    refine ⟨fun c => no (fun z => c z.1), fun c => ⟨fun c2 => ?_, fun c2 => no (fun z => c2 z.2)⟩⟩
    obtain ⟨w1, w2⟩ := hears _ (f40 ⟨c, c2⟩)
    exact ⟨fun z => ⟨fun _ => w1 z, fun z => absurd trivial z⟩, fun z => ⟨fun z2 => ⟨fun z3 => absurd z3 (by decide), fun _ => (w2 z).1 z2⟩, fun z2 => ⟨fun _ => (w2 z).2 z2, fun z => absurd trivial z⟩⟩⟩
  · exact h.elim
