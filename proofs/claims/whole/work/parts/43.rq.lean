/-! ===== the reference: takes ===== -/
/-- a TAKE is in range -/
def tkOK (g : Rw) : Prop := rg (g 4) 0 120 ∧ rg (g 6) 0 3 ∧ (g 4).toInt + (g 6).toInt ≤ 120 ∧ rg (g 7) 0 120 ∧ ∀ k, k < (g 6).toNatClampNeg → (g (9 + 4 * k + 1) = 1 ∨ g (9 + 4 * k + 1) = 2) → rg (g (9 + 4 * k + 2)) 0 3
theorem agOK_cut {A : Rw} {s l : Nat} (hs : s < 5) (ha : agOK A s) (hl : (l : Int) ≤ (A (514 * s + 4)).toInt) : agOK (up A (514 * s + 4) (nI l)) s := by
  obtain ⟨⟨k1, k2, k3, k4⟩, hg, hop⟩ := ha
  obtain ⟨l0, el, el0, -, el1⟩ := rg_ex k2
  rw [el, nI_toInt el0] at hl
  refine ⟨⟨by rw [up_ne (by omega)]; exact k1, by rw [up_at, rg_nI (by omega)]; omega, by rw [up_ne (by omega)]; exact k3, fun t ht => by rw [up_ne (by omega)]; exact k4 t ht⟩, by rw [up_ne (by omega)]; exact hg, ?_⟩
  rw [up_at, up_ne (by omega), nI_clamp (by omega)]
  rw [el, nI_clamp el0] at hop
  intro p p1 p2
  rw [up_ne (by omega), up_ne (by omega)]
  exact hop p p1 (by omega)
/-- what the loop keeps: the log is well, and has what was taken so far -/
def tkI (A : Rw) (s n : Nat) : Prop := agOK A s ∧ (A (514 * s + 5)).toInt ≤ (A (514 * s + 4)).toInt ∧ (n : Int) ≤ (A (514 * s + 4)).toInt
theorem tk1_ok {A g : Rw} {s k b : Nat} (hs : s < 5) (hb : g 4 = nI b) (hb1 : b + k + 1 ≤ 120) (hg : (g (9 + 4 * k + 1) = 1 ∨ g (9 + 4 * k + 1) = 2) → rg (g (9 + 4 * k + 2)) 0 3) (h : tkI A s (b + k)) : tkI (qTk1 A g s k) s (b + k + 1) := by
  obtain ⟨ha, h1, h2⟩ := h
  obtain ⟨l, el, el0, -, el1⟩ := rg_ex ha.1.2.1
  obtain ⟨sn, es, es0, -, es1⟩ := rg_ex ha.1.2.2.1
  rw [el, nI_toInt el0, es, nI_toInt es0] at h1
  rw [el, nI_toInt el0] at h2
  unfold qTk1
  rw [hb, nI_clamp (by omega)]
  by_cases c1 : nI (b + 1 + k) ≤ A (514 * s + 5)
  · rw [es, nI_leI (by omega) es0] at c1
    simp only [es, nI_leI (show b + 1 + k < 2 ^ 31 by omega) es0, if_pos c1]
    refine ⟨ha, by rw [el, nI_toInt el0, es, nI_toInt es0]; exact h1, by rw [el, nI_toInt el0]; omega⟩
  · simp only [if_neg c1]
    rw [es, nI_leI (by omega) es0] at c1
    have fin : ∀ (B : Rw) (m : Nat), agOK B s → B (514 * s + 5) = nI sn → B (514 * s + 4) = nI m → b + k ≤ m → m < 2 ^ 31 → sn ≤ m → tkI (if B (514 * s + 4) < nI (b + 1 + k) then qPut B s (g (9 + 4 * k)) (g (9 + 4 * k + 1)) (g (9 + 4 * k + 2)) (g (9 + 4 * k + 3)) else B) s (b + k + 1) := by
      intro B m hB e5 e4 hm hm0 hm1
      by_cases c2 : m < b + 1 + k
      · rw [if_pos (by rw [e4, nI_ltI hm0 (by omega)]; exact c2)]
        refine ⟨agOK_put hs hB (by rw [e4, rg_nI hm0]; omega) hg, ?_, ?_⟩
        · rw [qPut_4 e4, qPut_out e4 hm0 (by omega) (by omega), e5, nI_toInt es0, nI_toInt (by omega)]; omega
        · rw [qPut_4 e4, nI_toInt (by omega)]; omega
      · rw [if_neg (by rw [e4, nI_ltI hm0 (by omega)]; exact c2)]
        exact ⟨hB, by rw [e4, e5, nI_toInt es0, nI_toInt hm0]; omega, by rw [e4, nI_toInt hm0]; omega⟩
    by_cases c3 : nI (b + 1 + k) ≤ A (514 * s + 4) ∧ ¬ A (514 * s + 30 + 4 * (b + 1 + k)) = g (9 + 4 * k)
    · simp only [if_pos c3]
      have c4 := c3.1
      rw [el, nI_leI (by omega) el0] at c4
      exact fin _ (b + 1 + k - 1) (agOK_cut hs ha (by rw [el, nI_toInt el0]; omega)) (by rw [up_ne (by omega)]; exact es) up_at (by omega) (by omega) (by omega)
    · simp only [if_neg c3]
      exact fin _ l ha es el (by omega) el0 (by omega)
theorem tks_ok {g : Rw} {s b : Nat} (hs : s < 5) (hb : g 4 = nI b) (hb0 : b < 2 ^ 31) (hg : tkOK g) : ∀ (n k : Nat) (A : Rw), n + k ≤ (g 6).toNatClampNeg → tkI A s (b + k) → tkI (tksF g s n k A) s (b + k + n) := by
  obtain ⟨g4, g6, g46, g7, gb⟩ := hg
  obtain ⟨m, em, em0, -, em1⟩ := rg_ex g6
  rw [em, nI_toInt em0, hb, nI_toInt hb0] at g46
  intro n
  induction n with
  | zero => intro k A _ h; exact h
  | succ n ih =>
    intro k A hk h
    rw [em, nI_clamp em0] at hk ih gb
    show tkI (tksF g s n (k + 1) (qTk1 A g s k)) s (b + k + (n + 1))
    have hb2 : b + k ≤ 120 := by
      have h3 := h.2.2
      have h4 := h.1.1.2.1.2
      omega
    have := ih (k + 1) (qTk1 A g s k) (by omega) (tk1_ok hs hb (by omega) (gb k (by omega)) h)
    rw [show b + k + (n + 1) = b + (k + 1) + n by omega]
    exact this
def w_X12_takes_250 (M : CT) (G : Nat → PT) (Rp : RT) : PT := tAload 0 <| tIload 1 <| tAload 0 <| tGetR 12 27 12 <| tConst 7 <| tAld 20 <| tIload 4 <| tIload 5 <| tBin (fun x y => x + y) <| tFn 2 F_X12_lesser <| tFn 3 F_X12_does <| tAload 0 <| tIload 1 <| tIload 2 <| tConst 1 <| tIload 4 <| tIload 5 <| tBin (fun x y => x + y) <| tFn 5 F_X12_answers <| tVret Rp
def w_X12_takes_244 (M : CT) (G : Nat → PT) (Rp : RT) : PT := tIinc 6 1 <| tGoto (G 116)
def w_X12_takes_194 (M : CT) (G : Nat → PT) (Rp : RT) : PT := tIload 7 <| tAload 0 <| tIload 1 <| tConst 4 <| tFn 3 F_X12_of <| tIf2 (fun x y => x ≤ y) (w_X12_takes_244 M G Rp) <| tAload 0 <| tIload 1 <| tAload 0 <| tGetR 12 27 12 <| tIload 8 <| tAld 20 <| tAload 0 <| tGetR 12 27 12 <| tIload 8 <| tConst 1 <| tBin (fun x y => x + y) <| tAld 20 <| tAload 0 <| tGetR 12 27 12 <| tIload 8 <| tConst 2 <| tBin (fun x y => x + y) <| tAld 20 <| tAload 0 <| tGetR 12 27 12 <| tIload 8 <| tConst 3 <| tBin (fun x y => x + y) <| tAld 20 <| tFn 6 F_X12_comesToLog <| w_X12_takes_244 M G Rp
def w_X12_takes_155 (M : CT) (G : Nat → PT) (Rp : RT) : PT := tIload 7 <| tAload 0 <| tIload 1 <| tConst 4 <| tFn 3 F_X12_of <| tIf2 (fun x y => y < x) (w_X12_takes_194 M G Rp) <| tAload 0 <| tIload 1 <| tIload 7 <| tConst 0 <| tFn 4 F_X12_ofEntry <| tAload 0 <| tGetR 12 27 12 <| tIload 8 <| tAld 20 <| tIf2 (fun x y => x = y) (w_X12_takes_194 M G Rp) <| tAload 0 <| tIload 1 <| tConst 4 <| tIload 7 <| tConst 1 <| tBin (fun x y => x - y) <| tFn 4 F_X12_lays <| w_X12_takes_194 M G Rp
def w_X12_takes_116 (M : CT) (G : Nat → PT) (Rp : RT) : PT := tIload 6 <| tIload 5 <| tIf2 (fun x y => y ≤ x) (w_X12_takes_250 M G Rp) <| tIload 4 <| tConst 1 <| tBin (fun x y => x + y) <| tIload 6 <| tBin (fun x y => x + y) <| tIstore 7 <| tConst 9 <| tConst 4 <| tIload 6 <| tBin (fun x y => x * y) <| tBin (fun x y => x + y) <| tIstore 8 <| tIload 7 <| tAload 0 <| tIload 1 <| tConst 5 <| tFn 3 F_X12_of <| tIf2 (fun x y => y < x) (w_X12_takes_155 M G Rp) <| tGoto (w_X12_takes_244 M G Rp)
def w_X12_takes_104 (M : CT) (G : Nat → PT) (Rp : RT) : PT := tAload 0 <| tGetR 12 27 12 <| tConst 6 <| tAld 20 <| tIstore 5 <| tConst 0 <| tIstore 6 <| G 116
def w_X12_takes_65 (M : CT) (G : Nat → PT) (Rp : RT) : PT := tIload 4 <| tAload 0 <| tIload 1 <| tConst 5 <| tFn 3 F_X12_of <| tIf2 (fun x y => x < y) (w_X12_takes_104 M G Rp) <| tAload 0 <| tIload 1 <| tIload 4 <| tFn 3 F_X12_termAt <| tAload 0 <| tGetR 12 27 12 <| tConst 5 <| tAld 20 <| tIf2 (fun x y => x = y) (w_X12_takes_104 M G Rp) <| tAload 0 <| tIload 1 <| tIload 2 <| tConst 0 <| tIload 4 <| tConst 1 <| tBin (fun x y => x - y) <| tFn 5 F_X12_answers <| tVret Rp
def w_X12_takes_32 (M : CT) (G : Nat → PT) (Rp : RT) : PT := tAload 0 <| tGetR 12 27 12 <| tConst 4 <| tAld 20 <| tIstore 4 <| tIload 4 <| tAload 0 <| tIload 1 <| tConst 4 <| tFn 3 F_X12_of <| tIf2 (fun x y => x ≤ y) (w_X12_takes_65 M G Rp) <| tAload 0 <| tIload 1 <| tIload 2 <| tConst 0 <| tAload 0 <| tIload 1 <| tConst 4 <| tFn 3 F_X12_of <| tFn 5 F_X12_answers <| tVret Rp
def w_X12_takes_18 (M : CT) (G : Nat → PT) (Rp : RT) : PT := tAload 0 <| tIload 1 <| tFn 2 F_X12_isLeader <| tIf (fun x => x ≠ 0) (w_X12_takes_32 M G Rp) <| tAload 0 <| tIload 1 <| tConst 0 <| tFn 3 F_X12_plays <| w_X12_takes_32 M G Rp
def w_X12_takes_0 (M : CT) (G : Nat → PT) (Rp : RT) : PT := tIload 3 <| tIf (fun x => x ≠ 0) (w_X12_takes_18 M G Rp) <| tAload 0 <| tIload 1 <| tIload 2 <| tConst 0 <| tAload 0 <| tIload 1 <| tConst 4 <| tFn 3 F_X12_of <| tFn 5 F_X12_answers <| tVret Rp
set_option maxRecDepth 20000 in
theorem b_X12_takes_250 {Z : Zt} {d : Nat} {p : Program} {e : Env} {R : Room} {s : State} {m : MethodId} {args : Array Value} {below : List Frame} {meth : Method} {c : Code} {Rp : RT} (C : Cx Z (d + 4) jX12_takes RX12 p R s m args meth c) : Sd Z jX12_takes p e R s m args below meth c (MQ below (QcS Z Rp) args s 0 0 (fun a => Z.2.2.1 < a)) 250 (w_X12_takes_250 (MS Z (d + 4)) (Gw Z 9 p e R s m args below meth c (MQ below (QcS Z Rp) args s 0 0 (fun a => Z.2.2.1 < a))) Rp) := by
  unfold w_X12_takes_250
  refine s_aload_n (k := 0) C (by decide +kernel) ?_
  refine s_iload_n (k := 1) C (by decide +kernel) ?_
  refine s_aload_n (k := 0) C (by decide +kernel) ?_
  refine s_getR C w_6_99 (by decide +kernel) rfl ?_
  refine s_bipush (n := 7) C (by decide +kernel) (by decide) ?_
  refine s_iald C (by decide +kernel) ?_
  refine s_iload (k := 4) C (by decide +kernel) ?_
  refine s_iload (k := 5) C (by decide +kernel) ?_
  refine s_iadd C (by decide +kernel) ?_
  refine s_fnS C (j2 := jX12_lesser) (by decide +kernel) rfl w_7_55 w_7_56 w_1_13 w_7_57 (by decide +kernel) (fun _ _ _ _ _ h => f_X12_lesser h) ?_
  refine s_fnV C (j2 := jX12_does) (cl := 12) (nf := 27) rfl rfl (by decide +kernel) rfl w_7_69 w_7_71 w_p4_15 w_1_13 w_7_72 (by decide +kernel) (fun _ _ _ _ _ h => f_X12_does h) (fun _ _ _ _ _ h => r_X12_does h) ?_
  refine s_aload_n (k := 0) C (by decide +kernel) ?_
  refine s_iload_n (k := 1) C (by decide +kernel) ?_
  refine s_iload_n (k := 2) C (by decide +kernel) ?_
  refine s_iconst (n := 1) C (by decide +kernel) (by decide) ?_
  refine s_iload (k := 4) C (by decide +kernel) ?_
  refine s_iload (k := 5) C (by decide +kernel) ?_
  refine s_iadd C (by decide +kernel) ?_
  refine s_fnV C (j2 := jX12_answers) (cl := 12) (nf := 27) rfl rfl (by decide +kernel) rfl w_7_200 w_7_202 w_p6_4 w_1_13 w_7_203 (by decide +kernel) (fun _ _ _ _ _ h => f_X12_answers h) (fun _ _ _ _ _ h => r_X12_answers h) ?_
  exact s_vret C rfl (by decide +kernel)
set_option maxRecDepth 20000 in
theorem b_X12_takes_244 {Z : Zt} {d : Nat} {p : Program} {e : Env} {R : Room} {s : State} {m : MethodId} {args : Array Value} {below : List Frame} {meth : Method} {c : Code} {Rp : RT} (C : Cx Z (d + 4) jX12_takes RX12 p R s m args meth c) : Sd Z jX12_takes p e R s m args below meth c (MQ below (QcS Z Rp) args s 0 0 (fun a => Z.2.2.1 < a)) 244 (w_X12_takes_244 (MS Z (d + 4)) (Gw Z 9 p e R s m args below meth c (MQ below (QcS Z Rp) args s 0 0 (fun a => Z.2.2.1 < a))) Rp) := by
  unfold w_X12_takes_244
  refine s_iinc (n := 1) C (by decide +kernel) (by decide) ?_
  exact s_goto (off := (-131)) (tgt := 116) C (by decide +kernel) (by decide) (fun _ _ _ _ _ _ h => h)
set_option maxRecDepth 20000 in
theorem b_X12_takes_194 {Z : Zt} {d : Nat} {p : Program} {e : Env} {R : Room} {s : State} {m : MethodId} {args : Array Value} {below : List Frame} {meth : Method} {c : Code} {Rp : RT} (C : Cx Z (d + 4) jX12_takes RX12 p R s m args meth c) : Sd Z jX12_takes p e R s m args below meth c (MQ below (QcS Z Rp) args s 0 0 (fun a => Z.2.2.1 < a)) 194 (w_X12_takes_194 (MS Z (d + 4)) (Gw Z 9 p e R s m args below meth c (MQ below (QcS Z Rp) args s 0 0 (fun a => Z.2.2.1 < a))) Rp) := by
  unfold w_X12_takes_194
  refine s_iload (k := 7) C (by decide +kernel) ?_
  refine s_aload_n (k := 0) C (by decide +kernel) ?_
  refine s_iload_n (k := 1) C (by decide +kernel) ?_
  refine s_iconst (n := 4) C (by decide +kernel) (by decide) ?_
  refine s_fnV C (j2 := jX12_of) (cl := 12) (nf := 27) rfl rfl (by decide +kernel) rfl w_6_220 w_6_222 w_p3_11 w_1_13 w_6_223 (by decide +kernel) (fun _ _ _ _ _ h => f_X12_of h) (fun _ _ _ _ _ h => r_X12_of h) ?_
  refine s_icmp_le (off := 42) (tgt := 244) C (by decide +kernel) (by decide) (b_X12_takes_244 C) ?_
  refine s_aload_n (k := 0) C (by decide +kernel) ?_
  refine s_iload_n (k := 1) C (by decide +kernel) ?_
  refine s_aload_n (k := 0) C (by decide +kernel) ?_
  refine s_getR C w_6_99 (by decide +kernel) rfl ?_
  refine s_iload (k := 8) C (by decide +kernel) ?_
  refine s_iald C (by decide +kernel) ?_
  refine s_aload_n (k := 0) C (by decide +kernel) ?_
  refine s_getR C w_6_99 (by decide +kernel) rfl ?_
  refine s_iload (k := 8) C (by decide +kernel) ?_
  refine s_iconst (n := 1) C (by decide +kernel) (by decide) ?_
  refine s_iadd C (by decide +kernel) ?_
  refine s_iald C (by decide +kernel) ?_
  refine s_aload_n (k := 0) C (by decide +kernel) ?_
  refine s_getR C w_6_99 (by decide +kernel) rfl ?_
  refine s_iload (k := 8) C (by decide +kernel) ?_
  refine s_iconst (n := 2) C (by decide +kernel) (by decide) ?_
  refine s_iadd C (by decide +kernel) ?_
  refine s_iald C (by decide +kernel) ?_
  refine s_aload_n (k := 0) C (by decide +kernel) ?_
  refine s_getR C w_6_99 (by decide +kernel) rfl ?_
  refine s_iload (k := 8) C (by decide +kernel) ?_
  refine s_iconst (n := 3) C (by decide +kernel) (by decide) ?_
  refine s_iadd C (by decide +kernel) ?_
  refine s_iald C (by decide +kernel) ?_
  refine s_fnV C (j2 := jX12_comesToLog) (cl := 12) (nf := 27) rfl rfl (by decide +kernel) rfl w_7_43 w_7_45 w_p4_10 w_1_13 w_7_46 (by decide +kernel) (fun _ _ _ _ _ h => f_X12_comesToLog h) (fun _ _ _ _ _ h => r_X12_comesToLog h) ?_
  exact (b_X12_takes_244 C)
set_option maxRecDepth 20000 in
theorem b_X12_takes_155 {Z : Zt} {d : Nat} {p : Program} {e : Env} {R : Room} {s : State} {m : MethodId} {args : Array Value} {below : List Frame} {meth : Method} {c : Code} {Rp : RT} (C : Cx Z (d + 4) jX12_takes RX12 p R s m args meth c) : Sd Z jX12_takes p e R s m args below meth c (MQ below (QcS Z Rp) args s 0 0 (fun a => Z.2.2.1 < a)) 155 (w_X12_takes_155 (MS Z (d + 4)) (Gw Z 9 p e R s m args below meth c (MQ below (QcS Z Rp) args s 0 0 (fun a => Z.2.2.1 < a))) Rp) := by
  unfold w_X12_takes_155
  refine s_iload (k := 7) C (by decide +kernel) ?_
  refine s_aload_n (k := 0) C (by decide +kernel) ?_
  refine s_iload_n (k := 1) C (by decide +kernel) ?_
  refine s_iconst (n := 4) C (by decide +kernel) (by decide) ?_
  refine s_fnV C (j2 := jX12_of) (cl := 12) (nf := 27) rfl rfl (by decide +kernel) rfl w_6_220 w_6_222 w_p3_11 w_1_13 w_6_223 (by decide +kernel) (fun _ _ _ _ _ h => f_X12_of h) (fun _ _ _ _ _ h => r_X12_of h) ?_
  refine s_icmp_gt (off := 31) (tgt := 194) C (by decide +kernel) (by decide) (b_X12_takes_194 C) ?_
  refine s_aload_n (k := 0) C (by decide +kernel) ?_
  refine s_iload_n (k := 1) C (by decide +kernel) ?_
  refine s_iload (k := 7) C (by decide +kernel) ?_
  refine s_iconst (n := 0) C (by decide +kernel) (by decide) ?_
  refine s_fnV C (j2 := jX12_ofEntry) (cl := 12) (nf := 27) rfl rfl (by decide +kernel) rfl w_6_228 w_6_230 w_p3_13 w_1_13 w_6_231 (by decide +kernel) (fun _ _ _ _ _ h => f_X12_ofEntry h) (fun _ _ _ _ _ h => r_X12_ofEntry h) ?_
  refine s_aload_n (k := 0) C (by decide +kernel) ?_
  refine s_getR C w_6_99 (by decide +kernel) rfl ?_
  refine s_iload (k := 8) C (by decide +kernel) ?_
  refine s_iald C (by decide +kernel) ?_
  refine s_icmp_eq (off := 13) (tgt := 194) C (by decide +kernel) (by decide) (b_X12_takes_194 C) ?_
  refine s_aload_n (k := 0) C (by decide +kernel) ?_
  refine s_iload_n (k := 1) C (by decide +kernel) ?_
  refine s_iconst (n := 4) C (by decide +kernel) (by decide) ?_
  refine s_iload (k := 7) C (by decide +kernel) ?_
  refine s_iconst (n := 1) C (by decide +kernel) (by decide) ?_
  refine s_isub C (by decide +kernel) ?_
  refine s_fnV C (j2 := jX12_lays) (cl := 12) (nf := 27) rfl rfl (by decide +kernel) rfl w_6_82 w_6_84 w_p3_4 w_1_13 w_6_85 (by decide +kernel) (fun _ _ _ _ _ h => f_X12_lays h) (fun _ _ _ _ _ h => r_X12_lays h) ?_
  exact (b_X12_takes_194 C)
set_option maxRecDepth 20000 in
theorem b_X12_takes_116 {Z : Zt} {d : Nat} {p : Program} {e : Env} {R : Room} {s : State} {m : MethodId} {args : Array Value} {below : List Frame} {meth : Method} {c : Code} {Rp : RT} (C : Cx Z (d + 4) jX12_takes RX12 p R s m args meth c) : Sd Z jX12_takes p e R s m args below meth c (MQ below (QcS Z Rp) args s 0 0 (fun a => Z.2.2.1 < a)) 116 (w_X12_takes_116 (MS Z (d + 4)) (Gw Z 9 p e R s m args below meth c (MQ below (QcS Z Rp) args s 0 0 (fun a => Z.2.2.1 < a))) Rp) := by
  unfold w_X12_takes_116
  refine s_iload (k := 6) C (by decide +kernel) ?_
  refine s_iload (k := 5) C (by decide +kernel) ?_
  refine s_icmp_ge (off := 130) (tgt := 250) C (by decide +kernel) (by decide) (b_X12_takes_250 C) ?_
  refine s_iload (k := 4) C (by decide +kernel) ?_
  refine s_iconst (n := 1) C (by decide +kernel) (by decide) ?_
  refine s_iadd C (by decide +kernel) ?_
  refine s_iload (k := 6) C (by decide +kernel) ?_
  refine s_iadd C (by decide +kernel) ?_
  refine s_istore (k := 7) C (by decide +kernel) ?_
  refine s_bipush (n := 9) C (by decide +kernel) (by decide) ?_
  refine s_iconst (n := 4) C (by decide +kernel) (by decide) ?_
  refine s_iload (k := 6) C (by decide +kernel) ?_
  refine s_imul C (by decide +kernel) ?_
  refine s_iadd C (by decide +kernel) ?_
  refine s_istore (k := 8) C (by decide +kernel) ?_
  refine s_iload (k := 7) C (by decide +kernel) ?_
  refine s_aload_n (k := 0) C (by decide +kernel) ?_
  refine s_iload_n (k := 1) C (by decide +kernel) ?_
  refine s_iconst (n := 5) C (by decide +kernel) (by decide) ?_
  refine s_fnV C (j2 := jX12_of) (cl := 12) (nf := 27) rfl rfl (by decide +kernel) rfl w_6_220 w_6_222 w_p3_11 w_1_13 w_6_223 (by decide +kernel) (fun _ _ _ _ _ h => f_X12_of h) (fun _ _ _ _ _ h => r_X12_of h) ?_
  refine s_icmp_gt (off := 6) (tgt := 155) C (by decide +kernel) (by decide) (b_X12_takes_155 C) ?_
  exact s_goto (off := 92) (tgt := 244) C (by decide +kernel) (by decide) (b_X12_takes_244 C)
set_option maxRecDepth 20000 in
theorem b_X12_takes_104 {Z : Zt} {d : Nat} {p : Program} {e : Env} {R : Room} {s : State} {m : MethodId} {args : Array Value} {below : List Frame} {meth : Method} {c : Code} {Rp : RT} (C : Cx Z (d + 4) jX12_takes RX12 p R s m args meth c) : Sd Z jX12_takes p e R s m args below meth c (MQ below (QcS Z Rp) args s 0 0 (fun a => Z.2.2.1 < a)) 104 (w_X12_takes_104 (MS Z (d + 4)) (Gw Z 9 p e R s m args below meth c (MQ below (QcS Z Rp) args s 0 0 (fun a => Z.2.2.1 < a))) Rp) := by
  unfold w_X12_takes_104
  refine s_aload_n (k := 0) C (by decide +kernel) ?_
  refine s_getR C w_6_99 (by decide +kernel) rfl ?_
  refine s_bipush (n := 6) C (by decide +kernel) (by decide) ?_
  refine s_iald C (by decide +kernel) ?_
  refine s_istore (k := 5) C (by decide +kernel) ?_
  refine s_iconst (n := 0) C (by decide +kernel) (by decide) ?_
  refine s_istore (k := 6) C (by decide +kernel) ?_
  exact (fun _ _ _ _ _ _ h => h)
set_option maxRecDepth 20000 in
theorem b_X12_takes_65 {Z : Zt} {d : Nat} {p : Program} {e : Env} {R : Room} {s : State} {m : MethodId} {args : Array Value} {below : List Frame} {meth : Method} {c : Code} {Rp : RT} (C : Cx Z (d + 4) jX12_takes RX12 p R s m args meth c) : Sd Z jX12_takes p e R s m args below meth c (MQ below (QcS Z Rp) args s 0 0 (fun a => Z.2.2.1 < a)) 65 (w_X12_takes_65 (MS Z (d + 4)) (Gw Z 9 p e R s m args below meth c (MQ below (QcS Z Rp) args s 0 0 (fun a => Z.2.2.1 < a))) Rp) := by
  unfold w_X12_takes_65
  refine s_iload (k := 4) C (by decide +kernel) ?_
  refine s_aload_n (k := 0) C (by decide +kernel) ?_
  refine s_iload_n (k := 1) C (by decide +kernel) ?_
  refine s_iconst (n := 5) C (by decide +kernel) (by decide) ?_
  refine s_fnV C (j2 := jX12_of) (cl := 12) (nf := 27) rfl rfl (by decide +kernel) rfl w_6_220 w_6_222 w_p3_11 w_1_13 w_6_223 (by decide +kernel) (fun _ _ _ _ _ h => f_X12_of h) (fun _ _ _ _ _ h => r_X12_of h) ?_
  refine s_icmp_lt (off := 31) (tgt := 104) C (by decide +kernel) (by decide) (b_X12_takes_104 C) ?_
  refine s_aload_n (k := 0) C (by decide +kernel) ?_
  refine s_iload_n (k := 1) C (by decide +kernel) ?_
  refine s_iload (k := 4) C (by decide +kernel) ?_
  refine s_fnV C (j2 := jX12_termAt) (cl := 12) (nf := 27) rfl rfl (by decide +kernel) rfl w_7_23 w_7_25 w_p4_5 w_1_13 w_7_26 (by decide +kernel) (fun _ _ _ _ _ h => f_X12_termAt h) (fun _ _ _ _ _ h => r_X12_termAt h) ?_
  refine s_aload_n (k := 0) C (by decide +kernel) ?_
  refine s_getR C w_6_99 (by decide +kernel) rfl ?_
  refine s_iconst (n := 5) C (by decide +kernel) (by decide) ?_
  refine s_iald C (by decide +kernel) ?_
  refine s_icmp_eq (off := 15) (tgt := 104) C (by decide +kernel) (by decide) (b_X12_takes_104 C) ?_
  refine s_aload_n (k := 0) C (by decide +kernel) ?_
  refine s_iload_n (k := 1) C (by decide +kernel) ?_
  refine s_iload_n (k := 2) C (by decide +kernel) ?_
  refine s_iconst (n := 0) C (by decide +kernel) (by decide) ?_
  refine s_iload (k := 4) C (by decide +kernel) ?_
  refine s_iconst (n := 1) C (by decide +kernel) (by decide) ?_
  refine s_isub C (by decide +kernel) ?_
  refine s_fnV C (j2 := jX12_answers) (cl := 12) (nf := 27) rfl rfl (by decide +kernel) rfl w_7_200 w_7_202 w_p6_4 w_1_13 w_7_203 (by decide +kernel) (fun _ _ _ _ _ h => f_X12_answers h) (fun _ _ _ _ _ h => r_X12_answers h) ?_
  exact s_vret C rfl (by decide +kernel)
set_option maxRecDepth 20000 in
theorem b_X12_takes_32 {Z : Zt} {d : Nat} {p : Program} {e : Env} {R : Room} {s : State} {m : MethodId} {args : Array Value} {below : List Frame} {meth : Method} {c : Code} {Rp : RT} (C : Cx Z (d + 4) jX12_takes RX12 p R s m args meth c) : Sd Z jX12_takes p e R s m args below meth c (MQ below (QcS Z Rp) args s 0 0 (fun a => Z.2.2.1 < a)) 32 (w_X12_takes_32 (MS Z (d + 4)) (Gw Z 9 p e R s m args below meth c (MQ below (QcS Z Rp) args s 0 0 (fun a => Z.2.2.1 < a))) Rp) := by
  unfold w_X12_takes_32
  refine s_aload_n (k := 0) C (by decide +kernel) ?_
  refine s_getR C w_6_99 (by decide +kernel) rfl ?_
  refine s_iconst (n := 4) C (by decide +kernel) (by decide) ?_
  refine s_iald C (by decide +kernel) ?_
  refine s_istore (k := 4) C (by decide +kernel) ?_
  refine s_iload (k := 4) C (by decide +kernel) ?_
  refine s_aload_n (k := 0) C (by decide +kernel) ?_
  refine s_iload_n (k := 1) C (by decide +kernel) ?_
  refine s_iconst (n := 4) C (by decide +kernel) (by decide) ?_
  refine s_fnV C (j2 := jX12_of) (cl := 12) (nf := 27) rfl rfl (by decide +kernel) rfl w_6_220 w_6_222 w_p3_11 w_1_13 w_6_223 (by decide +kernel) (fun _ _ _ _ _ h => f_X12_of h) (fun _ _ _ _ _ h => r_X12_of h) ?_
  refine s_icmp_le (off := 17) (tgt := 65) C (by decide +kernel) (by decide) (b_X12_takes_65 C) ?_
  refine s_aload_n (k := 0) C (by decide +kernel) ?_
  refine s_iload_n (k := 1) C (by decide +kernel) ?_
  refine s_iload_n (k := 2) C (by decide +kernel) ?_
  refine s_iconst (n := 0) C (by decide +kernel) (by decide) ?_
  refine s_aload_n (k := 0) C (by decide +kernel) ?_
  refine s_iload_n (k := 1) C (by decide +kernel) ?_
  refine s_iconst (n := 4) C (by decide +kernel) (by decide) ?_
  refine s_fnV C (j2 := jX12_of) (cl := 12) (nf := 27) rfl rfl (by decide +kernel) rfl w_6_220 w_6_222 w_p3_11 w_1_13 w_6_223 (by decide +kernel) (fun _ _ _ _ _ h => f_X12_of h) (fun _ _ _ _ _ h => r_X12_of h) ?_
  refine s_fnV C (j2 := jX12_answers) (cl := 12) (nf := 27) rfl rfl (by decide +kernel) rfl w_7_200 w_7_202 w_p6_4 w_1_13 w_7_203 (by decide +kernel) (fun _ _ _ _ _ h => f_X12_answers h) (fun _ _ _ _ _ h => r_X12_answers h) ?_
  exact s_vret C rfl (by decide +kernel)
set_option maxRecDepth 20000 in
theorem b_X12_takes_18 {Z : Zt} {d : Nat} {p : Program} {e : Env} {R : Room} {s : State} {m : MethodId} {args : Array Value} {below : List Frame} {meth : Method} {c : Code} {Rp : RT} (C : Cx Z (d + 4) jX12_takes RX12 p R s m args meth c) : Sd Z jX12_takes p e R s m args below meth c (MQ below (QcS Z Rp) args s 0 0 (fun a => Z.2.2.1 < a)) 18 (w_X12_takes_18 (MS Z (d + 4)) (Gw Z 9 p e R s m args below meth c (MQ below (QcS Z Rp) args s 0 0 (fun a => Z.2.2.1 < a))) Rp) := by
  unfold w_X12_takes_18
  refine s_aload_n (k := 0) C (by decide +kernel) ?_
  refine s_iload_n (k := 1) C (by decide +kernel) ?_
  refine s_fnV C (j2 := jX12_isLeader) (cl := 12) (nf := 27) rfl rfl (by decide +kernel) rfl w_6_236 w_6_238 w_p3_15 w_1_13 w_6_239 (by decide +kernel) (fun _ _ _ _ _ h => f_X12_isLeader h) (fun _ _ _ _ _ h => r_X12_isLeader h) ?_
  refine s_if_ne (off := 9) (tgt := 32) C (by decide +kernel) (by decide) (b_X12_takes_32 C) ?_
  refine s_aload_n (k := 0) C (by decide +kernel) ?_
  refine s_iload_n (k := 1) C (by decide +kernel) ?_
  refine s_iconst (n := 0) C (by decide +kernel) (by decide) ?_
  refine s_fnV C (j2 := jX12_plays) (cl := 12) (nf := 27) rfl rfl (by decide +kernel) rfl w_7_11 w_7_13 w_p4_2 w_1_13 w_7_14 (by decide +kernel) (fun _ _ _ _ _ h => f_X12_plays h) (fun _ _ _ _ _ h => r_X12_plays h) ?_
  exact (b_X12_takes_32 C)
set_option maxRecDepth 20000 in
theorem b_X12_takes_0 {Z : Zt} {d : Nat} {p : Program} {e : Env} {R : Room} {s : State} {m : MethodId} {args : Array Value} {below : List Frame} {meth : Method} {c : Code} {Rp : RT} (C : Cx Z (d + 4) jX12_takes RX12 p R s m args meth c) : Sd Z jX12_takes p e R s m args below meth c (MQ below (QcS Z Rp) args s 0 0 (fun a => Z.2.2.1 < a)) 0 (w_X12_takes_0 (MS Z (d + 4)) (Gw Z 9 p e R s m args below meth c (MQ below (QcS Z Rp) args s 0 0 (fun a => Z.2.2.1 < a))) Rp) := by
  unfold w_X12_takes_0
  refine s_iload_n (k := 3) C (by decide +kernel) ?_
  refine s_if_ne (off := 17) (tgt := 18) C (by decide +kernel) (by decide) (b_X12_takes_18 C) ?_
  refine s_aload_n (k := 0) C (by decide +kernel) ?_
  refine s_iload_n (k := 1) C (by decide +kernel) ?_
  refine s_iload_n (k := 2) C (by decide +kernel) ?_
  refine s_iconst (n := 0) C (by decide +kernel) (by decide) ?_
  refine s_aload_n (k := 0) C (by decide +kernel) ?_
  refine s_iload_n (k := 1) C (by decide +kernel) ?_
  refine s_iconst (n := 4) C (by decide +kernel) (by decide) ?_
  refine s_fnV C (j2 := jX12_of) (cl := 12) (nf := 27) rfl rfl (by decide +kernel) rfl w_6_220 w_6_222 w_p3_11 w_1_13 w_6_223 (by decide +kernel) (fun _ _ _ _ _ h => f_X12_of h) (fun _ _ _ _ _ h => r_X12_of h) ?_
  refine s_fnV C (j2 := jX12_answers) (cl := 12) (nf := 27) rfl rfl (by decide +kernel) rfl w_7_200 w_7_202 w_p6_4 w_1_13 w_7_203 (by decide +kernel) (fun _ _ _ _ _ h => f_X12_answers h) (fun _ _ _ _ _ h => r_X12_answers h) ?_
  exact s_vret C rfl (by decide +kernel)
theorem ms_X12_takes {Z : Zt} {d : Nat} {S : Sh} {μ : Mi} {ρ : Mr} {Rp : RT} (a0 : Nat) (x1 : Int32) (x2 : Int32) (x3 : Int32) (h : ∀ G : Nat → PT, (∀ (L st : List Value) (S : Sh) (q : Nat × Nat) (μ : Mi) (ρ : Mr), w_X12_takes_116 (MS Z (d + 4)) G Rp L st S q μ ρ → G 116 L st S q μ ρ) → w_X12_takes_0 (MS Z (d + 4)) G Rp [.ref a0, .int x1, .int x2, .int x3, .null, .null, .null, .null, .null] [] S (0, 0) μ ρ) : MS Z (d + 5) jX12_takes [.ref a0, .int x1, .int x2, .int x3] S μ ρ Rp :=
  MS_of [.ref a0, .int x1, .int x2, .int x3, .null, .null, .null, .null, .null] (by decide +kernel) rfl rfl (Nat.le_of_ble_eq_true rfl) rfl (fun p e R s m args below meth c C => b_X12_takes_0 C _ _ _ _ _ _ (h _ (b_X12_takes_116 C)))
def F_X12_takes : FT := fun As S μ ρ k => match As with
  | [.ref a, .int s, .int f, .int o] => a = 2737 ∧ RS S ρ ∧ rg s 0 4 ∧ rg f 0 4 ∧ tkOK (μ 2744) ∧ agOK (μ 2738) s.toNatClampNeg ∧ (μ 2738 (514 * s.toNatClampNeg + 5)).toInt ≤ (μ 2738 (514 * s.toNatClampNeg + 4)).toInt ∧ k none (upF μ 2738 (qTakes (μ 2738) (μ 2744) s.toNatClampNeg f.toNatClampNeg (¬ o = 0)))
  | _ => False
theorem r_X12_takes {As S μ ρ k} (h : F_X12_takes As S μ ρ k) : ∃ a As', As = Value.ref a :: As' ∧ S.2 a = (12, 27) := by
  unfold F_X12_takes at h
  split at h
  · exact ⟨_, _, rfl, by rw [h.1]; exact h.2.1.1⟩
  · exact h.elim
set_option maxHeartbeats 1000000 in
theorem f_X12_takes {Z : Zt} {d : Nat} {As : List Value} {S : Sh} {μ : Mi} {ρ : Mr} {Rp : RT} (h : F_X12_takes As S μ ρ (fun r μ' => Rp r S μ' ρ)) : MS Z (d + 5) jX12_takes As S μ ρ Rp := by
  unfold F_X12_takes at h
  split at h
  · rename_i a s f o
    obtain ⟨rfl, hS, h⟩ := h
    have hS0 := hS
    unfold RS at hS
    obtain ⟨h1, hf, hg, h2, h3, h⟩ := h
    obtain ⟨s, rfl, hs0, -, hs⟩ := rg_ex h1
    obtain ⟨f, rfl, hf0, -, hf1⟩ := rg_ex hf
    have hrs := rg_T (lo := 0) (hi := 4) (n := s) (by omega) (by omega) hs0
    have hrf := rg_T (lo := 0) (hi := 4) (n := f) (by omega) (by omega) hf0
    simp (disch := omega) only [nI_clamp] at h h2 h3
    have hs5 : s < 5 := by omega
    have n1 : (2744 : Nat) ≠ 2738 := by decide
    have i4 : (514 : Int32) * nI s + 4 = nI (514 * s + 4) := ixs 4 4 rfl
    have b4 : inb (nI (514 * s + 4)) 13548 := inb_nI (by omega) (by decide)
    have i5 : (514 : Int32) * nI s + 5 = nI (514 * s + 5) := ixs 5 5 rfl
    have b5 : inb (nI (514 * s + 5)) 13548 := inb_nI (by omega) (by decide)
    have j4 : inb 4 21 := inb_nI (k := 4) (by decide) (by decide)
    have j5 : inb 5 21 := inb_nI (k := 5) (by decide) (by decide)
    have j6 : inb 6 21 := inb_nI (k := 6) (by decide) (by decide)
    have j7 : inb 7 21 := inb_nI (k := 7) (by decide) (by decide)
    have e0 : μ = upF μ 2738 (μ 2738) := upF_id.symm
    obtain ⟨g4, g6, g46, g7, gb⟩ := id hg
    obtain ⟨m, em, em0, -, em1⟩ := rg_ex g6
    obtain ⟨b, eb, eb0, -, eb1⟩ := rg_ex g4
    rw [em, nI_toInt em0, eb, nI_toInt eb0] at g46
    refine ms_X12_takes _ _ _ _ (fun G g116 => ?_)
    have tail : ¬ o = 0 → ∀ (A1 : Rw) (v4 v5 v6 v7 v8 : Value), agOK A1 s → (A1 (514 * s + 5)).toInt ≤ (A1 (514 * s + 4)).toInt → A1 = (if μ 2738 (514 * s + 3) = 2 then μ 2738 else qPlays (μ 2738) s 0) → w_X12_takes_32 (MS Z (d + 4)) G Rp [.ref 2737, .int (nI s), .int (nI f), .int o, v4, v5, v6, v7, v8] [] S (0, 0) (upF μ 2738 A1) ρ := by
      intro co A1 v4 v5 v6 v7 v8 ha hsl hA1
      unfold qTakes at h
      rw [if_neg (not_not_intro co)] at h
      simp only [← hA1] at h
      have loop : ¬ A1 (514 * s + 4) < μ 2744 4 → ¬ (¬ μ 2744 4 < A1 (514 * s + 5) ∧ ¬ qTermAt A1 s (μ 2744 4) = μ 2744 5) → ∀ v5 v6 v7 v8, w_X12_takes_104 (MS Z (d + 4)) G Rp [.ref 2737, .int (nI s), .int (nI f), .int o, .int (μ 2744 4), v5, v6, v7, v8] [] S (0, 0) (upF μ 2738 A1) ρ := by
        intro c1 c2 v5 v6 v7 v8
        rw [if_neg c1, if_neg c2] at h
        have hI : tkI A1 s b := ⟨ha, hsl, by
          have := Int32.not_lt.mp c1
          rw [Int32.le_iff_toInt_le, eb, nI_toInt eb0] at this
          exact this⟩
        simp only [w_X12_takes_104, tAload, tIload, nth, tGetI, tGetR, tConst, tLconst, tBin, tUn, tI2l, tAld, tAldR, tAlen, tIast, tBast, tZast, tAast, tIret, tZret, tVret, tAret, tIf, tIf2, tGoto, tIstore, tAstore, sset, tIinc, tDup, tDup2, tPop, tPutI, tPutZ, tPutR, tCallV, tCallS, popN, tFn, tCopy, tMax, tMin, tSw, swc, tRem, tObjI, Option.toList, List.nil_append, List.cons_append, okR, true_and, and_true, true_or, or_true, Nat.zero_le, ne_eq, not_false_eq_true, Nat.reduceEqDiff, hS, upF_ne n1, j6, cl_6, em]
        have lp : ∀ (n k : Nat) (B : Rw) (v7 v8 : Value), n + k = m → tkI B s (b + k) → tksF (μ 2744) s n k B = tksF (μ 2744) s m 0 A1 → G 116 [.ref 2737, .int (nI s), .int (nI f), .int o, .int (nI b), .int (nI m), .int (nI k), v7, v8] [] S (0, 0) (upF μ 2738 B) ρ := by
          intro n
          induction n with
          | zero =>
            intro k B v7 v8 hk hB hE
            obtain rfl : k = m := by omega
            have hE' : B = tksF (μ 2744) s k 0 A1 := hE
            refine g116 _ _ _ _ _ _ ?_
            simp only [w_X12_takes_116, w_X12_takes_250, tAload, tIload, nth, tGetI, tGetR, tConst, tLconst, tBin, tUn, tI2l, tAld, tAldR, tAlen, tIast, tBast, tZast, tAast, tIret, tZret, tVret, tAret, tIf, tIf2, tGoto, tIstore, tAstore, sset, tIinc, tDup, tDup2, tPop, tPutI, tPutZ, tPutR, tCallV, tCallS, popN, tFn, tCopy, tMax, tMin, tSw, swc, tRem, tObjI, Option.toList, List.nil_append, List.cons_append, okR, true_and, and_true, true_or, or_true, Nat.zero_le, ne_eq, not_false_eq_true, Nat.reduceEqDiff, F_X12_lesser, F_X12_does, F_X12_answers, hS0, hS, hrs, hrf, upF_same, upF_upF, upF_ne n1, j7, cl_7]
            refine ⟨fun _ => ?_, fun c => absurd (Int32.le_refl _) c⟩
            simp (disch := omega) only [nI_clamp, nI_add]
            rw [em, nI_clamp em0, ← hE', eb, nI_add] at h
            have hto : rg (if μ 2744 7 < nI (b + k) then μ 2744 7 else nI (b + k)) 0 120 ∧ (if μ 2744 7 < nI (b + k) then μ 2744 7 else nI (b + k)).toNatClampNeg ≤ b + k := by
              split
              · rename_i c
                refine ⟨g7, ?_⟩
                rw [Int32.lt_iff_toInt_lt, nI_toInt (by omega)] at c
                show (μ 2744 7).toInt.toNat ≤ b + k
                omega
              · refine ⟨by rw [rg_nI (by omega)]; omega, by rw [nI_clamp (by omega)]; exact Nat.le_refl _⟩
            have hdo : opOK B s (B (514 * s + 7)).toNatClampNeg (if μ 2744 7 < nI (b + k) then μ 2744 7 else nI (b + k)).toNatClampNeg := by
              intro p p1 p2
              obtain ⟨l, el, el0, -, el1⟩ := rg_ex hB.1.1.2.1
              have := hB.2.2
              rw [el, nI_toInt el0] at this
              exact hB.1.2.2 p p1 (by rw [el, nI_clamp el0]; have := hto.2; omega)
            refine ⟨hto.1, hB.1.2.1, hdo, ?_, h⟩
            have hle : (if μ 2744 7 < nI (b + k) then μ 2744 7 else nI (b + k)).toInt ≤ (B (514 * s + 4)).toInt := by
              have q1 := hB.2.2
              have q2 := hto.2
              have q3 := hto.1.1
              generalize (if μ 2744 7 < nI (b + k) then μ 2744 7 else nI (b + k)) = x at q2 q3 ⊢
              have q4 : x.toInt.toNat ≤ b + k := q2
              omega
            rw [qDoes_out hs5 hB.1 hto.1 (Or.inl hle) (by omega) (by omega) (by omega)]
            exact hB.1.1.1
          | succ n ih =>
            intro k B v7 v8 hk hB hE
            have hE' : tksF (μ 2744) s n (k + 1) (qTk1 B (μ 2744) s k) = tksF (μ 2744) s m 0 A1 := hE
            have hstep := tk1_ok hs5 eb (by omega) (gb k (by rw [em, nI_clamp em0]; omega)) hB
            have next : ∀ (C : Rw) v7 v8, C = qTk1 B (μ 2744) s k → w_X12_takes_244 (MS Z (d + 4)) G Rp [.ref 2737, .int (nI s), .int (nI f), .int o, .int (nI b), .int (nI m), .int (nI k), v7, v8] [] S (0, 0) (upF μ 2738 C) ρ := by
              intro C v7 v8 hC
              subst hC
              simp only [w_X12_takes_244, tAload, tIload, nth, tGetI, tGetR, tConst, tLconst, tBin, tUn, tI2l, tAld, tAldR, tAlen, tIast, tBast, tZast, tAast, tIret, tZret, tVret, tAret, tIf, tIf2, tGoto, tIstore, tAstore, sset, tIinc, tDup, tDup2, tPop, tPutI, tPutZ, tPutR, tCallV, tCallS, popN, tFn, tCopy, tMax, tMin, tSw, swc, tRem, tObjI, Option.toList, List.nil_append, List.cons_append, okR, true_and, and_true, true_or, or_true, Nat.zero_le, ne_eq, not_false_eq_true, Nat.reduceEqDiff, nI_1]
              exact ih (k + 1) _ _ _ (by omega) hstep hE'
            obtain ⟨l, el, el0, -, el1⟩ := rg_ex hB.1.1.2.1
            obtain ⟨sn, es, es0, -, es1⟩ := rg_ex hB.1.1.2.2.1
            have hbl := hB.2.2
            rw [el, nI_toInt el0] at hbl
            refine g116 _ _ _ _ _ _ ?_
            have lt4 : ¬ nI m ≤ nI k := by rw [nI_leI (by omega) (by omega)]; omega
            simp only [w_X12_takes_116, w_X12_takes_155, tAload, tIload, nth, tGetI, tGetR, tConst, tLconst, tBin, tUn, tI2l, tAld, tAldR, tAlen, tIast, tBast, tZast, tAast, tIret, tZret, tVret, tAret, tIf, tIf2, tGoto, tIstore, tAstore, sset, tIinc, tDup, tDup2, tPop, tPutI, tPutZ, tPutR, tCallV, tCallS, popN, tFn, tCopy, tMax, tMin, tSw, swc, tRem, tObjI, Option.toList, List.nil_append, List.cons_append, okR, true_and, and_true, true_or, or_true, Nat.zero_le, ne_eq, not_false_eq_true, Nat.reduceEqDiff, F_X12_of, F_X12_ofEntry, F_X12_lays, hS0, hS, hrs, upF_same, upF_upF, upF_ne n1, i4, i5, b4, b5]
            have e1 : nI b + 1 + nI k = nI (b + 1 + k) := by rw [nI_1, nI_add]
            have e2 : (9 : Int32) + 4 * nI k = nI (9 + 4 * k) := by rw [show (4 : Int32) = nI 4 from rfl, pk_mul, nad' 9 9 rfl]
            have e3 : nI (b + 1 + k) - 1 = nI (b + 1 + k - 1) := by rw [show (1 : Int32) = nI 1 from rfl, pk_sub (by omega)]
            have hrp : rg (nI (b + 1 + k)) 1 120 = True := rg_T (by omega) (by omega) (by omega)
            have hr0 : rg 0 0 3 = True := eq_true ⟨by decide, by decide⟩
            rw [e1, e2, e3]
            simp (disch := omega) only [nI_clamp, nI_inb, hrp, hr0, cl_0, Nat.add_zero, true_and]
            -- behind the cut
            have put : ∀ (C : Rw), rg (C (514 * s + 4)) 0 120 → (∀ x, x ≠ 514 * s + 4 → C x = B x) → (¬ nI (b + 1 + k) ≤ B (514 * s + 5)) → C = (if nI (b + 1 + k) ≤ B (514 * s + 4) ∧ ¬ B (514 * s + 30 + 4 * (b + 1 + k)) = μ 2744 (9 + 4 * k) then up B (514 * s + 4) (nI (b + 1 + k - 1)) else B) → w_X12_takes_194 (MS Z (d + 4)) G Rp [.ref 2737, .int (nI s), .int (nI f), .int o, .int (nI b), .int (nI m), .int (nI k), .int (nI (b + 1 + k)), .int (nI (9 + 4 * k))] [] S (0, 0) (upF μ 2738 C) ρ := by
              intro C hC4 hCx hns hC
              obtain ⟨l2, el2, el20, -, el21⟩ := rg_ex hC4
              simp only [w_X12_takes_194, tAload, tIload, nth, tGetI, tGetR, tConst, tLconst, tBin, tUn, tI2l, tAld, tAldR, tAlen, tIast, tBast, tZast, tAast, tIret, tZret, tVret, tAret, tIf, tIf2, tGoto, tIstore, tAstore, sset, tIinc, tDup, tDup2, tPop, tPutI, tPutZ, tPutR, tCallV, tCallS, popN, tFn, tCopy, tMax, tMin, tSw, swc, tRem, tObjI, Option.toList, List.nil_append, List.cons_append, okR, true_and, and_true, true_or, or_true, Nat.zero_le, ne_eq, not_false_eq_true, Nat.reduceEqDiff, F_X12_of, F_X12_comesToLog, hS0, hS, hrs, upF_same, upF_upF, upF_ne n1, i4, b4]
              rw [nad 1 1 rfl, nad 2 2 rfl, nad 3 3 rfl]
              simp (disch := omega) only [nI_clamp, nI_inb]
              refine ⟨fun c => next _ _ _ ?_, fun c => ⟨by omega, by omega, by omega, by omega, ?_, next _ _ _ ?_⟩⟩
              · unfold qTk1
                rw [eb, nI_clamp eb0]
                simp only [if_neg hns]
                rw [← hC, if_neg (Int32.not_lt.mpr c)]
              · rw [el2, nI_leI (by omega) el20] at c
                rw [el2, rg_nI el20]
                omega
              · unfold qTk1
                rw [eb, nI_clamp eb0]
                simp only [if_neg hns]
                rw [← hC, if_pos (Int32.not_le.mp c)]
            refine ⟨fun c => absurd c lt4, fun _ => ⟨fun c => ⟨fun c2 => ?_, fun c2 => ⟨by omega, fun c3 => ?_, fun c3 => ?_⟩⟩, fun c => ?_⟩⟩
            · refine put B hB.1.1.2.1 (fun _ _ => rfl) (Int32.not_le.mpr c) ?_
              rw [if_neg (fun z => absurd z.1 (Int32.not_le.mpr c2))]
            · refine put B hB.1.1.2.1 (fun _ _ => rfl) (Int32.not_le.mpr c) ?_
              rw [if_neg (fun z => z.2 c3)]
            · refine put _ ?_ (fun x hx => up_ne hx) (Int32.not_le.mpr c) ?_
              · rw [up_at, rg_nI (by omega)]; omega
              · rw [if_pos ⟨Int32.not_lt.mp c2, c3⟩]
            · refine next _ _ _ ?_
              unfold qTk1
              rw [eb, nI_clamp eb0]
              simp only [if_pos (Int32.not_lt.mp c)]
        rw [eb]
        exact lp m 0 A1 _ _ rfl hI rfl
      simp only [w_X12_takes_32, w_X12_takes_65, tAload, tIload, nth, tGetI, tGetR, tConst, tLconst, tBin, tUn, tI2l, tAld, tAldR, tAlen, tIast, tBast, tZast, tAast, tIret, tZret, tVret, tAret, tIf, tIf2, tGoto, tIstore, tAstore, sset, tIinc, tDup, tDup2, tPop, tPutI, tPutZ, tPutR, tCallV, tCallS, popN, tFn, tCopy, tMax, tMin, tSw, swc, tRem, tObjI, Option.toList, List.nil_append, List.cons_append, okR, true_and, and_true, true_or, or_true, Nat.zero_le, ne_eq, not_false_eq_true, Nat.reduceEqDiff, F_X12_of, F_X12_termAt, F_X12_answers, hS0, hS, hrs, hrf, upF_same, upF_upF, upF_ne n1, i4, i5, b4, b5, j4, j5, cl_4, cl_5]
      simp (disch := omega) only [nI_clamp]
      refine ⟨fun c => ⟨fun c2 => ?_, fun c2 => ⟨ha.1.2.1, ha.1.2.2.1, fun c3 => ?_, fun c3 => ⟨ha.1.1, ?_⟩⟩⟩, fun c => ⟨ha.1.1, ?_⟩⟩
      · exact loop (Int32.not_lt.mpr c) (fun z => z.1 c2) _ _ _ _
      · exact loop (Int32.not_lt.mpr c) (fun z => z.2 c3) _ _ _ _
      · rw [if_neg (Int32.not_lt.mpr c), if_pos ⟨c2, c3⟩] at h
        exact h
      · rw [if_pos (Int32.not_le.mp c)] at h
        exact h
    simp only [w_X12_takes_0, w_X12_takes_18, tAload, tIload, nth, tGetI, tGetR, tConst, tLconst, tBin, tUn, tI2l, tAld, tAldR, tAlen, tIast, tBast, tZast, tAast, tIret, tZret, tVret, tAret, tIf, tIf2, tGoto, tIstore, tAstore, sset, tIinc, tDup, tDup2, tPop, tPutI, tPutZ, tPutR, tCallV, tCallS, popN, tFn, tCopy, tMax, tMin, tSw, swc, tRem, tObjI, Option.toList, List.nil_append, List.cons_append, okR, true_and, and_true, true_or, or_true, Nat.zero_le, ne_eq, not_false_eq_true, Nat.reduceEqDiff, F_X12_of, F_X12_isLeader, F_X12_plays, F_X12_answers, hS0, hrs, hrf, i4, b4, b2_z, Decidable.not_not]
    simp (disch := omega) only [nI_clamp]
    refine ⟨fun c => ⟨fun c2 => ?_, fun c2 => ?_⟩, fun c => ⟨h2.1.1, ?_⟩⟩
    · have := tail c (μ 2738) .null .null .null .null .null h2 h3 (by rw [if_pos c2])
      rw [← e0] at this
      exact this
    · refine tail c _ _ _ _ _ _ (agOK_plays hs5 h2) ?_ (by rw [if_neg c2])
      rw [qPlays_out (by omega), qPlays_out (by omega)]
      exact h3
    · unfold qTakes at h
      rw [if_pos (not_not_intro c)] at h
      exact h
  · exact h.elim
