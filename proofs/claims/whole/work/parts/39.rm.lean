/-! ===== the reference: leads, asksAll, standsUp, asks ===== -/
theorem nad' {n : Nat} (k : Nat) (x : Int32) (hx : x = nI k) : x + nI n = nI (k + n) := by rw [hx, nI_add]
def nxF (A : Rw) (s : Nat) (v : Int32) (o : Nat) : Rw := fun i => if 514 * s + 24 ≤ i ∧ i < 514 * s + 24 + o then v else if 514 * s + 29 ≤ i ∧ i < 514 * s + 29 + o then 0 else A i
theorem nxF_0 {A : Rw} {s : Nat} {v : Int32} : nxF A s v 0 = A := by
  funext i; unfold nxF; rw [if_neg (by omega), if_neg (by omega)]
theorem nxF_5 {A : Rw} {s : Nat} {v : Int32} : nxF A s v 5 = nx5 A s v := rfl
theorem nxF_s {A : Rw} {s o : Nat} {v : Int32} (ho : o < 5) : up (up (nxF A s v o) (514 * s + 24 + o) v) (514 * s + 29 + o) 0 = nxF A s v (o + 1) := by
  funext i
  unfold up nxF
  by_cases h1 : i = 514 * s + 29 + o
  · rw [if_pos h1, if_neg (by omega), if_pos (by omega)]
  · rw [if_neg h1]
    by_cases h2 : i = 514 * s + 24 + o
    · rw [if_pos h2, if_pos (by omega)]
    · rw [if_neg h2]
      by_cases h3 : 514 * s + 24 ≤ i ∧ i < 514 * s + 24 + o
      · rw [if_pos h3, if_pos (by omega)]
      · rw [if_neg h3, if_neg (show ¬ (514 * s + 24 ≤ i ∧ i < 514 * s + 24 + (o + 1)) by omega)]
        by_cases h4 : 514 * s + 29 ≤ i ∧ i < 514 * s + 29 + o
        · rw [if_pos h4, if_pos (by omega)]
        · rw [if_neg h4, if_neg (by omega)]
theorem nxF_out {A : Rw} {s o i : Nat} {v : Int32} (ho : o ≤ 5) (h : i < 514 * s + 24 ∨ 514 * s + 34 ≤ i) : nxF A s v o i = A i := by unfold nxF; rw [if_neg (by omega), if_neg (by omega)]
theorem qReads_out {A : Rw} {s i : Nat} (h : i ≠ 514 * s + 11 ∧ i ≠ 514 * s + 12 ∧ i ≠ 514 * s + 13 ∧ i ≠ 514 * s + 15) : qReadsNothing A s i = A i := by
  unfold qReadsNothing
  rw [up_ne (by omega), up_ne (by omega), up_ne (by omega), up_ne (by omega)]
/-- what one needs so that it can lead -/
def ldOK (A : Rw) (s : Nat) : Prop := agOK A s ∧ (A (514 * s + 5)).toInt ≤ (A (514 * s + 4)).toInt ∧ rg (A (514 * s + 1)) 1 200
/-- before NOTHING comes to the log -/
def qLead0 (A : Rw) (s : Nat) : Rw :=
  let A2 := qReadsNothing (qPlays A s 2) s
  let A3 := up A2 (4309 + (A2 (514 * s + 1)).toNatClampNeg) (A2 (4309 + (A2 (514 * s + 1)).toNatClampNeg) ||| (1 : Int32) <<< (nI s &&& 31))
  nx5 A3 s (A3 (514 * s + 4) + 1)
theorem qLead1_eq {A : Rw} {s : Nat} : qLead1 A s = if (qLead0 A s) (514 * s + 4) < 120 then qPut (qLead0 A s) s ((qLead0 A s) (514 * s + 1)) 0 0 0 else qLead0 A s := rfl
theorem qLead0_out {A : Rw} {s tm i : Nat} (ht : A (514 * s + 1) = nI tm) (ht0 : tm < 2 ^ 31) (h1 : i ≠ 514 * s + 3 ∧ i ≠ 514 * s + 8 ∧ i ≠ 514 * s + 11 ∧ i ≠ 514 * s + 12 ∧ i ≠ 514 * s + 13 ∧ i ≠ 514 * s + 15) (h2 : i ≠ 4309 + tm) (h3 : i < 514 * s + 24 ∨ 514 * s + 34 ≤ i) : qLead0 A s i = A i := by
  unfold qLead0
  have e1 : qReadsNothing (qPlays A s 2) s (514 * s + 1) = nI tm := by rw [qReads_out (by omega), qPlays_out (by omega)]; exact ht
  rw [e1, nI_clamp ht0, ← nxF_5, nxF_out (by omega) h3, up_ne h2, qReads_out (by omega), qPlays_out h1]
theorem agOK_lead0 {A : Rw} {s : Nat} (hs : s < 5) (h : ldOK A s) : agOK (qLead0 A s) s := by
  obtain ⟨ha, h3, h4⟩ := h
  obtain ⟨tm, et, et0, et1, et2⟩ := rg_ex h4
  obtain ⟨l, el, el0, -, el1⟩ := rg_ex ha.1.2.1
  have ho : ∀ i, (i ≠ 514 * s + 3 ∧ i ≠ 514 * s + 8 ∧ i ≠ 514 * s + 11 ∧ i ≠ 514 * s + 12 ∧ i ≠ 514 * s + 13 ∧ i ≠ 514 * s + 15) → i ≠ 4309 + tm → (i < 514 * s + 24 ∨ 514 * s + 34 ≤ i) → qLead0 A s i = A i := fun i a b c => qLead0_out et et0 a b c
  refine agOK_of hs ha (by rw [ho _ (by omega) (by omega) (by omega)]; exact ha.1.1) (ho _ (by omega) (by omega) (by omega)) (ho _ (by omega) (by omega) (by omega)) (ho _ (by omega) (by omega) (by omega)) (fun t ht => ?_) (fun i q1 q2 => ho _ (by omega) (by omega) (by omega))
  unfold qLead0
  have e1 : qReadsNothing (qPlays A s 2) s (514 * s + 1) = nI tm := by rw [qReads_out (by omega), qPlays_out (by omega)]; exact et
  have e4 : qReadsNothing (qPlays A s 2) s (514 * s + 4) = nI l := by rw [qReads_out (by omega), qPlays_out (by omega)]; exact el
  rw [e1, nI_clamp et0, up_ne (by omega), e4]
  unfold nx5
  rw [if_pos (by omega), nI_1, rg_nI (by omega)]
  omega
theorem lead1_ok {A : Rw} {s : Nat} (hs : s < 5) (h : ldOK A s) : agOK (qLead1 A s) s ∧ ((qLead1 A s) (514 * s + 5)).toInt ≤ ((qLead1 A s) (514 * s + 4)).toInt := by
  have h0 := agOK_lead0 hs h
  obtain ⟨ha, h3, h4⟩ := h
  obtain ⟨tm, et, et0, et1, et2⟩ := rg_ex h4
  obtain ⟨l, el, el0, -, el1⟩ := rg_ex ha.1.2.1
  have e4 : qLead0 A s (514 * s + 4) = nI l := by rw [qLead0_out et et0 (by omega) (by omega) (by omega)]; exact el
  have e5 : qLead0 A s (514 * s + 5) = A (514 * s + 5) := qLead0_out et et0 (by omega) (by omega) (by omega)
  rw [el, nI_toInt el0] at h3
  rw [qLead1_eq]
  split
  · rename_i hc
    rw [e4, show (120 : Int32) = nI 120 from rfl, nI_ltI el0 (by decide)] at hc
    refine ⟨agOK_put hs h0 (by rw [e4, rg_nI el0]; omega) (fun z => by rcases z with z | z <;> exact absurd z (by decide)), ?_⟩
    rw [qPut_4 e4, qPut_out e4 el0 (by omega) (by omega), e5, nI_toInt (by omega)]
    omega
  · refine ⟨h0, ?_⟩
    rw [e4, e5, nI_toInt el0]
    exact h3
def w_X12_leads_99 (M : CT) (G : Nat → PT) (Rp : RT) : PT := tAload 0 <| tIload 1 <| tFn 2 F_X12_feedsAll <| tAload 0 <| tIload 1 <| tFn 2 F_X12_agrees <| tVret Rp
def w_X12_leads_74 (M : CT) (G : Nat → PT) (Rp : RT) : PT := tAload 0 <| tIload 1 <| tConst 4 <| tFn 3 F_X12_of <| tConst 120 <| tIf2 (fun x y => y ≤ x) (w_X12_leads_99 M G Rp) <| tAload 0 <| tIload 1 <| tAload 0 <| tIload 1 <| tConst 1 <| tFn 3 F_X12_of <| tConst 0 <| tConst 0 <| tConst 0 <| tFn 6 F_X12_comesToLog <| w_X12_leads_99 M G Rp
def w_X12_leads_36 (M : CT) (G : Nat → PT) (Rp : RT) : PT := tIload 2 <| tConst 5 <| tIf2 (fun x y => y ≤ x) (w_X12_leads_74 M G Rp) <| tAload 0 <| tIload 1 <| tConst 24 <| tIload 2 <| tBin (fun x y => x + y) <| tAload 0 <| tIload 1 <| tConst 4 <| tFn 3 F_X12_of <| tConst 1 <| tBin (fun x y => x + y) <| tFn 4 F_X12_lays <| tAload 0 <| tIload 1 <| tConst 29 <| tIload 2 <| tBin (fun x y => x + y) <| tConst 0 <| tFn 4 F_X12_lays <| tIinc 2 1 <| tGoto (G 36)
def w_X12_leads_0 (M : CT) (G : Nat → PT) (Rp : RT) : PT := tAload 0 <| tIload 1 <| tConst 2 <| tFn 3 F_X12_plays <| tAload 0 <| tIload 1 <| tFn 2 F_X12_readsNothing <| tAload 0 <| tGetR 12 27 1 <| tConst 4310 <| tAload 0 <| tIload 1 <| tConst 1 <| tFn 3 F_X12_of <| tBin (fun x y => x + y) <| tConst 1 <| tBin (fun x y => x - y) <| tDup2 <| tAld 20 <| tConst 1 <| tIload 1 <| tBin (fun x y => x <<< (y &&& 31)) <| tBin (fun x y => x ||| y) <| tIast <| tConst 0 <| tIstore 2 <| G 36
set_option maxRecDepth 20000 in
theorem b_X12_leads_99 {Z : Zt} {d : Nat} {p : Program} {e : Env} {R : Room} {s : State} {m : MethodId} {args : Array Value} {below : List Frame} {meth : Method} {c : Code} {Rp : RT} (C : Cx Z (d + 7) jX12_leads RX12 p R s m args meth c) : Sd Z jX12_leads p e R s m args below meth c (MQ below (QcS Z Rp) args s 0 0 (fun a => Z.2.2.1 < a)) 99 (w_X12_leads_99 (MS Z (d + 7)) (Gw Z 3 p e R s m args below meth c (MQ below (QcS Z Rp) args s 0 0 (fun a => Z.2.2.1 < a))) Rp) := by
  unfold w_X12_leads_99
  refine s_aload_n (k := 0) C (by decide +kernel) ?_
  refine s_iload_n (k := 1) C (by decide +kernel) ?_
  refine s_fnV C (j2 := jX12_feedsAll) (cl := 12) (nf := 27) rfl rfl (by decide +kernel) rfl w_7_47 w_7_49 w_p4_11 w_1_13 w_7_50 (by decide +kernel) (fun _ _ _ _ _ h => f_X12_feedsAll h) (fun _ _ _ _ _ h => r_X12_feedsAll h) ?_
  refine s_aload_n (k := 0) C (by decide +kernel) ?_
  refine s_iload_n (k := 1) C (by decide +kernel) ?_
  refine s_fnV C (j2 := jX12_agrees) (cl := 12) (nf := 27) rfl rfl (by decide +kernel) rfl w_7_61 w_7_63 w_p4_13 w_1_13 w_7_64 (by decide +kernel) (fun _ _ _ _ _ h => f_X12_agrees h) (fun _ _ _ _ _ h => r_X12_agrees h) ?_
  exact s_vret C rfl (by decide +kernel)
set_option maxRecDepth 20000 in
theorem b_X12_leads_74 {Z : Zt} {d : Nat} {p : Program} {e : Env} {R : Room} {s : State} {m : MethodId} {args : Array Value} {below : List Frame} {meth : Method} {c : Code} {Rp : RT} (C : Cx Z (d + 7) jX12_leads RX12 p R s m args meth c) : Sd Z jX12_leads p e R s m args below meth c (MQ below (QcS Z Rp) args s 0 0 (fun a => Z.2.2.1 < a)) 74 (w_X12_leads_74 (MS Z (d + 7)) (Gw Z 3 p e R s m args below meth c (MQ below (QcS Z Rp) args s 0 0 (fun a => Z.2.2.1 < a))) Rp) := by
  unfold w_X12_leads_74
  refine s_aload_n (k := 0) C (by decide +kernel) ?_
  refine s_iload_n (k := 1) C (by decide +kernel) ?_
  refine s_iconst (n := 4) C (by decide +kernel) (by decide) ?_
  refine s_fnV C (j2 := jX12_of) (cl := 12) (nf := 27) rfl rfl (by decide +kernel) rfl w_6_220 w_6_222 w_p3_11 w_1_13 w_6_223 (by decide +kernel) (fun _ _ _ _ _ h => f_X12_of h) (fun _ _ _ _ _ h => r_X12_of h) ?_
  refine s_bipush (n := 120) C (by decide +kernel) (by decide) ?_
  refine s_icmp_ge (off := 17) (tgt := 99) C (by decide +kernel) (by decide) (b_X12_leads_99 C) ?_
  refine s_aload_n (k := 0) C (by decide +kernel) ?_
  refine s_iload_n (k := 1) C (by decide +kernel) ?_
  refine s_aload_n (k := 0) C (by decide +kernel) ?_
  refine s_iload_n (k := 1) C (by decide +kernel) ?_
  refine s_iconst (n := 1) C (by decide +kernel) (by decide) ?_
  refine s_fnV C (j2 := jX12_of) (cl := 12) (nf := 27) rfl rfl (by decide +kernel) rfl w_6_220 w_6_222 w_p3_11 w_1_13 w_6_223 (by decide +kernel) (fun _ _ _ _ _ h => f_X12_of h) (fun _ _ _ _ _ h => r_X12_of h) ?_
  refine s_iconst (n := 0) C (by decide +kernel) (by decide) ?_
  refine s_iconst (n := 0) C (by decide +kernel) (by decide) ?_
  refine s_iconst (n := 0) C (by decide +kernel) (by decide) ?_
  refine s_fnV C (j2 := jX12_comesToLog) (cl := 12) (nf := 27) rfl rfl (by decide +kernel) rfl w_7_43 w_7_45 w_p4_10 w_1_13 w_7_46 (by decide +kernel) (fun _ _ _ _ _ h => f_X12_comesToLog h) (fun _ _ _ _ _ h => r_X12_comesToLog h) ?_
  exact (b_X12_leads_99 C)
set_option maxRecDepth 20000 in
theorem b_X12_leads_36 {Z : Zt} {d : Nat} {p : Program} {e : Env} {R : Room} {s : State} {m : MethodId} {args : Array Value} {below : List Frame} {meth : Method} {c : Code} {Rp : RT} (C : Cx Z (d + 7) jX12_leads RX12 p R s m args meth c) : Sd Z jX12_leads p e R s m args below meth c (MQ below (QcS Z Rp) args s 0 0 (fun a => Z.2.2.1 < a)) 36 (w_X12_leads_36 (MS Z (d + 7)) (Gw Z 3 p e R s m args below meth c (MQ below (QcS Z Rp) args s 0 0 (fun a => Z.2.2.1 < a))) Rp) := by
  unfold w_X12_leads_36
  refine s_iload_n (k := 2) C (by decide +kernel) ?_
  refine s_iconst (n := 5) C (by decide +kernel) (by decide) ?_
  refine s_icmp_ge (off := 36) (tgt := 74) C (by decide +kernel) (by decide) (b_X12_leads_74 C) ?_
  refine s_aload_n (k := 0) C (by decide +kernel) ?_
  refine s_iload_n (k := 1) C (by decide +kernel) ?_
  refine s_bipush (n := 24) C (by decide +kernel) (by decide) ?_
  refine s_iload_n (k := 2) C (by decide +kernel) ?_
  refine s_iadd C (by decide +kernel) ?_
  refine s_aload_n (k := 0) C (by decide +kernel) ?_
  refine s_iload_n (k := 1) C (by decide +kernel) ?_
  refine s_iconst (n := 4) C (by decide +kernel) (by decide) ?_
  refine s_fnV C (j2 := jX12_of) (cl := 12) (nf := 27) rfl rfl (by decide +kernel) rfl w_6_220 w_6_222 w_p3_11 w_1_13 w_6_223 (by decide +kernel) (fun _ _ _ _ _ h => f_X12_of h) (fun _ _ _ _ _ h => r_X12_of h) ?_
  refine s_iconst (n := 1) C (by decide +kernel) (by decide) ?_
  refine s_iadd C (by decide +kernel) ?_
  refine s_fnV C (j2 := jX12_lays) (cl := 12) (nf := 27) rfl rfl (by decide +kernel) rfl w_6_82 w_6_84 w_p3_4 w_1_13 w_6_85 (by decide +kernel) (fun _ _ _ _ _ h => f_X12_lays h) (fun _ _ _ _ _ h => r_X12_lays h) ?_
  refine s_aload_n (k := 0) C (by decide +kernel) ?_
  refine s_iload_n (k := 1) C (by decide +kernel) ?_
  refine s_bipush (n := 29) C (by decide +kernel) (by decide) ?_
  refine s_iload_n (k := 2) C (by decide +kernel) ?_
  refine s_iadd C (by decide +kernel) ?_
  refine s_iconst (n := 0) C (by decide +kernel) (by decide) ?_
  refine s_fnV C (j2 := jX12_lays) (cl := 12) (nf := 27) rfl rfl (by decide +kernel) rfl w_6_82 w_6_84 w_p3_4 w_1_13 w_6_85 (by decide +kernel) (fun _ _ _ _ _ h => f_X12_lays h) (fun _ _ _ _ _ h => r_X12_lays h) ?_
  refine s_iinc (n := 1) C (by decide +kernel) (by decide) ?_
  exact s_goto (off := (-35)) (tgt := 36) C (by decide +kernel) (by decide) (fun _ _ _ _ _ _ h => h)
set_option maxRecDepth 20000 in
theorem b_X12_leads_0 {Z : Zt} {d : Nat} {p : Program} {e : Env} {R : Room} {s : State} {m : MethodId} {args : Array Value} {below : List Frame} {meth : Method} {c : Code} {Rp : RT} (C : Cx Z (d + 7) jX12_leads RX12 p R s m args meth c) : Sd Z jX12_leads p e R s m args below meth c (MQ below (QcS Z Rp) args s 0 0 (fun a => Z.2.2.1 < a)) 0 (w_X12_leads_0 (MS Z (d + 7)) (Gw Z 3 p e R s m args below meth c (MQ below (QcS Z Rp) args s 0 0 (fun a => Z.2.2.1 < a))) Rp) := by
  unfold w_X12_leads_0
  refine s_aload_n (k := 0) C (by decide +kernel) ?_
  refine s_iload_n (k := 1) C (by decide +kernel) ?_
  refine s_iconst (n := 2) C (by decide +kernel) (by decide) ?_
  refine s_fnV C (j2 := jX12_plays) (cl := 12) (nf := 27) rfl rfl (by decide +kernel) rfl w_7_11 w_7_13 w_p4_2 w_1_13 w_7_14 (by decide +kernel) (fun _ _ _ _ _ h => f_X12_plays h) (fun _ _ _ _ _ h => r_X12_plays h) ?_
  refine s_aload_n (k := 0) C (by decide +kernel) ?_
  refine s_iload_n (k := 1) C (by decide +kernel) ?_
  refine s_fnV C (j2 := jX12_readsNothing) (cl := 12) (nf := 27) rfl rfl (by decide +kernel) rfl w_7_15 w_7_17 w_p4_3 w_1_13 w_7_18 (by decide +kernel) (fun _ _ _ _ _ h => f_X12_readsNothing h) (fun _ _ _ _ _ h => r_X12_readsNothing h) ?_
  refine s_aload_n (k := 0) C (by decide +kernel) ?_
  refine s_getR C w_6_88 (by decide +kernel) rfl ?_
  refine s_sipush (n := 4310) C (by decide +kernel) (by decide) ?_
  refine s_aload_n (k := 0) C (by decide +kernel) ?_
  refine s_iload_n (k := 1) C (by decide +kernel) ?_
  refine s_iconst (n := 1) C (by decide +kernel) (by decide) ?_
  refine s_fnV C (j2 := jX12_of) (cl := 12) (nf := 27) rfl rfl (by decide +kernel) rfl w_6_220 w_6_222 w_p3_11 w_1_13 w_6_223 (by decide +kernel) (fun _ _ _ _ _ h => f_X12_of h) (fun _ _ _ _ _ h => r_X12_of h) ?_
  refine s_iadd C (by decide +kernel) ?_
  refine s_iconst (n := 1) C (by decide +kernel) (by decide) ?_
  refine s_isub C (by decide +kernel) ?_
  refine s_dup2 C (by decide +kernel) ?_
  refine s_iald C (by decide +kernel) ?_
  refine s_iconst (n := 1) C (by decide +kernel) (by decide) ?_
  refine s_iload_n (k := 1) C (by decide +kernel) ?_
  refine s_ishl C (by decide +kernel) ?_
  refine s_ior C (by decide +kernel) ?_
  refine s_iast C (by decide +kernel) ?_
  refine s_iconst (n := 0) C (by decide +kernel) (by decide) ?_
  refine s_istore_n (k := 2) C (by decide +kernel) ?_
  exact (fun _ _ _ _ _ _ h => h)
theorem ms_X12_leads {Z : Zt} {d : Nat} {S : Sh} {μ : Mi} {ρ : Mr} {Rp : RT} (a0 : Nat) (x1 : Int32) (h : ∀ G : Nat → PT, (∀ (L st : List Value) (S : Sh) (q : Nat × Nat) (μ : Mi) (ρ : Mr), w_X12_leads_36 (MS Z (d + 7)) G Rp L st S q μ ρ → G 36 L st S q μ ρ) → w_X12_leads_0 (MS Z (d + 7)) G Rp [.ref a0, .int x1, .null] [] S (0, 0) μ ρ) : MS Z (d + 8) jX12_leads [.ref a0, .int x1] S μ ρ Rp :=
  MS_of [.ref a0, .int x1, .null] (by decide +kernel) rfl rfl (Nat.le_of_ble_eq_true rfl) rfl (fun p e R s m args below meth c C => b_X12_leads_0 C _ _ _ _ _ _ (h _ (b_X12_leads_36 C)))
def F_X12_leads : FT := fun As S μ ρ k => match As with
  | [.ref a, .int s] => a = 2737 ∧ RS S ρ ∧ rg s 0 4 ∧ ldOK (μ 2738) s.toNatClampNeg ∧ ∀ t : T4, k none (M3 μ t (qLeads (μ 2738) s.toNatClampNeg))
  | _ => False
theorem r_X12_leads {As S μ ρ k} (h : F_X12_leads As S μ ρ k) : ∃ a As', As = Value.ref a :: As' ∧ S.2 a = (12, 27) := by
  unfold F_X12_leads at h
  split at h
  · exact ⟨_, _, rfl, by rw [h.1]; exact h.2.1.1⟩
  · exact h.elim
set_option maxHeartbeats 1000000 in
theorem f_X12_leads {Z : Zt} {d : Nat} {As : List Value} {S : Sh} {μ : Mi} {ρ : Mr} {Rp : RT} (h : F_X12_leads As S μ ρ (fun r μ' => Rp r S μ' ρ)) : MS Z (d + 8) jX12_leads As S μ ρ Rp := by
  unfold F_X12_leads at h
  split at h
  · rename_i a s
    obtain ⟨rfl, hS, h⟩ := h
    have hS0 := hS
    unfold RS at hS
    obtain ⟨h1, h2, h⟩ := h
    obtain ⟨s, rfl, hs0, -, hs⟩ := rg_ex h1
    simp (disch := omega) only [nI_clamp] at h h2
    have hs5 : s < 5 := by omega
    have hrs := rg_T (lo := 0) (hi := 4) (n := s) (by omega) (by omega) hs0
    obtain ⟨t0, ht0⟩ := M3_self μ
    rw [ht0]
    generalize hA : μ 2738 = A at *
    have hl0 := agOK_lead0 hs5 h2
    have hl1 := lead1_ok hs5 h2
    obtain ⟨ha, h3, h4⟩ := id h2
    obtain ⟨tm, et, et0, et1, et2⟩ := rg_ex h4
    obtain ⟨l, el, el0, -, el1⟩ := rg_ex ha.1.2.1
    have e1 : qReadsNothing (qPlays A s 2) s (514 * s + 1) = nI tm := by rw [qReads_out (by omega), qPlays_out (by omega)]; exact et
    have e4 : qReadsNothing (qPlays A s 2) s (514 * s + 4) = nI l := by rw [qReads_out (by omega), qPlays_out (by omega)]; exact el
    have ex : (4310 : Int32) + nI tm - 1 = nI (4309 + tm) := by rw [show (4310 : Int32) = nI 4310 from rfl, nI_add, show (1 : Int32) = nI 1 from rfl, pk_sub (by omega), show 4310 + tm - 1 = 4309 + tm by omega]
    refine ms_X12_leads _ _ (fun G g36 => ?_)
    simp only [w_X12_leads_0, tAload, tIload, nth, tGetI, tGetR, tConst, tLconst, tBin, tUn, tI2l, tAld, tAldR, tAlen, tIast, tBast, tZast, tAast, tIret, tZret, tVret, tAret, tIf, tIf2, tGoto, tIstore, tAstore, sset, tIinc, tDup, tDup2, tPop, tPutI, tPutZ, tPutR, tCallV, tCallS, popN, tFn, tCopy, tMax, tMin, tSw, swc, tRem, tObjI, Option.toList, List.nil_append, List.cons_append, okR, true_and, and_true, true_or, or_true, Nat.zero_le, ne_eq, not_false_eq_true, Nat.reduceEqDiff, F_X12_plays, F_X12_readsNothing, F_X12_of, hS0, hS, hrs, M3_row, M3_upF, upI_upF]
    simp (disch := omega) only [ixs 1 1 rfl, nI_clamp, nI_inb, e1, ex]
    refine ⟨by omega, by omega, by omega, ?_⟩
    generalize hA3 : up (qReadsNothing (qPlays A s 2) s) (4309 + tm) _ = A3
    have e43 : A3 (514 * s + 4) = nI l := by rw [← hA3, up_ne (by omega)]; exact e4
    have e0 : qLead0 A s = nx5 A3 s (A3 (514 * s + 4) + 1) := by
      unfold qLead0
      dsimp only
      rw [e1, nI_clamp et0, hA3]
    have fin : ∀ (B : Rw) (v : Value), B = qLead1 A s → w_X12_leads_99 (MS Z (d + 7)) G Rp [.ref 2737, .int (nI s), v] [] S (0, 0) (M3 μ t0 B) ρ := by
      intro B v hB
      subst hB
      simp only [w_X12_leads_99, tAload, tIload, nth, tGetI, tGetR, tConst, tLconst, tBin, tUn, tI2l, tAld, tAldR, tAlen, tIast, tBast, tZast, tAast, tIret, tZret, tVret, tAret, tIf, tIf2, tGoto, tIstore, tAstore, sset, tIinc, tDup, tDup2, tPop, tPutI, tPutZ, tPutR, tCallV, tCallS, popN, tFn, tCopy, tMax, tMin, tSw, swc, tRem, tObjI, Option.toList, List.nil_append, List.cons_append, okR, true_and, and_true, true_or, or_true, Nat.zero_le, ne_eq, not_false_eq_true, Nat.reduceEqDiff, F_X12_feedsAll, F_X12_agrees, hS0, hrs, M3_row, M3_setM, M3_upF, M3_M3]
      simp (disch := omega) only [nI_clamp]
      refine ⟨hl1.1.1, agOK_feeds hs5 hl1.1, ?_, fun t => h t⟩
      rw [qFeedsAll_lo (by omega), qFeedsAll_lo (by omega)]
      exact hl1.2
    have loop : ∀ n o : Nat, n + o = 5 → G 36 [.ref 2737, .int (nI s), .int (nI o)] [] S (0, 0) (M3 μ t0 (nxF A3 s (nI (l + 1)) o)) ρ := by
      intro n
      induction n with
      | zero =>
        intro o ho
        obtain rfl : o = 5 := by omega
        refine g36 _ _ _ _ _ _ ?_
        simp only [w_X12_leads_36, w_X12_leads_74, tAload, tIload, nth, tGetI, tGetR, tConst, tLconst, tBin, tUn, tI2l, tAld, tAldR, tAlen, tIast, tBast, tZast, tAast, tIret, tZret, tVret, tAret, tIf, tIf2, tGoto, tIstore, tAstore, sset, tIinc, tDup, tDup2, tPop, tPutI, tPutZ, tPutR, tCallV, tCallS, popN, tFn, tCopy, tMax, tMin, tSw, swc, tRem, tObjI, Option.toList, List.nil_append, List.cons_append, okR, true_and, and_true, true_or, or_true, Nat.zero_le, ne_eq, not_false_eq_true, Nat.reduceEqDiff, F_X12_of, F_X12_comesToLog, hS0, hrs, M3_row, M3_upF]
        simp (disch := omega) only [ixs 1 1 rfl, ixs 4 4 rfl, nI_clamp, nI_inb]
        refine ⟨fun _ => ⟨by omega, fun c => ?_, fun c => ⟨by omega, ?_, ?_⟩⟩, fun c => absurd (by decide) c⟩
        · refine fin _ _ ?_
          rw [qLead1_eq, e0, if_neg ?_, nxF_5, e43, nI_1]
          rw [← nxF_5, nxF_out (by omega) (by omega)] at *
          exact Int32.not_lt.mpr c
        · have c4 := Int32.not_le.mp c
          rw [nxF_out (by omega) (by omega), e43, show (120 : Int32) = nI 120 from rfl, nI_ltI el0 (by decide)] at c4
          rw [nxF_out (by omega) (by omega), e43, rg_nI el0]
          omega
        · refine fin _ _ ?_
          rw [qLead1_eq, e0, e43, nI_1, ← nxF_5, if_pos (Int32.not_le.mp c)]
      | succ n ih =>
        intro o ho
        refine g36 _ _ _ _ _ _ ?_
        have hro : o < 5 := by omega
        simp only [w_X12_leads_36, tAload, tIload, nth, tGetI, tGetR, tConst, tLconst, tBin, tUn, tI2l, tAld, tAldR, tAlen, tIast, tBast, tZast, tAast, tIret, tZret, tVret, tAret, tIf, tIf2, tGoto, tIstore, tAstore, sset, tIinc, tDup, tDup2, tPop, tPutI, tPutZ, tPutR, tCallV, tCallS, popN, tFn, tCopy, tMax, tMin, tSw, swc, tRem, tObjI, Option.toList, List.nil_append, List.cons_append, okR, true_and, and_true, true_or, or_true, Nat.zero_le, ne_eq, not_false_eq_true, Nat.reduceEqDiff, F_X12_of, F_X12_lays, hS0, hrs, M3_row, M3_upF]
        rw [nad' 24 24 rfl, nad' 29 29 rfl]
        simp (disch := omega) only [ixs 4 4 rfl, ixs (24 + o) _ rfl, ixs (29 + o) _ rfl, nI_clamp, nI_inb]
        rw [nxF_out (by omega) (by omega), e43, nI_1]
        refine ⟨fun hc => absurd hc (lt5' o hro), fun _ => ⟨by omega, by omega, by omega, ?_⟩⟩
        have := ih (o + 1) (by omega)
        rw [← nxF_s hro] at this
        rw [nI_1, ← Nat.add_assoc, ← Nat.add_assoc]
        exact this
    have := loop 5 0 rfl
    rw [nxF_0] at this
    exact this
  · exact h.elim
