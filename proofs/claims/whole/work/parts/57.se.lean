/-! ===== the reference: fragile, undo, images, count, the tape ===== -/
abbrev qAny (A : Rw) (u : Int32) : Prop := qElect A 0 u ∨ qElect A 1 u ∨ qElect A 2 u ∨ qElect A 3 u ∨ qElect A 4 u
def w_X12_isAnyElectable_24 (M : CT) (G : Nat → PT) (Rp : RT) : PT := tConst 0 <| tZret Rp
def w_X12_isAnyElectable_18 (M : CT) (G : Nat → PT) (Rp : RT) : PT := tIinc 2 1 <| tGoto (G 2)
def w_X12_isAnyElectable_2 (M : CT) (G : Nat → PT) (Rp : RT) : PT := tIload 2 <| tConst 5 <| tIf2 (fun x y => y ≤ x) (w_X12_isAnyElectable_24 M G Rp) <| tAload 0 <| tIload 2 <| tIload 1 <| tFn 3 F_X12_isElectable <| tIf (fun x => x = 0) (w_X12_isAnyElectable_18 M G Rp) <| tConst 1 <| tZret Rp
def w_X12_isAnyElectable_0 (M : CT) (G : Nat → PT) (Rp : RT) : PT := tConst 0 <| tIstore 2 <| G 2
set_option maxRecDepth 20000 in
theorem b_X12_isAnyElectable_24 {Z : Zt} {d : Nat} {p : Program} {e : Env} {R : Room} {s : State} {m : MethodId} {args : Array Value} {below : List Frame} {meth : Method} {c : Code} {Rp : RT} (C : Cx Z (d + 6) jX12_isAnyElectable RX12 p R s m args meth c) : Sd Z jX12_isAnyElectable p e R s m args below meth c (MQ below (QcS Z Rp) args s 0 0 (fun a => Z.2.2.1 < a)) 24 (w_X12_isAnyElectable_24 (MS Z (d + 6)) (Gw Z 3 p e R s m args below meth c (MQ below (QcS Z Rp) args s 0 0 (fun a => Z.2.2.1 < a))) Rp) := by
  unfold w_X12_isAnyElectable_24
  refine s_iconst (n := 0) C (by decide +kernel) (by decide) ?_
  exact s_zret C rfl (by decide +kernel)
set_option maxRecDepth 20000 in
theorem b_X12_isAnyElectable_18 {Z : Zt} {d : Nat} {p : Program} {e : Env} {R : Room} {s : State} {m : MethodId} {args : Array Value} {below : List Frame} {meth : Method} {c : Code} {Rp : RT} (C : Cx Z (d + 6) jX12_isAnyElectable RX12 p R s m args meth c) : Sd Z jX12_isAnyElectable p e R s m args below meth c (MQ below (QcS Z Rp) args s 0 0 (fun a => Z.2.2.1 < a)) 18 (w_X12_isAnyElectable_18 (MS Z (d + 6)) (Gw Z 3 p e R s m args below meth c (MQ below (QcS Z Rp) args s 0 0 (fun a => Z.2.2.1 < a))) Rp) := by
  unfold w_X12_isAnyElectable_18
  refine s_iinc (n := 1) C (by decide +kernel) (by decide) ?_
  exact s_goto (off := (-19)) (tgt := 2) C (by decide +kernel) (by decide) (fun _ _ _ _ _ _ h => h)
set_option maxRecDepth 20000 in
theorem b_X12_isAnyElectable_2 {Z : Zt} {d : Nat} {p : Program} {e : Env} {R : Room} {s : State} {m : MethodId} {args : Array Value} {below : List Frame} {meth : Method} {c : Code} {Rp : RT} (C : Cx Z (d + 6) jX12_isAnyElectable RX12 p R s m args meth c) : Sd Z jX12_isAnyElectable p e R s m args below meth c (MQ below (QcS Z Rp) args s 0 0 (fun a => Z.2.2.1 < a)) 2 (w_X12_isAnyElectable_2 (MS Z (d + 6)) (Gw Z 3 p e R s m args below meth c (MQ below (QcS Z Rp) args s 0 0 (fun a => Z.2.2.1 < a))) Rp) := by
  unfold w_X12_isAnyElectable_2
  refine s_iload_n (k := 2) C (by decide +kernel) ?_
  refine s_iconst (n := 5) C (by decide +kernel) (by decide) ?_
  refine s_icmp_ge (off := 20) (tgt := 24) C (by decide +kernel) (by decide) (b_X12_isAnyElectable_24 C) ?_
  refine s_aload_n (k := 0) C (by decide +kernel) ?_
  refine s_iload_n (k := 2) C (by decide +kernel) ?_
  refine s_iload_n (k := 1) C (by decide +kernel) ?_
  refine s_fnV C (j2 := jX12_isElectable) (cl := 12) (nf := 27) rfl rfl (by decide +kernel) rfl w_8_156 w_8_158 w_p8_1 w_1_13 w_8_159 (by decide +kernel) (fun _ _ _ _ _ h => f_X12_isElectable h) (fun _ _ _ _ _ h => r_X12_isElectable h) ?_
  refine s_if_eq (off := 5) (tgt := 18) C (by decide +kernel) (by decide) (b_X12_isAnyElectable_18 C) ?_
  refine s_iconst (n := 1) C (by decide +kernel) (by decide) ?_
  exact s_zret C rfl (by decide +kernel)
set_option maxRecDepth 20000 in
theorem b_X12_isAnyElectable_0 {Z : Zt} {d : Nat} {p : Program} {e : Env} {R : Room} {s : State} {m : MethodId} {args : Array Value} {below : List Frame} {meth : Method} {c : Code} {Rp : RT} (C : Cx Z (d + 6) jX12_isAnyElectable RX12 p R s m args meth c) : Sd Z jX12_isAnyElectable p e R s m args below meth c (MQ below (QcS Z Rp) args s 0 0 (fun a => Z.2.2.1 < a)) 0 (w_X12_isAnyElectable_0 (MS Z (d + 6)) (Gw Z 3 p e R s m args below meth c (MQ below (QcS Z Rp) args s 0 0 (fun a => Z.2.2.1 < a))) Rp) := by
  unfold w_X12_isAnyElectable_0
  refine s_iconst (n := 0) C (by decide +kernel) (by decide) ?_
  refine s_istore_n (k := 2) C (by decide +kernel) ?_
  exact (fun _ _ _ _ _ _ h => h)
theorem ms_X12_isAnyElectable {Z : Zt} {d : Nat} {S : Sh} {μ : Mi} {ρ : Mr} {Rp : RT} (a0 : Nat) (x1 : Int32) (h : ∀ G : Nat → PT, (∀ (L st : List Value) (S : Sh) (q : Nat × Nat) (μ : Mi) (ρ : Mr), w_X12_isAnyElectable_2 (MS Z (d + 6)) G Rp L st S q μ ρ → G 2 L st S q μ ρ) → w_X12_isAnyElectable_0 (MS Z (d + 6)) G Rp [.ref a0, .int x1, .null] [] S (0, 0) μ ρ) : MS Z (d + 7) jX12_isAnyElectable [.ref a0, .int x1] S μ ρ Rp :=
  MS_of [.ref a0, .int x1, .null] (by decide +kernel) rfl rfl (Nat.le_of_ble_eq_true rfl) rfl (fun p e R s m args below meth c C => b_X12_isAnyElectable_0 C _ _ _ _ _ _ (h _ (b_X12_isAnyElectable_2 C)))
def F_X12_isAnyElectable : FT := fun As S μ ρ k => match As with
  | [.ref a, .int u] => a = 2737 ∧ RS S ρ ∧ (∀ s, s < 5 → bsOK (μ 2738) s) ∧ ∀ t : T4, k (some (.int (b2 (qAny (μ 2738) u)))) (M3 μ t (μ 2738))
  | _ => False
theorem r_X12_isAnyElectable {As S μ ρ k} (h : F_X12_isAnyElectable As S μ ρ k) : ∃ a As', As = Value.ref a :: As' ∧ S.2 a = (12, 27) := by
  unfold F_X12_isAnyElectable at h
  split at h
  · exact ⟨_, _, rfl, by rw [h.1]; exact h.2.1.1⟩
  · exact h.elim
set_option maxHeartbeats 1000000 in
theorem f_X12_isAnyElectable {Z : Zt} {d : Nat} {As : List Value} {S : Sh} {μ : Mi} {ρ : Mr} {Rp : RT} (h : F_X12_isAnyElectable As S μ ρ (fun r μ' => Rp r S μ' ρ)) : MS Z (d + 7) jX12_isAnyElectable As S μ ρ Rp := by
  unfold F_X12_isAnyElectable at h
  split at h
  · rename_i a u
    obtain ⟨rfl, hS, h⟩ := h
    have hS0 := hS
    unfold RS at hS
    obtain ⟨h2, h⟩ := h
    obtain ⟨t0, ht0⟩ := M3_self μ
    rw [ht0]
    generalize hA : μ 2738 = A at *
    refine ms_X12_isAnyElectable _ _ (fun G g2 => ?_)
    have step : ∀ (o : Nat) (t : T4), o < 5 → (qElect A o u → qAny A u) → (¬ qElect A o u → ∀ t, G 2 [.ref 2737, .int u, .int (nI (o + 1))] [] S (0, 0) (M3 μ t A) ρ) → G 2 [.ref 2737, .int u, .int (nI o)] [] S (0, 0) (M3 μ t A) ρ := by
      intro o t ho hy hn
      have hro := rg_T (lo := 0) (hi := 4) (n := o) (by omega) (by omega) (by omega)
      refine g2 _ _ _ _ _ _ ?_
      simp only [w_X12_isAnyElectable_2, w_X12_isAnyElectable_18, tAload, tIload, nth, tGetI, tGetR, tConst, tLconst, tBin, tUn, tI2l, tAld, tAldR, tAlen, tIast, tBast, tZast, tAast, tIret, tZret, tVret, tAret, tIf, tIf2, tGoto, tIstore, tAstore, sset, tIinc, tDup, tDup2, tPop, tPutI, tPutZ, tPutR, tCallV, tCallS, popN, tFn, tCopy, tMax, tMin, tSw, swc, tRem, tObjI, Option.toList, List.nil_append, List.cons_append, okR, true_and, and_true, true_or, or_true, Nat.zero_le, ne_eq, not_false_eq_true, Nat.reduceEqDiff, F_X12_isElectable, hS0, hro, M3_row, M3_M3, b2_z, Decidable.not_not, nI_1]
      simp (disch := omega) only [nI_clamp]
      refine ⟨fun z => absurd z (lt5' o ho), fun _ => ⟨h2, fun t => ⟨fun c => hn c t, fun c => ?_⟩⟩⟩
      have := h t
      unfold b2 at this
      rw [if_pos (hy c)] at this
      exact this
    simp only [w_X12_isAnyElectable_0, tAload, tIload, nth, tGetI, tGetR, tConst, tLconst, tBin, tUn, tI2l, tAld, tAldR, tAlen, tIast, tBast, tZast, tAast, tIret, tZret, tVret, tAret, tIf, tIf2, tGoto, tIstore, tAstore, sset, tIinc, tDup, tDup2, tPop, tPutI, tPutZ, tPutR, tCallV, tCallS, popN, tFn, tCopy, tMax, tMin, tSw, swc, tRem, tObjI, Option.toList, List.nil_append, List.cons_append, okR, true_and, and_true, true_or, or_true, Nat.zero_le, ne_eq, not_false_eq_true, Nat.reduceEqDiff]
    refine step 0 t0 (by decide) (fun z => Or.inl z) (fun n0 t => step 1 t (by decide) (fun z => Or.inr (Or.inl z)) (fun n1 t => step 2 t (by decide) (fun z => Or.inr (Or.inr (Or.inl z))) (fun n2 t => step 3 t (by decide) (fun z => Or.inr (Or.inr (Or.inr (Or.inl z)))) (fun n3 t => step 4 t (by decide) (fun z => Or.inr (Or.inr (Or.inr (Or.inr z)))) (fun n4 t => ?_)))))
    refine g2 _ _ _ _ _ _ ?_
    simp only [w_X12_isAnyElectable_2, w_X12_isAnyElectable_24, tAload, tIload, nth, tGetI, tGetR, tConst, tLconst, tBin, tUn, tI2l, tAld, tAldR, tAlen, tIast, tBast, tZast, tAast, tIret, tZret, tVret, tAret, tIf, tIf2, tGoto, tIstore, tAstore, sset, tIinc, tDup, tDup2, tPop, tPutI, tPutZ, tPutR, tCallV, tCallS, popN, tFn, tCopy, tMax, tMin, tSw, swc, tRem, tObjI, Option.toList, List.nil_append, List.cons_append, okR, true_and, and_true, true_or, or_true, Nat.zero_le, ne_eq, not_false_eq_true, Nat.reduceEqDiff]
    refine ⟨fun _ => ?_, fun z => absurd (by decide) z⟩
    have := h t
    unfold b2 at this
    rw [if_neg (fun z => by rcases z with z | z | z | z | z; exact n0 z; exact n1 z; exact n2 z; exact n3 z; exact n4 z)] at this
    exact this
  · exact h.elim
def fg1 (A : Rw) (ups : Int32) (set : Nat) (best : Int32) : Int32 := if nI set &&& (ups ^^^ (-1)) = 0 ∧ ¬ best ≤ cnt5 (nI set) ∧ ¬ qAny A (ups &&& (nI set ^^^ (-1))) then cnt5 (nI set) else best
def fgF (A : Rw) (ups : Int32) : Nat → Nat → Int32 → Int32 := fun m set best => match m with
  | 0 => best
  | m + 1 => fgF A ups m (set + 1) (fg1 A ups set best)
def vFragile (A : Rw) : Int32 := fgF A (qUps A) 32 0 5
def w_X12_fragile_59 (M : CT) (G : Nat → PT) (Rp : RT) : PT := tIload 2 <| tIret Rp
def w_X12_fragile_53 (M : CT) (G : Nat → PT) (Rp : RT) : PT := tIinc 3 1 <| tGoto (G 14)
def w_X12_fragile_14 (M : CT) (G : Nat → PT) (Rp : RT) : PT := tIload 3 <| tConst 31 <| tIf2 (fun x y => y < x) (w_X12_fragile_59 M G Rp) <| tIload 3 <| tIload 1 <| tConst (-1) <| tBin (fun x y => x ^^^ y) <| tBin (fun x y => x &&& y) <| tIf (fun x => x ≠ 0) (w_X12_fragile_53 M G Rp) <| tIload 3 <| tFn 1 F_X12_bits <| tIload 2 <| tIf2 (fun x y => y ≤ x) (w_X12_fragile_53 M G Rp) <| tAload 0 <| tIload 1 <| tIload 3 <| tConst (-1) <| tBin (fun x y => x ^^^ y) <| tBin (fun x y => x &&& y) <| tFn 2 F_X12_isAnyElectable <| tIf (fun x => x ≠ 0) (w_X12_fragile_53 M G Rp) <| tIload 3 <| tFn 1 F_X12_bits <| tIstore 2 <| w_X12_fragile_53 M G Rp
def w_X12_fragile_0 (M : CT) (G : Nat → PT) (Rp : RT) : PT := tAload 0 <| tConst 0 <| tPutI 12 27 0 <| tAload 0 <| tFn 1 F_X12_upOnes <| tIstore 1 <| tConst 5 <| tIstore 2 <| tConst 0 <| tIstore 3 <| G 14
set_option maxRecDepth 20000 in
theorem b_X12_fragile_59 {Z : Zt} {d : Nat} {p : Program} {e : Env} {R : Room} {s : State} {m : MethodId} {args : Array Value} {below : List Frame} {meth : Method} {c : Code} {Rp : RT} (C : Cx Z (d + 7) jX12_fragile RX12 p R s m args meth c) : Sd Z jX12_fragile p e R s m args below meth c (MQ below (QcS Z Rp) args s 0 0 (fun a => Z.2.2.1 < a)) 59 (w_X12_fragile_59 (MS Z (d + 7)) (Gw Z 4 p e R s m args below meth c (MQ below (QcS Z Rp) args s 0 0 (fun a => Z.2.2.1 < a))) Rp) := by
  unfold w_X12_fragile_59
  refine s_iload_n (k := 2) C (by decide +kernel) ?_
  exact s_iret C rfl (by decide +kernel)
set_option maxRecDepth 20000 in
theorem b_X12_fragile_53 {Z : Zt} {d : Nat} {p : Program} {e : Env} {R : Room} {s : State} {m : MethodId} {args : Array Value} {below : List Frame} {meth : Method} {c : Code} {Rp : RT} (C : Cx Z (d + 7) jX12_fragile RX12 p R s m args meth c) : Sd Z jX12_fragile p e R s m args below meth c (MQ below (QcS Z Rp) args s 0 0 (fun a => Z.2.2.1 < a)) 53 (w_X12_fragile_53 (MS Z (d + 7)) (Gw Z 4 p e R s m args below meth c (MQ below (QcS Z Rp) args s 0 0 (fun a => Z.2.2.1 < a))) Rp) := by
  unfold w_X12_fragile_53
  refine s_iinc (n := 1) C (by decide +kernel) (by decide) ?_
  exact s_goto (off := (-42)) (tgt := 14) C (by decide +kernel) (by decide) (fun _ _ _ _ _ _ h => h)
set_option maxRecDepth 20000 in
theorem b_X12_fragile_14 {Z : Zt} {d : Nat} {p : Program} {e : Env} {R : Room} {s : State} {m : MethodId} {args : Array Value} {below : List Frame} {meth : Method} {c : Code} {Rp : RT} (C : Cx Z (d + 7) jX12_fragile RX12 p R s m args meth c) : Sd Z jX12_fragile p e R s m args below meth c (MQ below (QcS Z Rp) args s 0 0 (fun a => Z.2.2.1 < a)) 14 (w_X12_fragile_14 (MS Z (d + 7)) (Gw Z 4 p e R s m args below meth c (MQ below (QcS Z Rp) args s 0 0 (fun a => Z.2.2.1 < a))) Rp) := by
  unfold w_X12_fragile_14
  refine s_iload_n (k := 3) C (by decide +kernel) ?_
  refine s_bipush (n := 31) C (by decide +kernel) (by decide) ?_
  refine s_icmp_gt (off := 42) (tgt := 59) C (by decide +kernel) (by decide) (b_X12_fragile_59 C) ?_
  refine s_iload_n (k := 3) C (by decide +kernel) ?_
  refine s_iload_n (k := 1) C (by decide +kernel) ?_
  refine s_iconst (n := (-1)) C (by decide +kernel) (by decide) ?_
  refine s_ixor C (by decide +kernel) ?_
  refine s_iand C (by decide +kernel) ?_
  refine s_if_ne (off := 28) (tgt := 53) C (by decide +kernel) (by decide) (b_X12_fragile_53 C) ?_
  refine s_iload_n (k := 3) C (by decide +kernel) ?_
  refine s_fnS C (j2 := jX12_bits) (by decide +kernel) rfl w_6_185 w_6_186 w_1_13 w_6_187 (by decide +kernel) (fun _ _ _ _ _ h => f_X12_bits h) ?_
  refine s_iload_n (k := 2) C (by decide +kernel) ?_
  refine s_icmp_ge (off := 20) (tgt := 53) C (by decide +kernel) (by decide) (b_X12_fragile_53 C) ?_
  refine s_aload_n (k := 0) C (by decide +kernel) ?_
  refine s_iload_n (k := 1) C (by decide +kernel) ?_
  refine s_iload_n (k := 3) C (by decide +kernel) ?_
  refine s_iconst (n := (-1)) C (by decide +kernel) (by decide) ?_
  refine s_ixor C (by decide +kernel) ?_
  refine s_iand C (by decide +kernel) ?_
  refine s_fnV C (j2 := jX12_isAnyElectable) (cl := 12) (nf := 27) rfl rfl (by decide +kernel) rfl w_8_237 w_8_239 w_p8_10 w_1_13 w_9_0 (by decide +kernel) (fun _ _ _ _ _ h => f_X12_isAnyElectable h) (fun _ _ _ _ _ h => r_X12_isAnyElectable h) ?_
  refine s_if_ne (off := 8) (tgt := 53) C (by decide +kernel) (by decide) (b_X12_fragile_53 C) ?_
  refine s_iload_n (k := 3) C (by decide +kernel) ?_
  refine s_fnS C (j2 := jX12_bits) (by decide +kernel) rfl w_6_185 w_6_186 w_1_13 w_6_187 (by decide +kernel) (fun _ _ _ _ _ h => f_X12_bits h) ?_
  refine s_istore_n (k := 2) C (by decide +kernel) ?_
  exact (b_X12_fragile_53 C)
set_option maxRecDepth 20000 in
theorem b_X12_fragile_0 {Z : Zt} {d : Nat} {p : Program} {e : Env} {R : Room} {s : State} {m : MethodId} {args : Array Value} {below : List Frame} {meth : Method} {c : Code} {Rp : RT} (C : Cx Z (d + 7) jX12_fragile RX12 p R s m args meth c) : Sd Z jX12_fragile p e R s m args below meth c (MQ below (QcS Z Rp) args s 0 0 (fun a => Z.2.2.1 < a)) 0 (w_X12_fragile_0 (MS Z (d + 7)) (Gw Z 4 p e R s m args below meth c (MQ below (QcS Z Rp) args s 0 0 (fun a => Z.2.2.1 < a))) Rp) := by
  unfold w_X12_fragile_0
  refine s_aload_n (k := 0) C (by decide +kernel) ?_
  refine s_iconst (n := 0) C (by decide +kernel) (by decide) ?_
  refine s_putI C w_6_87 (by decide +kernel) rfl (Or.inl rfl) ?_
  refine s_aload_n (k := 0) C (by decide +kernel) ?_
  refine s_fnV C (j2 := jX12_upOnes) (cl := 12) (nf := 27) rfl rfl (by decide +kernel) rfl w_8_152 w_8_154 w_p8_0 w_1_13 w_8_155 (by decide +kernel) (fun _ _ _ _ _ h => f_X12_upOnes h) (fun _ _ _ _ _ h => r_X12_upOnes h) ?_
  refine s_istore_n (k := 1) C (by decide +kernel) ?_
  refine s_iconst (n := 5) C (by decide +kernel) (by decide) ?_
  refine s_istore_n (k := 2) C (by decide +kernel) ?_
  refine s_iconst (n := 0) C (by decide +kernel) (by decide) ?_
  refine s_istore_n (k := 3) C (by decide +kernel) ?_
  exact (fun _ _ _ _ _ _ h => h)
theorem ms_X12_fragile {Z : Zt} {d : Nat} {S : Sh} {μ : Mi} {ρ : Mr} {Rp : RT} (a0 : Nat) (h : ∀ G : Nat → PT, (∀ (L st : List Value) (S : Sh) (q : Nat × Nat) (μ : Mi) (ρ : Mr), w_X12_fragile_14 (MS Z (d + 7)) G Rp L st S q μ ρ → G 14 L st S q μ ρ) → w_X12_fragile_0 (MS Z (d + 7)) G Rp [.ref a0, .null, .null, .null] [] S (0, 0) μ ρ) : MS Z (d + 8) jX12_fragile [.ref a0] S μ ρ Rp :=
  MS_of [.ref a0, .null, .null, .null] (by decide +kernel) rfl rfl (Nat.le_of_ble_eq_true rfl) rfl (fun p e R s m args below meth c C => b_X12_fragile_0 C _ _ _ _ _ _ (h _ (b_X12_fragile_14 C)))
def F_X12_fragile : FT := fun As S μ ρ k => match As with
  | [.ref a] => a = 2737 ∧ RS S ρ ∧ good (μ 2738) ∧ ∀ μ', RQ μ μ' (μ 2738) (μ 2739) (μ 2737 6) → k (some (.int (vFragile (μ 2738)))) μ'
  | _ => False
theorem r_X12_fragile {As S μ ρ k} (h : F_X12_fragile As S μ ρ k) : ∃ a As', As = Value.ref a :: As' ∧ S.2 a = (12, 27) := by
  unfold F_X12_fragile at h
  split at h
  · exact ⟨_, _, rfl, by rw [h.1]; exact h.2.1.1⟩
  · exact h.elim
set_option maxHeartbeats 1000000 in
theorem f_X12_fragile {Z : Zt} {d : Nat} {As : List Value} {S : Sh} {μ : Mi} {ρ : Mr} {Rp : RT} (h : F_X12_fragile As S μ ρ (fun r μ' => Rp r S μ' ρ)) : MS Z (d + 8) jX12_fragile As S μ ρ Rp := by
  unfold F_X12_fragile at h
  split at h
  · rename_i a
    obtain ⟨rfl, hS, h⟩ := h
    have hS0 := hS
    unfold RS at hS
    obtain ⟨hg, h⟩ := h
    unfold vFragile at h
    have h2 := good_all hg
    refine ms_X12_fragile _ (fun G g14 => ?_)
    simp only [w_X12_fragile_0, tAload, tIload, nth, tGetI, tGetR, tConst, tLconst, tBin, tUn, tI2l, tAld, tAldR, tAlen, tIast, tBast, tZast, tAast, tIret, tZret, tVret, tAret, tIf, tIf2, tGoto, tIstore, tAstore, sset, tIinc, tDup, tDup2, tPop, tPutI, tPutZ, tPutR, tCallV, tCallS, popN, tFn, tCopy, tMax, tMin, tSw, swc, tRem, tObjI, Option.toList, List.nil_append, List.cons_append, okR, true_and, and_true, true_or, or_true, Nat.zero_le, ne_eq, not_false_eq_true, Nat.reduceEqDiff, F_X12_upOnes, hS0, hS, e6, M6_row]
    generalize hu : qUps (μ 2738) = ups at *
    have fin : ∀ t : T4, RQ μ (M3 (M6 μ) t (μ 2738)) (μ 2738) (μ 2739) (μ 2737 6) := fun t => RQ_3
    generalize hA : μ 2738 = A at *
    have hb : ∀ x : Int32, F_X12_bits [.int x] = F_X12_bits [.int x] := fun _ => rfl
    have loop : ∀ (m set : Nat) (best : Int32) (t : T4), m + set = 32 → fgF A ups m set best = fgF A ups 32 0 5 → G 14 [.ref 2737, .int ups, .int best, .int (nI set)] [] S (0, 0) (M3 (M6 μ) t A) ρ := by
      intro m
      induction m with
      | zero =>
        intro set best t hm he
        obtain rfl : set = 32 := by omega
        refine g14 _ _ _ _ _ _ ?_
        simp only [w_X12_fragile_14, w_X12_fragile_59, tAload, tIload, nth, tGetI, tGetR, tConst, tLconst, tBin, tUn, tI2l, tAld, tAldR, tAlen, tIast, tBast, tZast, tAast, tIret, tZret, tVret, tAret, tIf, tIf2, tGoto, tIstore, tAstore, sset, tIinc, tDup, tDup2, tPop, tPutI, tPutZ, tPutR, tCallV, tCallS, popN, tFn, tCopy, tMax, tMin, tSw, swc, tRem, tObjI, Option.toList, List.nil_append, List.cons_append, okR, true_and, and_true, true_or, or_true, Nat.zero_le, ne_eq, not_false_eq_true, Nat.reduceEqDiff]
        refine ⟨fun _ => ?_, fun z => absurd (by decide) z⟩
        have := h _ (fin t)
        rw [← he] at this
        exact this
      | succ m ih =>
        intro set best t hm he
        have he' : fgF A ups m (set + 1) (fg1 A ups set best) = fgF A ups 32 0 5 := he
        have lt : ¬ (31 : Int32) < nI set := by rw [show (31 : Int32) = nI 31 from rfl, nI_ltI (by decide) (by omega)]; omega
        have next : ∀ t, G 14 [.ref 2737, .int ups, .int (fg1 A ups set best), .int (nI (set + 1))] [] S (0, 0) (M3 (M6 μ) t A) ρ := fun t => ih _ _ t (by omega) he'
        unfold fg1 at next
        refine g14 _ _ _ _ _ _ ?_
        simp only [w_X12_fragile_14, w_X12_fragile_53, tAload, tIload, nth, tGetI, tGetR, tConst, tLconst, tBin, tUn, tI2l, tAld, tAldR, tAlen, tIast, tBast, tZast, tAast, tIret, tZret, tVret, tAret, tIf, tIf2, tGoto, tIstore, tAstore, sset, tIinc, tDup, tDup2, tPop, tPutI, tPutZ, tPutR, tCallV, tCallS, popN, tFn, tCopy, tMax, tMin, tSw, swc, tRem, tObjI, Option.toList, List.nil_append, List.cons_append, okR, true_and, and_true, true_or, or_true, Nat.zero_le, ne_eq, not_false_eq_true, Nat.reduceEqDiff, F_X12_bits, F_X12_isAnyElectable, hS0, M3_row, M3_M3, b2_z, Decidable.not_not, nI_1]
        refine ⟨fun z => absurd z lt, fun _ => ⟨fun c => ?_, fun c => ⟨fun c2 => ?_, fun c2 => ⟨h2, fun t => ⟨fun c3 => ?_, fun c3 => ?_⟩⟩⟩⟩⟩
        · have := next t
          rw [if_neg (fun z => c z.1)] at this; exact this
        · have := next t
          rw [if_neg (fun z => z.2.1 c2)] at this; exact this
        · have := next t
          rw [if_neg (fun z => z.2.2 c3)] at this; exact this
        · have := next t
          rw [if_pos ⟨c, c2, c3⟩] at this; exact this
    obtain ⟨t0, ht0⟩ := M3_self (M6 μ)
    rw [M6_row, hA] at ht0
    rw [ht0]
    exact loop 32 0 5 t0 rfl rfl
  · exact h.elim
def uNo (n dm : Int32) : Prop := ¬ (rgd n 1 8 ∧ n ≤ dm)
def w_X12_undo_28 (M : CT) (G : Nat → PT) (Rp : RT) : PT := tAload 0 <| tDup <| tGetI 12 27 6 <| tIload 1 <| tBin (fun x y => x - y) <| tPutI 12 27 6 <| tAload 0 <| tGetR 12 27 2 <| tConst 4516 <| tAload 0 <| tGetI 12 27 6 <| tBin (fun x y => x * y) <| tAload 0 <| tGetR 12 27 1 <| tConst 0 <| tConst 4516 <| tFn 5 F_X12_copies <| tAload 0 <| tGetI 12 27 6 <| tIret Rp
def w_X12_undo_25 (M : CT) (G : Nat → PT) (Rp : RT) : PT := tConst (-3) <| tIret Rp
def w_X12_undo_0 (M : CT) (G : Nat → PT) (Rp : RT) : PT := tAload 0 <| tConst 0 <| tPutI 12 27 0 <| tIload 1 <| tI2l <| tLconst 1 <| tLconst 8 <| tFn 3 F_X12_within <| tIf (fun x => x = 0) (w_X12_undo_25 M G Rp) <| tIload 1 <| tAload 0 <| tGetI 12 27 6 <| tIf2 (fun x y => x ≤ y) (w_X12_undo_28 M G Rp) <| w_X12_undo_25 M G Rp
set_option maxRecDepth 20000 in
theorem b_X12_undo_28 {Z : Zt} {d : Nat} {p : Program} {e : Env} {R : Room} {s : State} {m : MethodId} {args : Array Value} {below : List Frame} {meth : Method} {c : Code} {Rp : RT} (C : Cx Z (d + 1) jX12_undo RX12 p R s m args meth c) : Sd Z jX12_undo p e R s m args below meth c (MQ below (QcS Z Rp) args s 0 0 (fun a => Z.2.2.1 < a)) 28 (w_X12_undo_28 (MS Z (d + 1)) (Gw Z 2 p e R s m args below meth c (MQ below (QcS Z Rp) args s 0 0 (fun a => Z.2.2.1 < a))) Rp) := by
  unfold w_X12_undo_28
  refine s_aload_n (k := 0) C (by decide +kernel) ?_
  refine s_dup C (by decide +kernel) ?_
  refine s_getI C w_6_93 (by decide +kernel) rfl ?_
  refine s_iload_n (k := 1) C (by decide +kernel) ?_
  refine s_isub C (by decide +kernel) ?_
  refine s_putI C w_6_93 (by decide +kernel) rfl (Or.inl rfl) ?_
  refine s_aload_n (k := 0) C (by decide +kernel) ?_
  refine s_getR C w_6_89 (by decide +kernel) rfl ?_
  refine s_sipush (n := 4516) C (by decide +kernel) (by decide) ?_
  refine s_aload_n (k := 0) C (by decide +kernel) ?_
  refine s_getI C w_6_93 (by decide +kernel) rfl ?_
  refine s_imul C (by decide +kernel) ?_
  refine s_aload_n (k := 0) C (by decide +kernel) ?_
  refine s_getR C w_6_88 (by decide +kernel) rfl ?_
  refine s_iconst (n := 0) C (by decide +kernel) (by decide) ?_
  refine s_sipush (n := 4516) C (by decide +kernel) (by decide) ?_
  refine s_fnS C (j2 := jX12_copies) (by decide +kernel) rfl w_6_182 w_6_183 w_1_13 w_6_184 (by decide +kernel) (fun _ _ _ _ _ h => f_X12_copies h) ?_
  refine s_aload_n (k := 0) C (by decide +kernel) ?_
  refine s_getI C w_6_93 (by decide +kernel) rfl ?_
  exact s_iret C rfl (by decide +kernel)
set_option maxRecDepth 20000 in
theorem b_X12_undo_25 {Z : Zt} {d : Nat} {p : Program} {e : Env} {R : Room} {s : State} {m : MethodId} {args : Array Value} {below : List Frame} {meth : Method} {c : Code} {Rp : RT} (C : Cx Z (d + 1) jX12_undo RX12 p R s m args meth c) : Sd Z jX12_undo p e R s m args below meth c (MQ below (QcS Z Rp) args s 0 0 (fun a => Z.2.2.1 < a)) 25 (w_X12_undo_25 (MS Z (d + 1)) (Gw Z 2 p e R s m args below meth c (MQ below (QcS Z Rp) args s 0 0 (fun a => Z.2.2.1 < a))) Rp) := by
  unfold w_X12_undo_25
  refine s_bipush (n := (-3)) C (by decide +kernel) (by decide) ?_
  exact s_iret C rfl (by decide +kernel)
set_option maxRecDepth 20000 in
theorem b_X12_undo_0 {Z : Zt} {d : Nat} {p : Program} {e : Env} {R : Room} {s : State} {m : MethodId} {args : Array Value} {below : List Frame} {meth : Method} {c : Code} {Rp : RT} (C : Cx Z (d + 1) jX12_undo RX12 p R s m args meth c) : Sd Z jX12_undo p e R s m args below meth c (MQ below (QcS Z Rp) args s 0 0 (fun a => Z.2.2.1 < a)) 0 (w_X12_undo_0 (MS Z (d + 1)) (Gw Z 2 p e R s m args below meth c (MQ below (QcS Z Rp) args s 0 0 (fun a => Z.2.2.1 < a))) Rp) := by
  unfold w_X12_undo_0
  refine s_aload_n (k := 0) C (by decide +kernel) ?_
  refine s_iconst (n := 0) C (by decide +kernel) (by decide) ?_
  refine s_putI C w_6_87 (by decide +kernel) rfl (Or.inl rfl) ?_
  refine s_iload_n (k := 1) C (by decide +kernel) ?_
  refine s_i2l C (by decide +kernel) ?_
  refine s_lconst (n := 1) C (by decide +kernel) (by decide) ?_
  refine s_ldc2 C w_8_131 (by decide +kernel) ?_
  refine s_fnS C (j2 := jX12_within) (by decide +kernel) rfl w_6_175 w_6_176 w_1_13 w_6_177 (by decide +kernel) (fun _ _ _ _ _ h => f_X12_within h) ?_
  refine s_if_eq (off := 11) (tgt := 25) C (by decide +kernel) (by decide) (b_X12_undo_25 C) ?_
  refine s_iload_n (k := 1) C (by decide +kernel) ?_
  refine s_aload_n (k := 0) C (by decide +kernel) ?_
  refine s_getI C w_6_93 (by decide +kernel) rfl ?_
  refine s_icmp_le (off := 6) (tgt := 28) C (by decide +kernel) (by decide) (b_X12_undo_28 C) ?_
  exact (b_X12_undo_25 C)
theorem ms_X12_undo {Z : Zt} {d : Nat} {S : Sh} {μ : Mi} {ρ : Mr} {Rp : RT} (a0 : Nat) (x1 : Int32) (h : ∀ G : Nat → PT, w_X12_undo_0 (MS Z (d + 1)) G Rp [.ref a0, .int x1] [] S (0, 0) μ ρ) : MS Z (d + 2) jX12_undo [.ref a0, .int x1] S μ ρ Rp :=
  MS_of [.ref a0, .int x1] (by decide +kernel) rfl rfl (Nat.le_of_ble_eq_true rfl) rfl (fun p e R s m args below meth c C => b_X12_undo_0 C _ _ _ _ _ _ (h _ ))
def F_X12_undo : FT := fun As S μ ρ k => match As with
  | [.ref a, .int n] => a = 2737 ∧ RS S ρ ∧ rg (μ 2737 6) 0 8 ∧ (uNo n (μ 2737 6) → ∀ μ', RQ μ μ' (μ 2738) (μ 2739) (μ 2737 6) → k (some (.int (-3))) μ') ∧ (¬ uNo n (μ 2737 6) → ∀ μ', RQ μ μ' (cpF (μ 2739) (μ 2738) (4516 * (μ 2737 6 - n).toNatClampNeg) 0 4516) (μ 2739) (μ 2737 6 - n) → k (some (.int (μ 2737 6 - n))) μ')
  | _ => False
theorem r_X12_undo {As S μ ρ k} (h : F_X12_undo As S μ ρ k) : ∃ a As', As = Value.ref a :: As' ∧ S.2 a = (12, 27) := by
  unfold F_X12_undo at h
  split at h
  · exact ⟨_, _, rfl, by rw [h.1]; exact h.2.1.1⟩
  · exact h.elim
set_option maxHeartbeats 1000000 in
theorem f_X12_undo {Z : Zt} {d : Nat} {As : List Value} {S : Sh} {μ : Mi} {ρ : Mr} {Rp : RT} (h : F_X12_undo As S μ ρ (fun r μ' => Rp r S μ' ρ)) : MS Z (d + 2) jX12_undo As S μ ρ Rp := by
  unfold F_X12_undo at h
  split at h
  · rename_i a n
    obtain ⟨rfl, hS, h⟩ := h
    have hS0 := hS
    unfold RS at hS
    obtain ⟨h1, hno, hyes⟩ := h
    obtain ⟨m, em, em0, -, em1⟩ := rg_ex h1
    refine ms_X12_undo _ _ (fun G => ?_)
    simp only [w_X12_undo_0, w_X12_undo_25, tAload, tIload, nth, tGetI, tGetR, tConst, tLconst, tBin, tUn, tI2l, tAld, tAldR, tAlen, tIast, tBast, tZast, tAast, tIret, tZret, tVret, tAret, tIf, tIf2, tGoto, tIstore, tAstore, sset, tIinc, tDup, tDup2, tPop, tPutI, tPutZ, tPutR, tCallV, tCallS, popN, tFn, tCopy, tMax, tMin, tSw, swc, tRem, tObjI, Option.toList, List.nil_append, List.cons_append, okR, true_and, and_true, true_or, or_true, Nat.zero_le, ne_eq, not_false_eq_true, Nat.reduceEqDiff, F_X12_within, hS0, hS, e6, M6_f (show 6 ≠ 0 by decide), b2_z, Decidable.not_not, l_leC, l_geC, il_1, il_8]
    refine ⟨fun c => hno (fun z => c z.1) _ RQ_0, fun c => ⟨fun c2 => ?_, fun c2 => hno (fun z => c2 z.2) _ RQ_0⟩⟩
    have hy := hyes (fun z => z ⟨c, c2⟩)
    obtain ⟨n, rfl, hn0, hn1, hn2⟩ := rg_ex (lo := 1) (hi := 8) c
    rw [em, nI_leI hn0 em0] at c2
    rw [em, pk_sub c2, nI_clamp (by omega)] at hy
    have e0 : (4516 : Int32) * nI (m - n) = nI (4516 * (m - n)) := by rw [show (4516 : Int32) = nI 4516 from rfl, pk_mul]
    have e2 : upI (M6 μ) 2737 6 (nI (m - n)) 2739 = μ 2739 := by rw [upI_upF, upF_ne (by decide)]; exact M6_out (by decide)
    have e3 : upI (M6 μ) 2737 6 (nI (m - n)) 2738 = μ 2738 := by rw [upI_upF, upF_ne (by decide)]; exact M6_row
    have e4 : ∀ X : Rw, upF (upI (M6 μ) 2737 6 (nI (m - n))) 2738 X 2737 6 = nI (m - n) := fun X => by rw [upF_ne (by decide), upI_at]
    simp only [w_X12_undo_28, tAload, tIload, nth, tGetI, tGetR, tConst, tLconst, tBin, tUn, tI2l, tAld, tAldR, tAlen, tIast, tBast, tZast, tAast, tIret, tZret, tVret, tAret, tIf, tIf2, tGoto, tIstore, tAstore, sset, tIinc, tDup, tDup2, tPop, tPutI, tPutZ, tPutR, tCallV, tCallS, popN, tFn, tCopy, tMax, tMin, tSw, swc, tRem, tObjI, Option.toList, List.nil_append, List.cons_append, okR, true_and, and_true, true_or, or_true, Nat.zero_le, ne_eq, not_false_eq_true, Nat.reduceEqDiff, F_X12_copies, hS, M6_f (show 6 ≠ 0 by decide), em, pk_sub c2, upI_at, e0, e2, e3, e4]
    simp (disch := omega) only [nI_clamp, nI_toInt, cl_0, cl_4516]
    refine ⟨by omega, by decide, by decide, by omega, by decide, by decide, by decide, ?_⟩
    refine hy _ ⟨fun a ha => ?_, upF_same, ?_, e4 _, ?_, ?_, ?_, fun f q1 q2 q3 q4 => ?_⟩
    · rw [upF_ne (by omega), upI_upF, upF_ne (by omega)]; exact M6_out (by omega)
    · rw [upF_ne (by decide)]; exact e2
    · rw [upF_ne (by decide), upI_upF, upF_ne (by decide)]; exact M6_out (by decide)
    · rw [upF_ne (by decide), upI_upF, upF_ne (by decide)]; exact M6_out (by decide)
    · rw [upF_ne (by decide), upI_upF, upF_ne (by decide)]; exact M6_out (by decide)
    · rw [upF_ne (by decide), upI_upF, upF_same, up_ne (by omega)]; exact M6_f (by omega)
  · exact h.elim
def w_X12_image_18 (M : CT) (G : Nat → PT) (Rp : RT) : PT := tAload 0 <| tGetR 12 27 1 <| tConst 0 <| tAload 0 <| tGetR 12 27 1 <| tConst 4516 <| tIload 1 <| tConst 1 <| tBin (fun x y => x + y) <| tBin (fun x y => x * y) <| tConst 4516 <| tFn 5 F_X12_copies <| tAload 0 <| tGetR 12 27 7 <| tIload 1 <| tConst 1 <| tZast <| tConst 0 <| tIret Rp
def w_X12_image_0 (M : CT) (G : Nat → PT) (Rp : RT) : PT := tAload 0 <| tConst 0 <| tPutI 12 27 0 <| tIload 1 <| tI2l <| tLconst 0 <| tLconst 1 <| tFn 3 F_X12_within <| tIf (fun x => x ≠ 0) (w_X12_image_18 M G Rp) <| tConst (-2) <| tIret Rp
set_option maxRecDepth 20000 in
theorem b_X12_image_18 {Z : Zt} {d : Nat} {p : Program} {e : Env} {R : Room} {s : State} {m : MethodId} {args : Array Value} {below : List Frame} {meth : Method} {c : Code} {Rp : RT} (C : Cx Z (d + 1) jX12_image RX12 p R s m args meth c) : Sd Z jX12_image p e R s m args below meth c (MQ below (QcS Z Rp) args s 0 0 (fun a => Z.2.2.1 < a)) 18 (w_X12_image_18 (MS Z (d + 1)) (Gw Z 2 p e R s m args below meth c (MQ below (QcS Z Rp) args s 0 0 (fun a => Z.2.2.1 < a))) Rp) := by
  unfold w_X12_image_18
  refine s_aload_n (k := 0) C (by decide +kernel) ?_
  refine s_getR C w_6_88 (by decide +kernel) rfl ?_
  refine s_iconst (n := 0) C (by decide +kernel) (by decide) ?_
  refine s_aload_n (k := 0) C (by decide +kernel) ?_
  refine s_getR C w_6_88 (by decide +kernel) rfl ?_
  refine s_sipush (n := 4516) C (by decide +kernel) (by decide) ?_
  refine s_iload_n (k := 1) C (by decide +kernel) ?_
  refine s_iconst (n := 1) C (by decide +kernel) (by decide) ?_
  refine s_iadd C (by decide +kernel) ?_
  refine s_imul C (by decide +kernel) ?_
  refine s_sipush (n := 4516) C (by decide +kernel) (by decide) ?_
  refine s_fnS C (j2 := jX12_copies) (by decide +kernel) rfl w_6_182 w_6_183 w_1_13 w_6_184 (by decide +kernel) (fun _ _ _ _ _ h => f_X12_copies h) ?_
  refine s_aload_n (k := 0) C (by decide +kernel) ?_
  refine s_getR C w_6_94 (by decide +kernel) rfl ?_
  refine s_iload_n (k := 1) C (by decide +kernel) ?_
  refine s_iconst (n := 1) C (by decide +kernel) (by decide) ?_
  refine s_zast C (by decide +kernel) ?_
  refine s_iconst (n := 0) C (by decide +kernel) (by decide) ?_
  exact s_iret C rfl (by decide +kernel)
set_option maxRecDepth 20000 in
theorem b_X12_image_0 {Z : Zt} {d : Nat} {p : Program} {e : Env} {R : Room} {s : State} {m : MethodId} {args : Array Value} {below : List Frame} {meth : Method} {c : Code} {Rp : RT} (C : Cx Z (d + 1) jX12_image RX12 p R s m args meth c) : Sd Z jX12_image p e R s m args below meth c (MQ below (QcS Z Rp) args s 0 0 (fun a => Z.2.2.1 < a)) 0 (w_X12_image_0 (MS Z (d + 1)) (Gw Z 2 p e R s m args below meth c (MQ below (QcS Z Rp) args s 0 0 (fun a => Z.2.2.1 < a))) Rp) := by
  unfold w_X12_image_0
  refine s_aload_n (k := 0) C (by decide +kernel) ?_
  refine s_iconst (n := 0) C (by decide +kernel) (by decide) ?_
  refine s_putI C w_6_87 (by decide +kernel) rfl (Or.inl rfl) ?_
  refine s_iload_n (k := 1) C (by decide +kernel) ?_
  refine s_i2l C (by decide +kernel) ?_
  refine s_lconst (n := 0) C (by decide +kernel) (by decide) ?_
  refine s_lconst (n := 1) C (by decide +kernel) (by decide) ?_
  refine s_fnS C (j2 := jX12_within) (by decide +kernel) rfl w_6_175 w_6_176 w_1_13 w_6_177 (by decide +kernel) (fun _ _ _ _ _ h => f_X12_within h) ?_
  refine s_if_ne (off := 6) (tgt := 18) C (by decide +kernel) (by decide) (b_X12_image_18 C) ?_
  refine s_bipush (n := (-2)) C (by decide +kernel) (by decide) ?_
  exact s_iret C rfl (by decide +kernel)
theorem ms_X12_image {Z : Zt} {d : Nat} {S : Sh} {μ : Mi} {ρ : Mr} {Rp : RT} (a0 : Nat) (x1 : Int32) (h : ∀ G : Nat → PT, w_X12_image_0 (MS Z (d + 1)) G Rp [.ref a0, .int x1] [] S (0, 0) μ ρ) : MS Z (d + 2) jX12_image [.ref a0, .int x1] S μ ρ Rp :=
  MS_of [.ref a0, .int x1] (by decide +kernel) rfl rfl (Nat.le_of_ble_eq_true rfl) rfl (fun p e R s m args below meth c C => b_X12_image_0 C _ _ _ _ _ _ (h _ ))
def F_X12_image : FT := fun As S μ ρ k => match As with
  | [.ref a, .int i] => a = 2737 ∧ RS S ρ ∧ (¬ rgd i 0 1 → ∀ μ', RQ μ μ' (μ 2738) (μ 2739) (μ 2737 6) → k (some (.int (-2))) μ') ∧ (rgd i 0 1 → ∀ μ', RQ (upI μ 2743 i.toNatClampNeg 1) μ' (cpF (μ 2738) (μ 2738) 0 (4516 * (i.toNatClampNeg + 1)) 4516) (μ 2739) (μ 2737 6) → k (some (.int 0)) μ')
  | _ => False
theorem r_X12_image {As S μ ρ k} (h : F_X12_image As S μ ρ k) : ∃ a As', As = Value.ref a :: As' ∧ S.2 a = (12, 27) := by
  unfold F_X12_image at h
  split at h
  · exact ⟨_, _, rfl, by rw [h.1]; exact h.2.1.1⟩
  · exact h.elim
set_option maxHeartbeats 1000000 in
theorem f_X12_image {Z : Zt} {d : Nat} {As : List Value} {S : Sh} {μ : Mi} {ρ : Mr} {Rp : RT} (h : F_X12_image As S μ ρ (fun r μ' => Rp r S μ' ρ)) : MS Z (d + 2) jX12_image As S μ ρ Rp := by
  unfold F_X12_image at h
  split at h
  · rename_i a i
    obtain ⟨rfl, hS, h⟩ := h
    have hS0 := hS
    unfold RS at hS
    obtain ⟨hno, hyes⟩ := h
    refine ms_X12_image _ _ (fun G => ?_)
    simp only [w_X12_image_0, tAload, tIload, nth, tGetI, tGetR, tConst, tLconst, tBin, tUn, tI2l, tAld, tAldR, tAlen, tIast, tBast, tZast, tAast, tIret, tZret, tVret, tAret, tIf, tIf2, tGoto, tIstore, tAstore, sset, tIinc, tDup, tDup2, tPop, tPutI, tPutZ, tPutR, tCallV, tCallS, popN, tFn, tCopy, tMax, tMin, tSw, swc, tRem, tObjI, Option.toList, List.nil_append, List.cons_append, okR, true_and, and_true, true_or, or_true, Nat.zero_le, ne_eq, not_false_eq_true, Nat.reduceEqDiff, F_X12_within, hS0, hS, e6, b2_z, Decidable.not_not, l_leC, l_geC, il_0, il_1]
    refine ⟨fun c => ?_, fun c => hno c _ RQ_0⟩
    have hy := hyes c
    obtain ⟨i, rfl, hi0, -, hi1⟩ := rg_ex (lo := 0) (hi := 1) c
    rw [nI_clamp hi0] at hy
    have e0 : (4516 : Int32) * nI (i + 1) = nI (4516 * (i + 1)) := by rw [show (4516 : Int32) = nI 4516 from rfl, pk_mul]
    simp only [w_X12_image_18, tAload, tIload, nth, tGetI, tGetR, tConst, tLconst, tBin, tUn, tI2l, tAld, tAldR, tAlen, tIast, tBast, tZast, tAast, tIret, tZret, tVret, tAret, tIf, tIf2, tGoto, tIstore, tAstore, sset, tIinc, tDup, tDup2, tPop, tPutI, tPutZ, tPutR, tCallV, tCallS, popN, tFn, tCopy, tMax, tMin, tSw, swc, tRem, tObjI, Option.toList, List.nil_append, List.cons_append, okR, true_and, and_true, true_or, or_true, Nat.zero_le, ne_eq, not_false_eq_true, Nat.reduceEqDiff, F_X12_copies, hS, M6_row, nI_1, e0]
    simp (disch := omega) only [nI_clamp, nI_toInt, nI_inb, cl_0, cl_4516]
    refine ⟨by decide, by omega, by decide, by decide, by omega, by decide, by decide, Or.inr (Or.inr (by omega)), by omega, ?_⟩
    have e1 : (1 : Int32) &&& 1 = 1 := by decide
    rw [e1]
    have q3 : ∀ X : Rw, upI (upF (M6 μ) 2738 X) 2743 i 1 2743 = upI μ 2743 i 1 2743 := by
      intro X
      rw [upI_upF, upI_upF, upF_same, upF_same, upF_ne (by decide), M6_out (by decide)]
    have q0 : ∀ (X : Rw) (a : Nat), a ≠ 2743 → upI (upF (M6 μ) 2738 X) 2743 i 1 a = upF (M6 μ) 2738 X a := fun X a ha => by rw [upI_upF, upF_ne ha]
    have q1 : ∀ a : Nat, a ≠ 2743 → upI μ 2743 i 1 a = μ a := fun a ha => by rw [upI_upF, upF_ne ha]
    refine hy _ ⟨fun a ha => ?_, ?_, ?_, ?_, q3 _, ?_, ?_, fun f q1' q2 q3 q4 => ?_⟩
    · rw [q0 _ _ (by omega), q1 _ (by omega), upF_ne (by omega)]; exact M6_out (by omega)
    · rw [q0 _ _ (by decide), upF_same]
    · rw [q0 _ _ (by decide), upF_ne (by decide)]; exact M6_out (by decide)
    · rw [q0 _ _ (by decide), upF_ne (by decide)]; exact M6_f (by decide)
    · rw [q0 _ _ (by decide), q1 _ (by decide), upF_ne (by decide)]; exact M6_out (by decide)
    · rw [q0 _ _ (by decide), q1 _ (by decide), upF_ne (by decide)]; exact M6_out (by decide)
    · rw [q0 _ _ (by decide), q1 _ (by decide), upF_ne (by decide)]; exact M6_f (by omega)
  · exact h.elim
def w_X12_restore_30 (M : CT) (G : Nat → PT) (Rp : RT) : PT := tAload 0 <| tGetR 12 27 1 <| tConst 4516 <| tIload 1 <| tConst 1 <| tBin (fun x y => x + y) <| tBin (fun x y => x * y) <| tAload 0 <| tGetR 12 27 1 <| tConst 0 <| tConst 4516 <| tFn 5 F_X12_copies <| tAload 0 <| tConst 0 <| tPutI 12 27 6 <| tConst 0 <| tIret Rp
def w_X12_restore_18 (M : CT) (G : Nat → PT) (Rp : RT) : PT := tAload 0 <| tGetR 12 27 7 <| tIload 1 <| tAld 22 <| tIf (fun x => x ≠ 0) (w_X12_restore_30 M G Rp) <| tConst (-6) <| tIret Rp
def w_X12_restore_0 (M : CT) (G : Nat → PT) (Rp : RT) : PT := tAload 0 <| tConst 0 <| tPutI 12 27 0 <| tIload 1 <| tI2l <| tLconst 0 <| tLconst 1 <| tFn 3 F_X12_within <| tIf (fun x => x ≠ 0) (w_X12_restore_18 M G Rp) <| tConst (-2) <| tIret Rp
set_option maxRecDepth 20000 in
theorem b_X12_restore_30 {Z : Zt} {d : Nat} {p : Program} {e : Env} {R : Room} {s : State} {m : MethodId} {args : Array Value} {below : List Frame} {meth : Method} {c : Code} {Rp : RT} (C : Cx Z (d + 1) jX12_restore RX12 p R s m args meth c) : Sd Z jX12_restore p e R s m args below meth c (MQ below (QcS Z Rp) args s 0 0 (fun a => Z.2.2.1 < a)) 30 (w_X12_restore_30 (MS Z (d + 1)) (Gw Z 2 p e R s m args below meth c (MQ below (QcS Z Rp) args s 0 0 (fun a => Z.2.2.1 < a))) Rp) := by
  unfold w_X12_restore_30
  refine s_aload_n (k := 0) C (by decide +kernel) ?_
  refine s_getR C w_6_88 (by decide +kernel) rfl ?_
  refine s_sipush (n := 4516) C (by decide +kernel) (by decide) ?_
  refine s_iload_n (k := 1) C (by decide +kernel) ?_
  refine s_iconst (n := 1) C (by decide +kernel) (by decide) ?_
  refine s_iadd C (by decide +kernel) ?_
  refine s_imul C (by decide +kernel) ?_
  refine s_aload_n (k := 0) C (by decide +kernel) ?_
  refine s_getR C w_6_88 (by decide +kernel) rfl ?_
  refine s_iconst (n := 0) C (by decide +kernel) (by decide) ?_
  refine s_sipush (n := 4516) C (by decide +kernel) (by decide) ?_
  refine s_fnS C (j2 := jX12_copies) (by decide +kernel) rfl w_6_182 w_6_183 w_1_13 w_6_184 (by decide +kernel) (fun _ _ _ _ _ h => f_X12_copies h) ?_
  refine s_aload_n (k := 0) C (by decide +kernel) ?_
  refine s_iconst (n := 0) C (by decide +kernel) (by decide) ?_
  refine s_putI C w_6_93 (by decide +kernel) rfl (Or.inl rfl) ?_
  refine s_iconst (n := 0) C (by decide +kernel) (by decide) ?_
  exact s_iret C rfl (by decide +kernel)
set_option maxRecDepth 20000 in
theorem b_X12_restore_18 {Z : Zt} {d : Nat} {p : Program} {e : Env} {R : Room} {s : State} {m : MethodId} {args : Array Value} {below : List Frame} {meth : Method} {c : Code} {Rp : RT} (C : Cx Z (d + 1) jX12_restore RX12 p R s m args meth c) : Sd Z jX12_restore p e R s m args below meth c (MQ below (QcS Z Rp) args s 0 0 (fun a => Z.2.2.1 < a)) 18 (w_X12_restore_18 (MS Z (d + 1)) (Gw Z 2 p e R s m args below meth c (MQ below (QcS Z Rp) args s 0 0 (fun a => Z.2.2.1 < a))) Rp) := by
  unfold w_X12_restore_18
  refine s_aload_n (k := 0) C (by decide +kernel) ?_
  refine s_getR C w_6_94 (by decide +kernel) rfl ?_
  refine s_iload_n (k := 1) C (by decide +kernel) ?_
  refine s_zald C (by decide +kernel) ?_
  refine s_if_ne (off := 6) (tgt := 30) C (by decide +kernel) (by decide) (b_X12_restore_30 C) ?_
  refine s_bipush (n := (-6)) C (by decide +kernel) (by decide) ?_
  exact s_iret C rfl (by decide +kernel)
set_option maxRecDepth 20000 in
theorem b_X12_restore_0 {Z : Zt} {d : Nat} {p : Program} {e : Env} {R : Room} {s : State} {m : MethodId} {args : Array Value} {below : List Frame} {meth : Method} {c : Code} {Rp : RT} (C : Cx Z (d + 1) jX12_restore RX12 p R s m args meth c) : Sd Z jX12_restore p e R s m args below meth c (MQ below (QcS Z Rp) args s 0 0 (fun a => Z.2.2.1 < a)) 0 (w_X12_restore_0 (MS Z (d + 1)) (Gw Z 2 p e R s m args below meth c (MQ below (QcS Z Rp) args s 0 0 (fun a => Z.2.2.1 < a))) Rp) := by
  unfold w_X12_restore_0
  refine s_aload_n (k := 0) C (by decide +kernel) ?_
  refine s_iconst (n := 0) C (by decide +kernel) (by decide) ?_
  refine s_putI C w_6_87 (by decide +kernel) rfl (Or.inl rfl) ?_
  refine s_iload_n (k := 1) C (by decide +kernel) ?_
  refine s_i2l C (by decide +kernel) ?_
  refine s_lconst (n := 0) C (by decide +kernel) (by decide) ?_
  refine s_lconst (n := 1) C (by decide +kernel) (by decide) ?_
  refine s_fnS C (j2 := jX12_within) (by decide +kernel) rfl w_6_175 w_6_176 w_1_13 w_6_177 (by decide +kernel) (fun _ _ _ _ _ h => f_X12_within h) ?_
  refine s_if_ne (off := 6) (tgt := 18) C (by decide +kernel) (by decide) (b_X12_restore_18 C) ?_
  refine s_bipush (n := (-2)) C (by decide +kernel) (by decide) ?_
  exact s_iret C rfl (by decide +kernel)
theorem ms_X12_restore {Z : Zt} {d : Nat} {S : Sh} {μ : Mi} {ρ : Mr} {Rp : RT} (a0 : Nat) (x1 : Int32) (h : ∀ G : Nat → PT, w_X12_restore_0 (MS Z (d + 1)) G Rp [.ref a0, .int x1] [] S (0, 0) μ ρ) : MS Z (d + 2) jX12_restore [.ref a0, .int x1] S μ ρ Rp :=
  MS_of [.ref a0, .int x1] (by decide +kernel) rfl rfl (Nat.le_of_ble_eq_true rfl) rfl (fun p e R s m args below meth c C => b_X12_restore_0 C _ _ _ _ _ _ (h _ ))
def F_X12_restore : FT := fun As S μ ρ k => match As with
  | [.ref a, .int i] => a = 2737 ∧ RS S ρ ∧ (¬ rgd i 0 1 → ∀ μ', RQ μ μ' (μ 2738) (μ 2739) (μ 2737 6) → k (some (.int (-2))) μ') ∧ (rgd i 0 1 → μ 2743 i.toNatClampNeg = 0 → ∀ μ', RQ μ μ' (μ 2738) (μ 2739) (μ 2737 6) → k (some (.int (-6))) μ') ∧ (rgd i 0 1 → ¬ μ 2743 i.toNatClampNeg = 0 → ∀ μ', RQ μ μ' (cpF (μ 2738) (μ 2738) (4516 * (i.toNatClampNeg + 1)) 0 4516) (μ 2739) 0 → k (some (.int 0)) μ')
  | _ => False
theorem r_X12_restore {As S μ ρ k} (h : F_X12_restore As S μ ρ k) : ∃ a As', As = Value.ref a :: As' ∧ S.2 a = (12, 27) := by
  unfold F_X12_restore at h
  split at h
  · exact ⟨_, _, rfl, by rw [h.1]; exact h.2.1.1⟩
  · exact h.elim
set_option maxHeartbeats 1000000 in
theorem f_X12_restore {Z : Zt} {d : Nat} {As : List Value} {S : Sh} {μ : Mi} {ρ : Mr} {Rp : RT} (h : F_X12_restore As S μ ρ (fun r μ' => Rp r S μ' ρ)) : MS Z (d + 2) jX12_restore As S μ ρ Rp := by
  unfold F_X12_restore at h
  split at h
  · rename_i a i
    obtain ⟨rfl, hS, h⟩ := h
    have hS0 := hS
    unfold RS at hS
    obtain ⟨hno, hno2, hyes⟩ := h
    refine ms_X12_restore _ _ (fun G => ?_)
    simp only [w_X12_restore_0, tAload, tIload, nth, tGetI, tGetR, tConst, tLconst, tBin, tUn, tI2l, tAld, tAldR, tAlen, tIast, tBast, tZast, tAast, tIret, tZret, tVret, tAret, tIf, tIf2, tGoto, tIstore, tAstore, sset, tIinc, tDup, tDup2, tPop, tPutI, tPutZ, tPutR, tCallV, tCallS, popN, tFn, tCopy, tMax, tMin, tSw, swc, tRem, tObjI, Option.toList, List.nil_append, List.cons_append, okR, true_and, and_true, true_or, or_true, Nat.zero_le, ne_eq, not_false_eq_true, Nat.reduceEqDiff, F_X12_within, hS0, hS, e6, b2_z, Decidable.not_not, l_leC, l_geC, il_0, il_1]
    refine ⟨fun c => ?_, fun c => hno c _ RQ_0⟩
    have hn := hno2 c
    have hy := hyes c
    obtain ⟨i, rfl, hi0, -, hi1⟩ := rg_ex (lo := 0) (hi := 1) c
    rw [nI_clamp hi0] at hy hn
    have e0 : (4516 : Int32) * nI (i + 1) = nI (4516 * (i + 1)) := by rw [show (4516 : Int32) = nI 4516 from rfl, pk_mul]
    simp only [w_X12_restore_18, w_X12_restore_30, tAload, tIload, nth, tGetI, tGetR, tConst, tLconst, tBin, tUn, tI2l, tAld, tAldR, tAlen, tIast, tBast, tZast, tAast, tIret, tZret, tVret, tAret, tIf, tIf2, tGoto, tIstore, tAstore, sset, tIinc, tDup, tDup2, tPop, tPutI, tPutZ, tPutR, tCallV, tCallS, popN, tFn, tCopy, tMax, tMin, tSw, swc, tRem, tObjI, Option.toList, List.nil_append, List.cons_append, okR, true_and, and_true, true_or, or_true, Nat.zero_le, ne_eq, not_false_eq_true, Nat.reduceEqDiff, F_X12_copies, hS, M6_row, M6_out (show 2743 ≠ 2737 by decide), nI_1, e0, Decidable.not_not]
    simp (disch := omega) only [nI_clamp, nI_toInt, nI_inb, cl_0, cl_4516]
    refine ⟨by omega, fun c2 => ⟨by omega, by decide, by decide, by omega, by decide, by decide, by decide, Or.inr (Or.inl (by omega)), ?_⟩, fun c2 => hn c2 _ RQ_0⟩
    refine hy c2 _ ⟨fun a ha => ?_, ?_, ?_, upI_at, ?_, ?_, ?_, fun f q1 q2 q3 q4 => ?_⟩
    · rw [upI_upF, upF_ne (by omega), upF_ne (by omega)]; exact M6_out (by omega)
    · rw [upI_upF, upF_ne (by decide), upF_same]
    · rw [upI_upF, upF_ne (by decide), upF_ne (by decide)]; exact M6_out (by decide)
    · rw [upI_upF, upF_ne (by decide), upF_ne (by decide)]; exact M6_out (by decide)
    · rw [upI_upF, upF_ne (by decide), upF_ne (by decide)]; exact M6_out (by decide)
    · rw [upI_upF, upF_ne (by decide), upF_ne (by decide)]; exact M6_out (by decide)
    · rw [upI_upF, upF_same, up_ne (by omega), upF_ne (by decide)]; exact M6_f (by omega)
  · exact h.elim
def grt1 (A : Rw) (w o : Nat) (acc : Int32) : Int32 := gt acc (A (514 * o + w))
def qGreatest (A : Rw) (w : Nat) : Int32 := grt1 A w 4 (grt1 A w 3 (grt1 A w 2 (grt1 A w 1 (grt1 A w 0 0))))
def w_X12_greatest_26 (M : CT) (G : Nat → PT) (Rp : RT) : PT := tIload 2 <| tIret Rp
def w_X12_greatest_4 (M : CT) (G : Nat → PT) (Rp : RT) : PT := tIload 3 <| tConst 5 <| tIf2 (fun x y => y ≤ x) (w_X12_greatest_26 M G Rp) <| tIload 2 <| tAload 0 <| tIload 3 <| tIload 1 <| tFn 3 F_X12_of <| tFn 2 F_X12_greater <| tIstore 2 <| tIinc 3 1 <| tGoto (G 4)
def w_X12_greatest_0 (M : CT) (G : Nat → PT) (Rp : RT) : PT := tConst 0 <| tIstore 2 <| tConst 0 <| tIstore 3 <| G 4
set_option maxRecDepth 20000 in
theorem b_X12_greatest_26 {Z : Zt} {d : Nat} {p : Program} {e : Env} {R : Room} {s : State} {m : MethodId} {args : Array Value} {below : List Frame} {meth : Method} {c : Code} {Rp : RT} (C : Cx Z (d + 1) jX12_greatest RX12 p R s m args meth c) : Sd Z jX12_greatest p e R s m args below meth c (MQ below (QcS Z Rp) args s 0 0 (fun a => Z.2.2.1 < a)) 26 (w_X12_greatest_26 (MS Z (d + 1)) (Gw Z 4 p e R s m args below meth c (MQ below (QcS Z Rp) args s 0 0 (fun a => Z.2.2.1 < a))) Rp) := by
  unfold w_X12_greatest_26
  refine s_iload_n (k := 2) C (by decide +kernel) ?_
  exact s_iret C rfl (by decide +kernel)
set_option maxRecDepth 20000 in
theorem b_X12_greatest_4 {Z : Zt} {d : Nat} {p : Program} {e : Env} {R : Room} {s : State} {m : MethodId} {args : Array Value} {below : List Frame} {meth : Method} {c : Code} {Rp : RT} (C : Cx Z (d + 1) jX12_greatest RX12 p R s m args meth c) : Sd Z jX12_greatest p e R s m args below meth c (MQ below (QcS Z Rp) args s 0 0 (fun a => Z.2.2.1 < a)) 4 (w_X12_greatest_4 (MS Z (d + 1)) (Gw Z 4 p e R s m args below meth c (MQ below (QcS Z Rp) args s 0 0 (fun a => Z.2.2.1 < a))) Rp) := by
  unfold w_X12_greatest_4
  refine s_iload_n (k := 3) C (by decide +kernel) ?_
  refine s_iconst (n := 5) C (by decide +kernel) (by decide) ?_
  refine s_icmp_ge (off := 20) (tgt := 26) C (by decide +kernel) (by decide) (b_X12_greatest_26 C) ?_
  refine s_iload_n (k := 2) C (by decide +kernel) ?_
  refine s_aload_n (k := 0) C (by decide +kernel) ?_
  refine s_iload_n (k := 3) C (by decide +kernel) ?_
  refine s_iload_n (k := 1) C (by decide +kernel) ?_
  refine s_fnV C (j2 := jX12_of) (cl := 12) (nf := 27) rfl rfl (by decide +kernel) rfl w_6_220 w_6_222 w_p3_11 w_1_13 w_6_223 (by decide +kernel) (fun _ _ _ _ _ h => f_X12_of h) (fun _ _ _ _ _ h => r_X12_of h) ?_
  refine s_fnS C (j2 := jX12_greater) (by decide +kernel) rfl w_7_58 w_7_59 w_1_13 w_7_60 (by decide +kernel) (fun _ _ _ _ _ h => f_X12_greater h) ?_
  refine s_istore_n (k := 2) C (by decide +kernel) ?_
  refine s_iinc (n := 1) C (by decide +kernel) (by decide) ?_
  exact s_goto (off := (-19)) (tgt := 4) C (by decide +kernel) (by decide) (fun _ _ _ _ _ _ h => h)
set_option maxRecDepth 20000 in
theorem b_X12_greatest_0 {Z : Zt} {d : Nat} {p : Program} {e : Env} {R : Room} {s : State} {m : MethodId} {args : Array Value} {below : List Frame} {meth : Method} {c : Code} {Rp : RT} (C : Cx Z (d + 1) jX12_greatest RX12 p R s m args meth c) : Sd Z jX12_greatest p e R s m args below meth c (MQ below (QcS Z Rp) args s 0 0 (fun a => Z.2.2.1 < a)) 0 (w_X12_greatest_0 (MS Z (d + 1)) (Gw Z 4 p e R s m args below meth c (MQ below (QcS Z Rp) args s 0 0 (fun a => Z.2.2.1 < a))) Rp) := by
  unfold w_X12_greatest_0
  refine s_iconst (n := 0) C (by decide +kernel) (by decide) ?_
  refine s_istore_n (k := 2) C (by decide +kernel) ?_
  refine s_iconst (n := 0) C (by decide +kernel) (by decide) ?_
  refine s_istore_n (k := 3) C (by decide +kernel) ?_
  exact (fun _ _ _ _ _ _ h => h)
theorem ms_X12_greatest {Z : Zt} {d : Nat} {S : Sh} {μ : Mi} {ρ : Mr} {Rp : RT} (a0 : Nat) (x1 : Int32) (h : ∀ G : Nat → PT, (∀ (L st : List Value) (S : Sh) (q : Nat × Nat) (μ : Mi) (ρ : Mr), w_X12_greatest_4 (MS Z (d + 1)) G Rp L st S q μ ρ → G 4 L st S q μ ρ) → w_X12_greatest_0 (MS Z (d + 1)) G Rp [.ref a0, .int x1, .null, .null] [] S (0, 0) μ ρ) : MS Z (d + 2) jX12_greatest [.ref a0, .int x1] S μ ρ Rp :=
  MS_of [.ref a0, .int x1, .null, .null] (by decide +kernel) rfl rfl (Nat.le_of_ble_eq_true rfl) rfl (fun p e R s m args below meth c C => b_X12_greatest_0 C _ _ _ _ _ _ (h _ (b_X12_greatest_4 C)))
def F_X12_greatest : FT := fun As S μ ρ k => match As with
  | [.ref a, .int w] => a = 2737 ∧ RS S ρ ∧ rg w 0 20 ∧ k (some (.int (qGreatest (μ 2738) w.toNatClampNeg))) μ
  | _ => False
theorem r_X12_greatest {As S μ ρ k} (h : F_X12_greatest As S μ ρ k) : ∃ a As', As = Value.ref a :: As' ∧ S.2 a = (12, 27) := by
  unfold F_X12_greatest at h
  split at h
  · exact ⟨_, _, rfl, by rw [h.1]; exact h.2.1.1⟩
  · exact h.elim
set_option maxHeartbeats 1000000 in
theorem f_X12_greatest {Z : Zt} {d : Nat} {As : List Value} {S : Sh} {μ : Mi} {ρ : Mr} {Rp : RT} (h : F_X12_greatest As S μ ρ (fun r μ' => Rp r S μ' ρ)) : MS Z (d + 2) jX12_greatest As S μ ρ Rp := by
  unfold F_X12_greatest at h
  split at h
  · rename_i a w
    obtain ⟨rfl, hS, h⟩ := h
    have hS0 := hS
    unfold RS at hS
    obtain ⟨h1, h⟩ := h
    obtain ⟨w, rfl, hw0, -, hw1⟩ := rg_ex h1
    rw [nI_clamp hw0] at h
    refine ms_X12_greatest _ _ (fun G g4 => ?_)
    have step : ∀ (o : Nat) (acc : Int32), o < 5 → G 4 [.ref 2737, .int (nI w), .int (grt1 (μ 2738) w o acc), .int (nI (o + 1))] [] S (0, 0) μ ρ → G 4 [.ref 2737, .int (nI w), .int acc, .int (nI o)] [] S (0, 0) μ ρ := by
      intro o acc ho hG
      refine g4 _ _ _ _ _ _ ?_
      simp only [w_X12_greatest_4, tAload, tIload, nth, tGetI, tGetR, tConst, tLconst, tBin, tUn, tI2l, tAld, tAldR, tAlen, tIast, tBast, tZast, tAast, tIret, tZret, tVret, tAret, tIf, tIf2, tGoto, tIstore, tAstore, sset, tIinc, tDup, tDup2, tPop, tPutI, tPutZ, tPutR, tCallV, tCallS, popN, tFn, tCopy, tMax, tMin, tSw, swc, tRem, tObjI, Option.toList, List.nil_append, List.cons_append, okR, true_and, and_true, true_or, or_true, Nat.zero_le, ne_eq, not_false_eq_true, Nat.reduceEqDiff, F_X12_of, F_X12_greater, hS0, ixs w _ rfl, nI_1]
      simp (disch := omega) only [nI_clamp, nI_inb]
      exact ⟨fun z => absurd z (lt5' o ho), fun _ => ⟨by omega, hG⟩⟩
    simp only [w_X12_greatest_0, tAload, tIload, nth, tGetI, tGetR, tConst, tLconst, tBin, tUn, tI2l, tAld, tAldR, tAlen, tIast, tBast, tZast, tAast, tIret, tZret, tVret, tAret, tIf, tIf2, tGoto, tIstore, tAstore, sset, tIinc, tDup, tDup2, tPop, tPutI, tPutZ, tPutR, tCallV, tCallS, popN, tFn, tCopy, tMax, tMin, tSw, swc, tRem, tObjI, Option.toList, List.nil_append, List.cons_append, okR, true_and, and_true, true_or, or_true, Nat.zero_le, ne_eq, not_false_eq_true, Nat.reduceEqDiff]
    refine step 0 _ (by decide) (step 1 _ (by decide) (step 2 _ (by decide) (step 3 _ (by decide) (step 4 _ (by decide) ?_))))
    refine g4 _ _ _ _ _ _ ?_
    simp only [w_X12_greatest_4, w_X12_greatest_26, tAload, tIload, nth, tGetI, tGetR, tConst, tLconst, tBin, tUn, tI2l, tAld, tAldR, tAlen, tIast, tBast, tZast, tAast, tIret, tZret, tVret, tAret, tIf, tIf2, tGoto, tIstore, tAstore, sset, tIinc, tDup, tDup2, tPop, tPutI, tPutZ, tPutR, tCallV, tCallS, popN, tFn, tCopy, tMax, tMin, tSw, swc, tRem, tObjI, Option.toList, List.nil_append, List.cons_append, okR, true_and, and_true, true_or, or_true, Nat.zero_le, ne_eq, not_false_eq_true, Nat.reduceEqDiff]
    exact ⟨fun _ => h, fun z => absurd (by decide) z⟩
  · exact h.elim
def ld1 (A : Rw) (o : Nat) (acc : Int32) : Int32 := acc ||| (if A (514 * o + 3) = 2 then (1 : Int32) <<< (nI o &&& 31) else 0)
def qLds (A : Rw) : Int32 := ld1 A 4 (ld1 A 3 (ld1 A 2 (ld1 A 1 (ld1 A 0 0))))
def w_X12_leadersNow_33 (M : CT) (G : Nat → PT) (Rp : RT) : PT := tIload 1 <| tIret Rp
def w_X12_leadersNow_25 (M : CT) (G : Nat → PT) (Rp : RT) : PT := tBin (fun x y => x ||| y) <| tIstore 1 <| tIinc 2 1 <| tGoto (G 4)
def w_X12_leadersNow_24 (M : CT) (G : Nat → PT) (Rp : RT) : PT := tConst 0 <| w_X12_leadersNow_25 M G Rp
def w_X12_leadersNow_4 (M : CT) (G : Nat → PT) (Rp : RT) : PT := tIload 2 <| tConst 5 <| tIf2 (fun x y => y ≤ x) (w_X12_leadersNow_33 M G Rp) <| tIload 1 <| tAload 0 <| tIload 2 <| tFn 2 F_X12_isLeader <| tIf (fun x => x = 0) (w_X12_leadersNow_24 M G Rp) <| tConst 1 <| tIload 2 <| tBin (fun x y => x <<< (y &&& 31)) <| tGoto (w_X12_leadersNow_25 M G Rp)
def w_X12_leadersNow_0 (M : CT) (G : Nat → PT) (Rp : RT) : PT := tConst 0 <| tIstore 1 <| tConst 0 <| tIstore 2 <| G 4
set_option maxRecDepth 20000 in
theorem b_X12_leadersNow_33 {Z : Zt} {d : Nat} {p : Program} {e : Env} {R : Room} {s : State} {m : MethodId} {args : Array Value} {below : List Frame} {meth : Method} {c : Code} {Rp : RT} (C : Cx Z (d + 2) jX12_leadersNow RX12 p R s m args meth c) : Sd Z jX12_leadersNow p e R s m args below meth c (MQ below (QcS Z Rp) args s 0 0 (fun a => Z.2.2.1 < a)) 33 (w_X12_leadersNow_33 (MS Z (d + 2)) (Gw Z 3 p e R s m args below meth c (MQ below (QcS Z Rp) args s 0 0 (fun a => Z.2.2.1 < a))) Rp) := by
  unfold w_X12_leadersNow_33
  refine s_iload_n (k := 1) C (by decide +kernel) ?_
  exact s_iret C rfl (by decide +kernel)
set_option maxRecDepth 20000 in
theorem b_X12_leadersNow_25 {Z : Zt} {d : Nat} {p : Program} {e : Env} {R : Room} {s : State} {m : MethodId} {args : Array Value} {below : List Frame} {meth : Method} {c : Code} {Rp : RT} (C : Cx Z (d + 2) jX12_leadersNow RX12 p R s m args meth c) : Sd Z jX12_leadersNow p e R s m args below meth c (MQ below (QcS Z Rp) args s 0 0 (fun a => Z.2.2.1 < a)) 25 (w_X12_leadersNow_25 (MS Z (d + 2)) (Gw Z 3 p e R s m args below meth c (MQ below (QcS Z Rp) args s 0 0 (fun a => Z.2.2.1 < a))) Rp) := by
  unfold w_X12_leadersNow_25
  refine s_ior C (by decide +kernel) ?_
  refine s_istore_n (k := 1) C (by decide +kernel) ?_
  refine s_iinc (n := 1) C (by decide +kernel) (by decide) ?_
  exact s_goto (off := (-26)) (tgt := 4) C (by decide +kernel) (by decide) (fun _ _ _ _ _ _ h => h)
set_option maxRecDepth 20000 in
theorem b_X12_leadersNow_24 {Z : Zt} {d : Nat} {p : Program} {e : Env} {R : Room} {s : State} {m : MethodId} {args : Array Value} {below : List Frame} {meth : Method} {c : Code} {Rp : RT} (C : Cx Z (d + 2) jX12_leadersNow RX12 p R s m args meth c) : Sd Z jX12_leadersNow p e R s m args below meth c (MQ below (QcS Z Rp) args s 0 0 (fun a => Z.2.2.1 < a)) 24 (w_X12_leadersNow_24 (MS Z (d + 2)) (Gw Z 3 p e R s m args below meth c (MQ below (QcS Z Rp) args s 0 0 (fun a => Z.2.2.1 < a))) Rp) := by
  unfold w_X12_leadersNow_24
  refine s_iconst (n := 0) C (by decide +kernel) (by decide) ?_
  exact (b_X12_leadersNow_25 C)
set_option maxRecDepth 20000 in
theorem b_X12_leadersNow_4 {Z : Zt} {d : Nat} {p : Program} {e : Env} {R : Room} {s : State} {m : MethodId} {args : Array Value} {below : List Frame} {meth : Method} {c : Code} {Rp : RT} (C : Cx Z (d + 2) jX12_leadersNow RX12 p R s m args meth c) : Sd Z jX12_leadersNow p e R s m args below meth c (MQ below (QcS Z Rp) args s 0 0 (fun a => Z.2.2.1 < a)) 4 (w_X12_leadersNow_4 (MS Z (d + 2)) (Gw Z 3 p e R s m args below meth c (MQ below (QcS Z Rp) args s 0 0 (fun a => Z.2.2.1 < a))) Rp) := by
  unfold w_X12_leadersNow_4
  refine s_iload_n (k := 2) C (by decide +kernel) ?_
  refine s_iconst (n := 5) C (by decide +kernel) (by decide) ?_
  refine s_icmp_ge (off := 27) (tgt := 33) C (by decide +kernel) (by decide) (b_X12_leadersNow_33 C) ?_
  refine s_iload_n (k := 1) C (by decide +kernel) ?_
  refine s_aload_n (k := 0) C (by decide +kernel) ?_
  refine s_iload_n (k := 2) C (by decide +kernel) ?_
  refine s_fnV C (j2 := jX12_isLeader) (cl := 12) (nf := 27) rfl rfl (by decide +kernel) rfl w_6_236 w_6_238 w_p3_15 w_1_13 w_6_239 (by decide +kernel) (fun _ _ _ _ _ h => f_X12_isLeader h) (fun _ _ _ _ _ h => r_X12_isLeader h) ?_
  refine s_if_eq (off := 9) (tgt := 24) C (by decide +kernel) (by decide) (b_X12_leadersNow_24 C) ?_
  refine s_iconst (n := 1) C (by decide +kernel) (by decide) ?_
  refine s_iload_n (k := 2) C (by decide +kernel) ?_
  refine s_ishl C (by decide +kernel) ?_
  exact s_goto (off := 4) (tgt := 25) C (by decide +kernel) (by decide) (b_X12_leadersNow_25 C)
set_option maxRecDepth 20000 in
theorem b_X12_leadersNow_0 {Z : Zt} {d : Nat} {p : Program} {e : Env} {R : Room} {s : State} {m : MethodId} {args : Array Value} {below : List Frame} {meth : Method} {c : Code} {Rp : RT} (C : Cx Z (d + 2) jX12_leadersNow RX12 p R s m args meth c) : Sd Z jX12_leadersNow p e R s m args below meth c (MQ below (QcS Z Rp) args s 0 0 (fun a => Z.2.2.1 < a)) 0 (w_X12_leadersNow_0 (MS Z (d + 2)) (Gw Z 3 p e R s m args below meth c (MQ below (QcS Z Rp) args s 0 0 (fun a => Z.2.2.1 < a))) Rp) := by
  unfold w_X12_leadersNow_0
  refine s_iconst (n := 0) C (by decide +kernel) (by decide) ?_
  refine s_istore_n (k := 1) C (by decide +kernel) ?_
  refine s_iconst (n := 0) C (by decide +kernel) (by decide) ?_
  refine s_istore_n (k := 2) C (by decide +kernel) ?_
  exact (fun _ _ _ _ _ _ h => h)
theorem ms_X12_leadersNow {Z : Zt} {d : Nat} {S : Sh} {μ : Mi} {ρ : Mr} {Rp : RT} (a0 : Nat) (h : ∀ G : Nat → PT, (∀ (L st : List Value) (S : Sh) (q : Nat × Nat) (μ : Mi) (ρ : Mr), w_X12_leadersNow_4 (MS Z (d + 2)) G Rp L st S q μ ρ → G 4 L st S q μ ρ) → w_X12_leadersNow_0 (MS Z (d + 2)) G Rp [.ref a0, .null, .null] [] S (0, 0) μ ρ) : MS Z (d + 3) jX12_leadersNow [.ref a0] S μ ρ Rp :=
  MS_of [.ref a0, .null, .null] (by decide +kernel) rfl rfl (Nat.le_of_ble_eq_true rfl) rfl (fun p e R s m args below meth c C => b_X12_leadersNow_0 C _ _ _ _ _ _ (h _ (b_X12_leadersNow_4 C)))
def F_X12_leadersNow : FT := fun As S μ ρ k => match As with
  | [.ref a] => a = 2737 ∧ RS S ρ ∧ k (some (.int (qLds (μ 2738)))) μ
  | _ => False
theorem r_X12_leadersNow {As S μ ρ k} (h : F_X12_leadersNow As S μ ρ k) : ∃ a As', As = Value.ref a :: As' ∧ S.2 a = (12, 27) := by
  unfold F_X12_leadersNow at h
  split at h
  · exact ⟨_, _, rfl, by rw [h.1]; exact h.2.1.1⟩
  · exact h.elim
set_option maxHeartbeats 1000000 in
theorem f_X12_leadersNow {Z : Zt} {d : Nat} {As : List Value} {S : Sh} {μ : Mi} {ρ : Mr} {Rp : RT} (h : F_X12_leadersNow As S μ ρ (fun r μ' => Rp r S μ' ρ)) : MS Z (d + 3) jX12_leadersNow As S μ ρ Rp := by
  unfold F_X12_leadersNow at h
  split at h
  · rename_i a
    obtain ⟨rfl, hS, h⟩ := h
    have hS0 := hS
    unfold RS at hS
    refine ms_X12_leadersNow _ (fun G g4 => ?_)
    have step : ∀ (o : Nat) (acc : Int32), o < 5 → G 4 [.ref 2737, .int (ld1 (μ 2738) o acc), .int (nI (o + 1))] [] S (0, 0) μ ρ → G 4 [.ref 2737, .int acc, .int (nI o)] [] S (0, 0) μ ρ := by
      intro o acc ho hG
      have hro := rg_T (lo := 0) (hi := 4) (n := o) (by omega) (by omega) (by omega)
      refine g4 _ _ _ _ _ _ ?_
      simp only [w_X12_leadersNow_4, w_X12_leadersNow_24, w_X12_leadersNow_25, tAload, tIload, nth, tGetI, tGetR, tConst, tLconst, tBin, tUn, tI2l, tAld, tAldR, tAlen, tIast, tBast, tZast, tAast, tIret, tZret, tVret, tAret, tIf, tIf2, tGoto, tIstore, tAstore, sset, tIinc, tDup, tDup2, tPop, tPutI, tPutZ, tPutR, tCallV, tCallS, popN, tFn, tCopy, tMax, tMin, tSw, swc, tRem, tObjI, Option.toList, List.nil_append, List.cons_append, okR, true_and, and_true, true_or, or_true, Nat.zero_le, ne_eq, not_false_eq_true, Nat.reduceEqDiff, F_X12_isLeader, hS0, hro, b2_z, Decidable.not_not, nI_1]
      simp (disch := omega) only [nI_clamp]
      unfold ld1 at hG
      refine ⟨fun z => absurd z (lt5' o ho), fun _ => ⟨fun c => ?_, fun c => ?_⟩⟩
      · rw [if_neg c] at hG; exact hG
      · rw [if_pos c] at hG; exact hG
    simp only [w_X12_leadersNow_0, tAload, tIload, nth, tGetI, tGetR, tConst, tLconst, tBin, tUn, tI2l, tAld, tAldR, tAlen, tIast, tBast, tZast, tAast, tIret, tZret, tVret, tAret, tIf, tIf2, tGoto, tIstore, tAstore, sset, tIinc, tDup, tDup2, tPop, tPutI, tPutZ, tPutR, tCallV, tCallS, popN, tFn, tCopy, tMax, tMin, tSw, swc, tRem, tObjI, Option.toList, List.nil_append, List.cons_append, okR, true_and, and_true, true_or, or_true, Nat.zero_le, ne_eq, not_false_eq_true, Nat.reduceEqDiff]
    refine step 0 _ (by decide) (step 1 _ (by decide) (step 2 _ (by decide) (step 3 _ (by decide) (step 4 _ (by decide) ?_))))
    refine g4 _ _ _ _ _ _ ?_
    simp only [w_X12_leadersNow_4, w_X12_leadersNow_33, tAload, tIload, nth, tGetI, tGetR, tConst, tLconst, tBin, tUn, tI2l, tAld, tAldR, tAlen, tIast, tBast, tZast, tAast, tIret, tZret, tVret, tAret, tIf, tIf2, tGoto, tIstore, tAstore, sset, tIinc, tDup, tDup2, tPop, tPutI, tPutZ, tPutR, tCallV, tCallS, popN, tFn, tCopy, tMax, tMin, tSw, swc, tRem, tObjI, Option.toList, List.nil_append, List.cons_append, okR, true_and, and_true, true_or, or_true, Nat.zero_le, ne_eq, not_false_eq_true, Nat.reduceEqDiff]
    exact ⟨fun _ => h, fun z => absurd (by decide) z⟩
  · exact h.elim
def vCount (A : Rw) (dm tp : Int32) (w : Int32) : Int32 := if w = 0 then A 4510 else if w = 1 then A 4511 else if w = 2 then A 4512 else if w = 3 then qUps A else if w = 4 then qLds A else if w = 5 then qGreatest A 1 else if w = 6 then qGreatest A 7 else if w = 7 then dm else if w = 8 then A 4514 else if w = 9 then A 4515 else if w = 10 then tp else -1
def w_X12_count_142 (M : CT) (G : Nat → PT) (Rp : RT) : PT := tConst (-1) <| tIret Rp
def w_X12_count_137 (M : CT) (G : Nat → PT) (Rp : RT) : PT := tAload 0 <| tGetI 12 27 14 <| tIret Rp
def w_X12_count_128 (M : CT) (G : Nat → PT) (Rp : RT) : PT := tAload 0 <| tGetR 12 27 1 <| tConst 4515 <| tAld 20 <| tIret Rp
def w_X12_count_119 (M : CT) (G : Nat → PT) (Rp : RT) : PT := tAload 0 <| tGetR 12 27 1 <| tConst 4514 <| tAld 20 <| tIret Rp
def w_X12_count_114 (M : CT) (G : Nat → PT) (Rp : RT) : PT := tAload 0 <| tGetI 12 27 6 <| tIret Rp
def w_X12_count_107 (M : CT) (G : Nat → PT) (Rp : RT) : PT := tAload 0 <| tConst 7 <| tFn 2 F_X12_greatest <| tIret Rp
def w_X12_count_101 (M : CT) (G : Nat → PT) (Rp : RT) : PT := tAload 0 <| tConst 1 <| tFn 2 F_X12_greatest <| tIret Rp
def w_X12_count_96 (M : CT) (G : Nat → PT) (Rp : RT) : PT := tAload 0 <| tFn 1 F_X12_leadersNow <| tIret Rp
def w_X12_count_91 (M : CT) (G : Nat → PT) (Rp : RT) : PT := tAload 0 <| tFn 1 F_X12_upOnes <| tIret Rp
def w_X12_count_82 (M : CT) (G : Nat → PT) (Rp : RT) : PT := tAload 0 <| tGetR 12 27 1 <| tConst 4512 <| tAld 20 <| tIret Rp
def w_X12_count_73 (M : CT) (G : Nat → PT) (Rp : RT) : PT := tAload 0 <| tGetR 12 27 1 <| tConst 4511 <| tAld 20 <| tIret Rp
def w_X12_count_64 (M : CT) (G : Nat → PT) (Rp : RT) : PT := tAload 0 <| tGetR 12 27 1 <| tConst 4510 <| tAld 20 <| tIret Rp
def w_X12_count_0 (M : CT) (G : Nat → PT) (Rp : RT) : PT := tAload 0 <| tConst 0 <| tPutI 12 27 0 <| tIload 1 <| tSw [(0, w_X12_count_64 M G Rp), (1, w_X12_count_73 M G Rp), (2, w_X12_count_82 M G Rp), (3, w_X12_count_91 M G Rp), (4, w_X12_count_96 M G Rp), (5, w_X12_count_101 M G Rp), (6, w_X12_count_107 M G Rp), (7, w_X12_count_114 M G Rp), (8, w_X12_count_119 M G Rp), (9, w_X12_count_128 M G Rp), (10, w_X12_count_137 M G Rp)] (w_X12_count_142 M G Rp)
set_option maxRecDepth 20000 in
theorem b_X12_count_142 {Z : Zt} {d : Nat} {p : Program} {e : Env} {R : Room} {s : State} {m : MethodId} {args : Array Value} {below : List Frame} {meth : Method} {c : Code} {Rp : RT} (C : Cx Z (d + 3) jX12_count RX12 p R s m args meth c) : Sd Z jX12_count p e R s m args below meth c (MQ below (QcS Z Rp) args s 0 0 (fun a => Z.2.2.1 < a)) 142 (w_X12_count_142 (MS Z (d + 3)) (Gw Z 2 p e R s m args below meth c (MQ below (QcS Z Rp) args s 0 0 (fun a => Z.2.2.1 < a))) Rp) := by
  unfold w_X12_count_142
  refine s_iconst (n := (-1)) C (by decide +kernel) (by decide) ?_
  exact s_iret C rfl (by decide +kernel)
set_option maxRecDepth 20000 in
theorem b_X12_count_137 {Z : Zt} {d : Nat} {p : Program} {e : Env} {R : Room} {s : State} {m : MethodId} {args : Array Value} {below : List Frame} {meth : Method} {c : Code} {Rp : RT} (C : Cx Z (d + 3) jX12_count RX12 p R s m args meth c) : Sd Z jX12_count p e R s m args below meth c (MQ below (QcS Z Rp) args s 0 0 (fun a => Z.2.2.1 < a)) 137 (w_X12_count_137 (MS Z (d + 3)) (Gw Z 2 p e R s m args below meth c (MQ below (QcS Z Rp) args s 0 0 (fun a => Z.2.2.1 < a))) Rp) := by
  unfold w_X12_count_137
  refine s_aload_n (k := 0) C (by decide +kernel) ?_
  refine s_getI C w_6_101 (by decide +kernel) rfl ?_
  exact s_iret C rfl (by decide +kernel)
set_option maxRecDepth 20000 in
theorem b_X12_count_128 {Z : Zt} {d : Nat} {p : Program} {e : Env} {R : Room} {s : State} {m : MethodId} {args : Array Value} {below : List Frame} {meth : Method} {c : Code} {Rp : RT} (C : Cx Z (d + 3) jX12_count RX12 p R s m args meth c) : Sd Z jX12_count p e R s m args below meth c (MQ below (QcS Z Rp) args s 0 0 (fun a => Z.2.2.1 < a)) 128 (w_X12_count_128 (MS Z (d + 3)) (Gw Z 2 p e R s m args below meth c (MQ below (QcS Z Rp) args s 0 0 (fun a => Z.2.2.1 < a))) Rp) := by
  unfold w_X12_count_128
  refine s_aload_n (k := 0) C (by decide +kernel) ?_
  refine s_getR C w_6_88 (by decide +kernel) rfl ?_
  refine s_sipush (n := 4515) C (by decide +kernel) (by decide) ?_
  refine s_iald C (by decide +kernel) ?_
  exact s_iret C rfl (by decide +kernel)
set_option maxRecDepth 20000 in
theorem b_X12_count_119 {Z : Zt} {d : Nat} {p : Program} {e : Env} {R : Room} {s : State} {m : MethodId} {args : Array Value} {below : List Frame} {meth : Method} {c : Code} {Rp : RT} (C : Cx Z (d + 3) jX12_count RX12 p R s m args meth c) : Sd Z jX12_count p e R s m args below meth c (MQ below (QcS Z Rp) args s 0 0 (fun a => Z.2.2.1 < a)) 119 (w_X12_count_119 (MS Z (d + 3)) (Gw Z 2 p e R s m args below meth c (MQ below (QcS Z Rp) args s 0 0 (fun a => Z.2.2.1 < a))) Rp) := by
  unfold w_X12_count_119
  refine s_aload_n (k := 0) C (by decide +kernel) ?_
  refine s_getR C w_6_88 (by decide +kernel) rfl ?_
  refine s_sipush (n := 4514) C (by decide +kernel) (by decide) ?_
  refine s_iald C (by decide +kernel) ?_
  exact s_iret C rfl (by decide +kernel)
set_option maxRecDepth 20000 in
theorem b_X12_count_114 {Z : Zt} {d : Nat} {p : Program} {e : Env} {R : Room} {s : State} {m : MethodId} {args : Array Value} {below : List Frame} {meth : Method} {c : Code} {Rp : RT} (C : Cx Z (d + 3) jX12_count RX12 p R s m args meth c) : Sd Z jX12_count p e R s m args below meth c (MQ below (QcS Z Rp) args s 0 0 (fun a => Z.2.2.1 < a)) 114 (w_X12_count_114 (MS Z (d + 3)) (Gw Z 2 p e R s m args below meth c (MQ below (QcS Z Rp) args s 0 0 (fun a => Z.2.2.1 < a))) Rp) := by
  unfold w_X12_count_114
  refine s_aload_n (k := 0) C (by decide +kernel) ?_
  refine s_getI C w_6_93 (by decide +kernel) rfl ?_
  exact s_iret C rfl (by decide +kernel)
set_option maxRecDepth 20000 in
theorem b_X12_count_107 {Z : Zt} {d : Nat} {p : Program} {e : Env} {R : Room} {s : State} {m : MethodId} {args : Array Value} {below : List Frame} {meth : Method} {c : Code} {Rp : RT} (C : Cx Z (d + 3) jX12_count RX12 p R s m args meth c) : Sd Z jX12_count p e R s m args below meth c (MQ below (QcS Z Rp) args s 0 0 (fun a => Z.2.2.1 < a)) 107 (w_X12_count_107 (MS Z (d + 3)) (Gw Z 2 p e R s m args below meth c (MQ below (QcS Z Rp) args s 0 0 (fun a => Z.2.2.1 < a))) Rp) := by
  unfold w_X12_count_107
  refine s_aload_n (k := 0) C (by decide +kernel) ?_
  refine s_bipush (n := 7) C (by decide +kernel) (by decide) ?_
  refine s_fnV C (j2 := jX12_greatest) (cl := 12) (nf := 27) rfl rfl (by decide +kernel) rfl w_9_21 w_9_23 w_p8_12 w_1_13 w_9_24 (by decide +kernel) (fun _ _ _ _ _ h => f_X12_greatest h) (fun _ _ _ _ _ h => r_X12_greatest h) ?_
  exact s_iret C rfl (by decide +kernel)
set_option maxRecDepth 20000 in
theorem b_X12_count_101 {Z : Zt} {d : Nat} {p : Program} {e : Env} {R : Room} {s : State} {m : MethodId} {args : Array Value} {below : List Frame} {meth : Method} {c : Code} {Rp : RT} (C : Cx Z (d + 3) jX12_count RX12 p R s m args meth c) : Sd Z jX12_count p e R s m args below meth c (MQ below (QcS Z Rp) args s 0 0 (fun a => Z.2.2.1 < a)) 101 (w_X12_count_101 (MS Z (d + 3)) (Gw Z 2 p e R s m args below meth c (MQ below (QcS Z Rp) args s 0 0 (fun a => Z.2.2.1 < a))) Rp) := by
  unfold w_X12_count_101
  refine s_aload_n (k := 0) C (by decide +kernel) ?_
  refine s_iconst (n := 1) C (by decide +kernel) (by decide) ?_
  refine s_fnV C (j2 := jX12_greatest) (cl := 12) (nf := 27) rfl rfl (by decide +kernel) rfl w_9_21 w_9_23 w_p8_12 w_1_13 w_9_24 (by decide +kernel) (fun _ _ _ _ _ h => f_X12_greatest h) (fun _ _ _ _ _ h => r_X12_greatest h) ?_
  exact s_iret C rfl (by decide +kernel)
set_option maxRecDepth 20000 in
theorem b_X12_count_96 {Z : Zt} {d : Nat} {p : Program} {e : Env} {R : Room} {s : State} {m : MethodId} {args : Array Value} {below : List Frame} {meth : Method} {c : Code} {Rp : RT} (C : Cx Z (d + 3) jX12_count RX12 p R s m args meth c) : Sd Z jX12_count p e R s m args below meth c (MQ below (QcS Z Rp) args s 0 0 (fun a => Z.2.2.1 < a)) 96 (w_X12_count_96 (MS Z (d + 3)) (Gw Z 2 p e R s m args below meth c (MQ below (QcS Z Rp) args s 0 0 (fun a => Z.2.2.1 < a))) Rp) := by
  unfold w_X12_count_96
  refine s_aload_n (k := 0) C (by decide +kernel) ?_
  refine s_fnV C (j2 := jX12_leadersNow) (cl := 12) (nf := 27) rfl rfl (by decide +kernel) rfl w_9_17 w_9_19 w_p8_11 w_1_13 w_9_20 (by decide +kernel) (fun _ _ _ _ _ h => f_X12_leadersNow h) (fun _ _ _ _ _ h => r_X12_leadersNow h) ?_
  exact s_iret C rfl (by decide +kernel)
set_option maxRecDepth 20000 in
theorem b_X12_count_91 {Z : Zt} {d : Nat} {p : Program} {e : Env} {R : Room} {s : State} {m : MethodId} {args : Array Value} {below : List Frame} {meth : Method} {c : Code} {Rp : RT} (C : Cx Z (d + 3) jX12_count RX12 p R s m args meth c) : Sd Z jX12_count p e R s m args below meth c (MQ below (QcS Z Rp) args s 0 0 (fun a => Z.2.2.1 < a)) 91 (w_X12_count_91 (MS Z (d + 3)) (Gw Z 2 p e R s m args below meth c (MQ below (QcS Z Rp) args s 0 0 (fun a => Z.2.2.1 < a))) Rp) := by
  unfold w_X12_count_91
  refine s_aload_n (k := 0) C (by decide +kernel) ?_
  refine s_fnV C (j2 := jX12_upOnes) (cl := 12) (nf := 27) rfl rfl (by decide +kernel) rfl w_8_152 w_8_154 w_p8_0 w_1_13 w_8_155 (by decide +kernel) (fun _ _ _ _ _ h => f_X12_upOnes h) (fun _ _ _ _ _ h => r_X12_upOnes h) ?_
  exact s_iret C rfl (by decide +kernel)
set_option maxRecDepth 20000 in
theorem b_X12_count_82 {Z : Zt} {d : Nat} {p : Program} {e : Env} {R : Room} {s : State} {m : MethodId} {args : Array Value} {below : List Frame} {meth : Method} {c : Code} {Rp : RT} (C : Cx Z (d + 3) jX12_count RX12 p R s m args meth c) : Sd Z jX12_count p e R s m args below meth c (MQ below (QcS Z Rp) args s 0 0 (fun a => Z.2.2.1 < a)) 82 (w_X12_count_82 (MS Z (d + 3)) (Gw Z 2 p e R s m args below meth c (MQ below (QcS Z Rp) args s 0 0 (fun a => Z.2.2.1 < a))) Rp) := by
  unfold w_X12_count_82
  refine s_aload_n (k := 0) C (by decide +kernel) ?_
  refine s_getR C w_6_88 (by decide +kernel) rfl ?_
  refine s_sipush (n := 4512) C (by decide +kernel) (by decide) ?_
  refine s_iald C (by decide +kernel) ?_
  exact s_iret C rfl (by decide +kernel)
set_option maxRecDepth 20000 in
theorem b_X12_count_73 {Z : Zt} {d : Nat} {p : Program} {e : Env} {R : Room} {s : State} {m : MethodId} {args : Array Value} {below : List Frame} {meth : Method} {c : Code} {Rp : RT} (C : Cx Z (d + 3) jX12_count RX12 p R s m args meth c) : Sd Z jX12_count p e R s m args below meth c (MQ below (QcS Z Rp) args s 0 0 (fun a => Z.2.2.1 < a)) 73 (w_X12_count_73 (MS Z (d + 3)) (Gw Z 2 p e R s m args below meth c (MQ below (QcS Z Rp) args s 0 0 (fun a => Z.2.2.1 < a))) Rp) := by
  unfold w_X12_count_73
  refine s_aload_n (k := 0) C (by decide +kernel) ?_
  refine s_getR C w_6_88 (by decide +kernel) rfl ?_
  refine s_sipush (n := 4511) C (by decide +kernel) (by decide) ?_
  refine s_iald C (by decide +kernel) ?_
  exact s_iret C rfl (by decide +kernel)
set_option maxRecDepth 20000 in
theorem b_X12_count_64 {Z : Zt} {d : Nat} {p : Program} {e : Env} {R : Room} {s : State} {m : MethodId} {args : Array Value} {below : List Frame} {meth : Method} {c : Code} {Rp : RT} (C : Cx Z (d + 3) jX12_count RX12 p R s m args meth c) : Sd Z jX12_count p e R s m args below meth c (MQ below (QcS Z Rp) args s 0 0 (fun a => Z.2.2.1 < a)) 64 (w_X12_count_64 (MS Z (d + 3)) (Gw Z 2 p e R s m args below meth c (MQ below (QcS Z Rp) args s 0 0 (fun a => Z.2.2.1 < a))) Rp) := by
  unfold w_X12_count_64
  refine s_aload_n (k := 0) C (by decide +kernel) ?_
  refine s_getR C w_6_88 (by decide +kernel) rfl ?_
  refine s_sipush (n := 4510) C (by decide +kernel) (by decide) ?_
  refine s_iald C (by decide +kernel) ?_
  exact s_iret C rfl (by decide +kernel)
set_option maxRecDepth 20000 in
theorem b_X12_count_0 {Z : Zt} {d : Nat} {p : Program} {e : Env} {R : Room} {s : State} {m : MethodId} {args : Array Value} {below : List Frame} {meth : Method} {c : Code} {Rp : RT} (C : Cx Z (d + 3) jX12_count RX12 p R s m args meth c) : Sd Z jX12_count p e R s m args below meth c (MQ below (QcS Z Rp) args s 0 0 (fun a => Z.2.2.1 < a)) 0 (w_X12_count_0 (MS Z (d + 3)) (Gw Z 2 p e R s m args below meth c (MQ below (QcS Z Rp) args s 0 0 (fun a => Z.2.2.1 < a))) Rp) := by
  unfold w_X12_count_0
  refine s_aload_n (k := 0) C (by decide +kernel) ?_
  refine s_iconst (n := 0) C (by decide +kernel) (by decide) ?_
  refine s_putI C w_6_87 (by decide +kernel) rfl (Or.inl rfl) ?_
  refine s_iload_n (k := 1) C (by decide +kernel) ?_
  refine s_tsw (df := 136) (lo := 0) (hi := 10) (offs := #[58, 67, 76, 85, 90, 95, 101, 108, 113, 122, 131]) (len := 58) (tgt := 142) C (by decide +kernel) (by decide) (b_X12_count_142 C) (fun i r h => ?_) (fun x h => tsw_out 11 x (fun q hq => ?_))
  · match i, h with
    | 0, h => cases h; dsimp only; exact ⟨by decide, by decide, 58, 64, by rfl, by decide, (b_X12_count_64 C)⟩
    | 1, h => cases h; dsimp only; exact ⟨by decide, by decide, 67, 73, by rfl, by decide, (b_X12_count_73 C)⟩
    | 2, h => cases h; dsimp only; exact ⟨by decide, by decide, 76, 82, by rfl, by decide, (b_X12_count_82 C)⟩
    | 3, h => cases h; dsimp only; exact ⟨by decide, by decide, 85, 91, by rfl, by decide, (b_X12_count_91 C)⟩
    | 4, h => cases h; dsimp only; exact ⟨by decide, by decide, 90, 96, by rfl, by decide, (b_X12_count_96 C)⟩
    | 5, h => cases h; dsimp only; exact ⟨by decide, by decide, 95, 101, by rfl, by decide, (b_X12_count_101 C)⟩
    | 6, h => cases h; dsimp only; exact ⟨by decide, by decide, 101, 107, by rfl, by decide, (b_X12_count_107 C)⟩
    | 7, h => cases h; dsimp only; exact ⟨by decide, by decide, 108, 114, by rfl, by decide, (b_X12_count_114 C)⟩
    | 8, h => cases h; dsimp only; exact ⟨by decide, by decide, 113, 119, by rfl, by decide, (b_X12_count_119 C)⟩
    | 9, h => cases h; dsimp only; exact ⟨by decide, by decide, 122, 128, by rfl, by decide, (b_X12_count_128 C)⟩
    | 10, h => cases h; dsimp only; exact ⟨by decide, by decide, 131, 137, by rfl, by decide, (b_X12_count_137 C)⟩
    | q + 11, h => simp at h
  · match q, hq with
    | 0, _ => exact h _ (List.mem_of_getElem? (i := 0) rfl)
    | 1, _ => exact h _ (List.mem_of_getElem? (i := 1) rfl)
    | 2, _ => exact h _ (List.mem_of_getElem? (i := 2) rfl)
    | 3, _ => exact h _ (List.mem_of_getElem? (i := 3) rfl)
    | 4, _ => exact h _ (List.mem_of_getElem? (i := 4) rfl)
    | 5, _ => exact h _ (List.mem_of_getElem? (i := 5) rfl)
    | 6, _ => exact h _ (List.mem_of_getElem? (i := 6) rfl)
    | 7, _ => exact h _ (List.mem_of_getElem? (i := 7) rfl)
    | 8, _ => exact h _ (List.mem_of_getElem? (i := 8) rfl)
    | 9, _ => exact h _ (List.mem_of_getElem? (i := 9) rfl)
    | 10, _ => exact h _ (List.mem_of_getElem? (i := 10) rfl)
    | q + 11, hq => exact absurd hq (by omega)
theorem ms_X12_count {Z : Zt} {d : Nat} {S : Sh} {μ : Mi} {ρ : Mr} {Rp : RT} (a0 : Nat) (x1 : Int32) (h : ∀ G : Nat → PT, w_X12_count_0 (MS Z (d + 3)) G Rp [.ref a0, .int x1] [] S (0, 0) μ ρ) : MS Z (d + 4) jX12_count [.ref a0, .int x1] S μ ρ Rp :=
  MS_of [.ref a0, .int x1] (by decide +kernel) rfl rfl (Nat.le_of_ble_eq_true rfl) rfl (fun p e R s m args below meth c C => b_X12_count_0 C _ _ _ _ _ _ (h _ ))
def F_X12_count : FT := fun As S μ ρ k => match As with
  | [.ref a, .int w] => a = 2737 ∧ RS S ρ ∧ ∀ μ', RQ μ μ' (μ 2738) (μ 2739) (μ 2737 6) → k (some (.int (vCount (μ 2738) (μ 2737 6) (μ 2737 14) w))) μ'
  | _ => False
theorem r_X12_count {As S μ ρ k} (h : F_X12_count As S μ ρ k) : ∃ a As', As = Value.ref a :: As' ∧ S.2 a = (12, 27) := by
  unfold F_X12_count at h
  split at h
  · exact ⟨_, _, rfl, by rw [h.1]; exact h.2.1.1⟩
  · exact h.elim
set_option maxHeartbeats 1000000 in
theorem f_X12_count {Z : Zt} {d : Nat} {As : List Value} {S : Sh} {μ : Mi} {ρ : Mr} {Rp : RT} (h : F_X12_count As S μ ρ (fun r μ' => Rp r S μ' ρ)) : MS Z (d + 4) jX12_count As S μ ρ Rp := by
  unfold F_X12_count at h
  split at h
  · rename_i a w
    obtain ⟨rfl, hS, h⟩ := h
    have hS0 := hS
    unfold RS at hS
    have hq := h _ RQ_0
    unfold vCount at hq
    have i10 : inb 4510 13548 := inb_nI (k := 4510) (by decide) (by decide)
    have i11 : inb 4511 13548 := inb_nI (k := 4511) (by decide) (by decide)
    have i12 : inb 4512 13548 := inb_nI (k := 4512) (by decide) (by decide)
    have i14 : inb 4514 13548 := inb_nI (k := 4514) (by decide) (by decide)
    have i15 : inb 4515 13548 := inb_nI (k := 4515) (by decide) (by decide)
    have r1 : rg 1 0 20 = True := eq_true ⟨by decide, by decide⟩
    have r7 : rg 7 0 20 = True := eq_true ⟨by decide, by decide⟩
    refine ms_X12_count _ _ (fun G => ?_)
    simp only [w_X12_count_0, w_X12_count_64, w_X12_count_73, w_X12_count_82, w_X12_count_91, w_X12_count_96, w_X12_count_101, w_X12_count_107, w_X12_count_114, w_X12_count_119, w_X12_count_128, w_X12_count_137, w_X12_count_142, tAload, tIload, nth, tGetI, tGetR, tConst, tLconst, tBin, tUn, tI2l, tAld, tAldR, tAlen, tIast, tBast, tZast, tAast, tIret, tZret, tVret, tAret, tIf, tIf2, tGoto, tIstore, tAstore, sset, tIinc, tDup, tDup2, tPop, tPutI, tPutZ, tPutR, tCallV, tCallS, popN, tFn, tCopy, tMax, tMin, tSw, swc, tRem, tObjI, Option.toList, List.nil_append, List.cons_append, okR, true_and, and_true, true_or, or_true, Nat.zero_le, ne_eq, not_false_eq_true, Nat.reduceEqDiff, F_X12_upOnes, F_X12_leadersNow, F_X12_greatest, hS0, hS, e6, M6_row, M6_f (show 6 ≠ 0 by decide), M6_f (show 14 ≠ 0 by decide), i10, i11, i12, i14, i15, cl_4510, cl_4511, cl_4512, cl_4514, cl_4515, r1, r7, cl_1, cl_7]
    refine ⟨fun c => ?_, fun n0 => ⟨fun c => ?_, fun n1 => ⟨fun c => ?_, fun n2 => ⟨fun c => ?_, fun n3 => ⟨fun c => ?_, fun n4 => ⟨fun c => ?_, fun n5 => ⟨fun c => ?_, fun n6 => ⟨fun c => ?_, fun n7 => ⟨fun c => ?_, fun n8 => ⟨fun c => ?_, fun n9 => ⟨fun c => ?_, fun n10 => ?_⟩⟩⟩⟩⟩⟩⟩⟩⟩⟩⟩
    · rw [if_pos c] at hq; exact hq
    · rw [if_neg n0, if_pos c] at hq; exact hq
    · rw [if_neg n0, if_neg n1, if_pos c] at hq; exact hq
    · rw [if_neg n0, if_neg n1, if_neg n2, if_pos c] at hq; exact hq
    · rw [if_neg n0, if_neg n1, if_neg n2, if_neg n3, if_pos c] at hq; exact hq
    · rw [if_neg n0, if_neg n1, if_neg n2, if_neg n3, if_neg n4, if_pos c] at hq; exact hq
    · rw [if_neg n0, if_neg n1, if_neg n2, if_neg n3, if_neg n4, if_neg n5, if_pos c] at hq; exact hq
    · rw [if_neg n0, if_neg n1, if_neg n2, if_neg n3, if_neg n4, if_neg n5, if_neg n6, if_pos c] at hq; exact hq
    · rw [if_neg n0, if_neg n1, if_neg n2, if_neg n3, if_neg n4, if_neg n5, if_neg n6, if_neg n7, if_pos c] at hq; exact hq
    · rw [if_neg n0, if_neg n1, if_neg n2, if_neg n3, if_neg n4, if_neg n5, if_neg n6, if_neg n7, if_neg n8, if_pos c] at hq; exact hq
    · rw [if_neg n0, if_neg n1, if_neg n2, if_neg n3, if_neg n4, if_neg n5, if_neg n6, if_neg n7, if_neg n8, if_neg n9, if_pos c] at hq; exact hq
    · rw [if_neg n0, if_neg n1, if_neg n2, if_neg n3, if_neg n4, if_neg n5, if_neg n6, if_neg n7, if_neg n8, if_neg n9, if_neg n10] at hq; exact hq
  · exact h.elim
def vTwo (w x y : Int32) : Int32 := if w = 0 then x else if w = 1 then y else -1
def w_X12_fault_29 (M : CT) (G : Nat → PT) (Rp : RT) : PT := tIret Rp
def w_X12_fault_28 (M : CT) (G : Nat → PT) (Rp : RT) : PT := tConst (-1) <| w_X12_fault_29 M G Rp
def w_X12_fault_16 (M : CT) (G : Nat → PT) (Rp : RT) : PT := tIload 1 <| tConst 1 <| tIf2 (fun x y => x ≠ y) (w_X12_fault_28 M G Rp) <| tAload 0 <| tGetI 12 27 18 <| tGoto (w_X12_fault_29 M G Rp)
def w_X12_fault_0 (M : CT) (G : Nat → PT) (Rp : RT) : PT := tAload 0 <| tConst 0 <| tPutI 12 27 0 <| tIload 1 <| tIf (fun x => x ≠ 0) (w_X12_fault_16 M G Rp) <| tAload 0 <| tGetI 12 27 17 <| tGoto (w_X12_fault_29 M G Rp)
set_option maxRecDepth 20000 in
theorem b_X12_fault_29 {Z : Zt} {d : Nat} {p : Program} {e : Env} {R : Room} {s : State} {m : MethodId} {args : Array Value} {below : List Frame} {meth : Method} {c : Code} {Rp : RT} (C : Cx Z d jX12_fault RX12 p R s m args meth c) : Sd Z jX12_fault p e R s m args below meth c (MQ below (QcS Z Rp) args s 0 0 (fun a => Z.2.2.1 < a)) 29 (w_X12_fault_29 (MS Z d) (Gw Z 2 p e R s m args below meth c (MQ below (QcS Z Rp) args s 0 0 (fun a => Z.2.2.1 < a))) Rp) := by
  unfold w_X12_fault_29
  exact s_iret C rfl (by decide +kernel)
set_option maxRecDepth 20000 in
theorem b_X12_fault_28 {Z : Zt} {d : Nat} {p : Program} {e : Env} {R : Room} {s : State} {m : MethodId} {args : Array Value} {below : List Frame} {meth : Method} {c : Code} {Rp : RT} (C : Cx Z d jX12_fault RX12 p R s m args meth c) : Sd Z jX12_fault p e R s m args below meth c (MQ below (QcS Z Rp) args s 0 0 (fun a => Z.2.2.1 < a)) 28 (w_X12_fault_28 (MS Z d) (Gw Z 2 p e R s m args below meth c (MQ below (QcS Z Rp) args s 0 0 (fun a => Z.2.2.1 < a))) Rp) := by
  unfold w_X12_fault_28
  refine s_iconst (n := (-1)) C (by decide +kernel) (by decide) ?_
  exact (b_X12_fault_29 C)
set_option maxRecDepth 20000 in
theorem b_X12_fault_16 {Z : Zt} {d : Nat} {p : Program} {e : Env} {R : Room} {s : State} {m : MethodId} {args : Array Value} {below : List Frame} {meth : Method} {c : Code} {Rp : RT} (C : Cx Z d jX12_fault RX12 p R s m args meth c) : Sd Z jX12_fault p e R s m args below meth c (MQ below (QcS Z Rp) args s 0 0 (fun a => Z.2.2.1 < a)) 16 (w_X12_fault_16 (MS Z d) (Gw Z 2 p e R s m args below meth c (MQ below (QcS Z Rp) args s 0 0 (fun a => Z.2.2.1 < a))) Rp) := by
  unfold w_X12_fault_16
  refine s_iload_n (k := 1) C (by decide +kernel) ?_
  refine s_iconst (n := 1) C (by decide +kernel) (by decide) ?_
  refine s_icmp_ne (off := 10) (tgt := 28) C (by decide +kernel) (by decide) (b_X12_fault_28 C) ?_
  refine s_aload_n (k := 0) C (by decide +kernel) ?_
  refine s_getI C w_6_105 (by decide +kernel) rfl ?_
  exact s_goto (off := 4) (tgt := 29) C (by decide +kernel) (by decide) (b_X12_fault_29 C)
set_option maxRecDepth 20000 in
theorem b_X12_fault_0 {Z : Zt} {d : Nat} {p : Program} {e : Env} {R : Room} {s : State} {m : MethodId} {args : Array Value} {below : List Frame} {meth : Method} {c : Code} {Rp : RT} (C : Cx Z d jX12_fault RX12 p R s m args meth c) : Sd Z jX12_fault p e R s m args below meth c (MQ below (QcS Z Rp) args s 0 0 (fun a => Z.2.2.1 < a)) 0 (w_X12_fault_0 (MS Z d) (Gw Z 2 p e R s m args below meth c (MQ below (QcS Z Rp) args s 0 0 (fun a => Z.2.2.1 < a))) Rp) := by
  unfold w_X12_fault_0
  refine s_aload_n (k := 0) C (by decide +kernel) ?_
  refine s_iconst (n := 0) C (by decide +kernel) (by decide) ?_
  refine s_putI C w_6_87 (by decide +kernel) rfl (Or.inl rfl) ?_
  refine s_iload_n (k := 1) C (by decide +kernel) ?_
  refine s_if_ne (off := 10) (tgt := 16) C (by decide +kernel) (by decide) (b_X12_fault_16 C) ?_
  refine s_aload_n (k := 0) C (by decide +kernel) ?_
  refine s_getI C w_6_104 (by decide +kernel) rfl ?_
  exact s_goto (off := 16) (tgt := 29) C (by decide +kernel) (by decide) (b_X12_fault_29 C)
theorem ms_X12_fault {Z : Zt} {d : Nat} {S : Sh} {μ : Mi} {ρ : Mr} {Rp : RT} (a0 : Nat) (x1 : Int32) (h : ∀ G : Nat → PT, w_X12_fault_0 (MS Z d) G Rp [.ref a0, .int x1] [] S (0, 0) μ ρ) : MS Z (d + 1) jX12_fault [.ref a0, .int x1] S μ ρ Rp :=
  MS_of [.ref a0, .int x1] (by decide +kernel) rfl rfl (Nat.le_of_ble_eq_true rfl) rfl (fun p e R s m args below meth c C => b_X12_fault_0 C _ _ _ _ _ _ (h _ ))
def F_X12_fault : FT := fun As S μ ρ k => match As with
  | [.ref a, .int w] => a = 2737 ∧ RS S ρ ∧ ∀ μ', RQ μ μ' (μ 2738) (μ 2739) (μ 2737 6) → k (some (.int (vTwo w (μ 2737 17) (μ 2737 18)))) μ'
  | _ => False
theorem r_X12_fault {As S μ ρ k} (h : F_X12_fault As S μ ρ k) : ∃ a As', As = Value.ref a :: As' ∧ S.2 a = (12, 27) := by
  unfold F_X12_fault at h
  split at h
  · exact ⟨_, _, rfl, by rw [h.1]; exact h.2.1.1⟩
  · exact h.elim
set_option maxHeartbeats 1000000 in
theorem f_X12_fault {Z : Zt} {d : Nat} {As : List Value} {S : Sh} {μ : Mi} {ρ : Mr} {Rp : RT} (h : F_X12_fault As S μ ρ (fun r μ' => Rp r S μ' ρ)) : MS Z (d + 1) jX12_fault As S μ ρ Rp := by
  unfold F_X12_fault at h
  split at h
  · rename_i a w
    obtain ⟨rfl, hS, h⟩ := h
    have hS0 := hS
    unfold RS at hS
    have hq := h _ RQ_0
    unfold vTwo at hq
    refine ms_X12_fault _ _ (fun G => ?_)
    simp only [w_X12_fault_0, w_X12_fault_16, w_X12_fault_28, w_X12_fault_29, tAload, tIload, nth, tGetI, tGetR, tConst, tLconst, tBin, tUn, tI2l, tAld, tAldR, tAlen, tIast, tBast, tZast, tAast, tIret, tZret, tVret, tAret, tIf, tIf2, tGoto, tIstore, tAstore, sset, tIinc, tDup, tDup2, tPop, tPutI, tPutZ, tPutR, tCallV, tCallS, popN, tFn, tCopy, tMax, tMin, tSw, swc, tRem, tObjI, Option.toList, List.nil_append, List.cons_append, okR, true_and, and_true, true_or, or_true, Nat.zero_le, ne_eq, not_false_eq_true, Nat.reduceEqDiff, hS0, hS, e6, M6_f (show 17 ≠ 0 by decide), M6_f (show 18 ≠ 0 by decide), Decidable.not_not]
    refine ⟨fun c => ⟨fun c2 => ?_, fun c2 => ?_⟩, fun c => ?_⟩
    · rw [if_neg c, if_neg c2] at hq; exact hq
    · rw [if_neg c, if_pos c2] at hq; exact hq
    · rw [if_pos c] at hq; exact hq
  · exact h.elim
def w_X12_halted_29 (M : CT) (G : Nat → PT) (Rp : RT) : PT := tIret Rp
def w_X12_halted_28 (M : CT) (G : Nat → PT) (Rp : RT) : PT := tConst (-1) <| w_X12_halted_29 M G Rp
def w_X12_halted_16 (M : CT) (G : Nat → PT) (Rp : RT) : PT := tIload 1 <| tConst 1 <| tIf2 (fun x y => x ≠ y) (w_X12_halted_28 M G Rp) <| tAload 0 <| tGetI 12 27 20 <| tGoto (w_X12_halted_29 M G Rp)
def w_X12_halted_0 (M : CT) (G : Nat → PT) (Rp : RT) : PT := tAload 0 <| tConst 0 <| tPutI 12 27 0 <| tIload 1 <| tIf (fun x => x ≠ 0) (w_X12_halted_16 M G Rp) <| tAload 0 <| tGetI 12 27 19 <| tGoto (w_X12_halted_29 M G Rp)
set_option maxRecDepth 20000 in
theorem b_X12_halted_29 {Z : Zt} {d : Nat} {p : Program} {e : Env} {R : Room} {s : State} {m : MethodId} {args : Array Value} {below : List Frame} {meth : Method} {c : Code} {Rp : RT} (C : Cx Z d jX12_halted RX12 p R s m args meth c) : Sd Z jX12_halted p e R s m args below meth c (MQ below (QcS Z Rp) args s 0 0 (fun a => Z.2.2.1 < a)) 29 (w_X12_halted_29 (MS Z d) (Gw Z 2 p e R s m args below meth c (MQ below (QcS Z Rp) args s 0 0 (fun a => Z.2.2.1 < a))) Rp) := by
  unfold w_X12_halted_29
  exact s_iret C rfl (by decide +kernel)
set_option maxRecDepth 20000 in
theorem b_X12_halted_28 {Z : Zt} {d : Nat} {p : Program} {e : Env} {R : Room} {s : State} {m : MethodId} {args : Array Value} {below : List Frame} {meth : Method} {c : Code} {Rp : RT} (C : Cx Z d jX12_halted RX12 p R s m args meth c) : Sd Z jX12_halted p e R s m args below meth c (MQ below (QcS Z Rp) args s 0 0 (fun a => Z.2.2.1 < a)) 28 (w_X12_halted_28 (MS Z d) (Gw Z 2 p e R s m args below meth c (MQ below (QcS Z Rp) args s 0 0 (fun a => Z.2.2.1 < a))) Rp) := by
  unfold w_X12_halted_28
  refine s_iconst (n := (-1)) C (by decide +kernel) (by decide) ?_
  exact (b_X12_halted_29 C)
set_option maxRecDepth 20000 in
theorem b_X12_halted_16 {Z : Zt} {d : Nat} {p : Program} {e : Env} {R : Room} {s : State} {m : MethodId} {args : Array Value} {below : List Frame} {meth : Method} {c : Code} {Rp : RT} (C : Cx Z d jX12_halted RX12 p R s m args meth c) : Sd Z jX12_halted p e R s m args below meth c (MQ below (QcS Z Rp) args s 0 0 (fun a => Z.2.2.1 < a)) 16 (w_X12_halted_16 (MS Z d) (Gw Z 2 p e R s m args below meth c (MQ below (QcS Z Rp) args s 0 0 (fun a => Z.2.2.1 < a))) Rp) := by
  unfold w_X12_halted_16
  refine s_iload_n (k := 1) C (by decide +kernel) ?_
  refine s_iconst (n := 1) C (by decide +kernel) (by decide) ?_
  refine s_icmp_ne (off := 10) (tgt := 28) C (by decide +kernel) (by decide) (b_X12_halted_28 C) ?_
  refine s_aload_n (k := 0) C (by decide +kernel) ?_
  refine s_getI C w_6_107 (by decide +kernel) rfl ?_
  exact s_goto (off := 4) (tgt := 29) C (by decide +kernel) (by decide) (b_X12_halted_29 C)
set_option maxRecDepth 20000 in
theorem b_X12_halted_0 {Z : Zt} {d : Nat} {p : Program} {e : Env} {R : Room} {s : State} {m : MethodId} {args : Array Value} {below : List Frame} {meth : Method} {c : Code} {Rp : RT} (C : Cx Z d jX12_halted RX12 p R s m args meth c) : Sd Z jX12_halted p e R s m args below meth c (MQ below (QcS Z Rp) args s 0 0 (fun a => Z.2.2.1 < a)) 0 (w_X12_halted_0 (MS Z d) (Gw Z 2 p e R s m args below meth c (MQ below (QcS Z Rp) args s 0 0 (fun a => Z.2.2.1 < a))) Rp) := by
  unfold w_X12_halted_0
  refine s_aload_n (k := 0) C (by decide +kernel) ?_
  refine s_iconst (n := 0) C (by decide +kernel) (by decide) ?_
  refine s_putI C w_6_87 (by decide +kernel) rfl (Or.inl rfl) ?_
  refine s_iload_n (k := 1) C (by decide +kernel) ?_
  refine s_if_ne (off := 10) (tgt := 16) C (by decide +kernel) (by decide) (b_X12_halted_16 C) ?_
  refine s_aload_n (k := 0) C (by decide +kernel) ?_
  refine s_getI C w_6_106 (by decide +kernel) rfl ?_
  exact s_goto (off := 16) (tgt := 29) C (by decide +kernel) (by decide) (b_X12_halted_29 C)
theorem ms_X12_halted {Z : Zt} {d : Nat} {S : Sh} {μ : Mi} {ρ : Mr} {Rp : RT} (a0 : Nat) (x1 : Int32) (h : ∀ G : Nat → PT, w_X12_halted_0 (MS Z d) G Rp [.ref a0, .int x1] [] S (0, 0) μ ρ) : MS Z (d + 1) jX12_halted [.ref a0, .int x1] S μ ρ Rp :=
  MS_of [.ref a0, .int x1] (by decide +kernel) rfl rfl (Nat.le_of_ble_eq_true rfl) rfl (fun p e R s m args below meth c C => b_X12_halted_0 C _ _ _ _ _ _ (h _ ))
def F_X12_halted : FT := fun As S μ ρ k => match As with
  | [.ref a, .int w] => a = 2737 ∧ RS S ρ ∧ ∀ μ', RQ μ μ' (μ 2738) (μ 2739) (μ 2737 6) → k (some (.int (vTwo w (μ 2737 19) (μ 2737 20)))) μ'
  | _ => False
theorem r_X12_halted {As S μ ρ k} (h : F_X12_halted As S μ ρ k) : ∃ a As', As = Value.ref a :: As' ∧ S.2 a = (12, 27) := by
  unfold F_X12_halted at h
  split at h
  · exact ⟨_, _, rfl, by rw [h.1]; exact h.2.1.1⟩
  · exact h.elim
set_option maxHeartbeats 1000000 in
theorem f_X12_halted {Z : Zt} {d : Nat} {As : List Value} {S : Sh} {μ : Mi} {ρ : Mr} {Rp : RT} (h : F_X12_halted As S μ ρ (fun r μ' => Rp r S μ' ρ)) : MS Z (d + 1) jX12_halted As S μ ρ Rp := by
  unfold F_X12_halted at h
  split at h
  · rename_i a w
    obtain ⟨rfl, hS, h⟩ := h
    have hS0 := hS
    unfold RS at hS
    have hq := h _ RQ_0
    unfold vTwo at hq
    refine ms_X12_halted _ _ (fun G => ?_)
    simp only [w_X12_halted_0, w_X12_halted_16, w_X12_halted_28, w_X12_halted_29, tAload, tIload, nth, tGetI, tGetR, tConst, tLconst, tBin, tUn, tI2l, tAld, tAldR, tAlen, tIast, tBast, tZast, tAast, tIret, tZret, tVret, tAret, tIf, tIf2, tGoto, tIstore, tAstore, sset, tIinc, tDup, tDup2, tPop, tPutI, tPutZ, tPutR, tCallV, tCallS, popN, tFn, tCopy, tMax, tMin, tSw, swc, tRem, tObjI, Option.toList, List.nil_append, List.cons_append, okR, true_and, and_true, true_or, or_true, Nat.zero_le, ne_eq, not_false_eq_true, Nat.reduceEqDiff, hS0, hS, e6, M6_f (show 19 ≠ 0 by decide), M6_f (show 20 ≠ 0 by decide), Decidable.not_not]
    refine ⟨fun c => ⟨fun c2 => ?_, fun c2 => ?_⟩, fun c => ?_⟩
    · rw [if_neg c, if_neg c2] at hq; exact hq
    · rw [if_neg c, if_pos c2] at hq; exact hq
    · rw [if_pos c] at hq; exact hq
  · exact h.elim
