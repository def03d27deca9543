/-! ===== the class: images, faults ===== -/
theorem TC_1 {A : Rw} {u : Nat} {D : Nat → Rw} {S : Sh} {μ : Mi} {ρ : Mr} {k : Nat} {v : Int32} (h : TC A u D S μ ρ) (h6 : k ≠ 6) (h7 : k ≠ 7) : TC A u D S (upI μ 1 k v) ρ := by
  obtain ⟨hT, hR, sp, e6, hsp, e7, hu, hD⟩ := h
  have fr : ∀ {C : Rw} {w : Nat}, 2 ≤ w → RR C w S μ ρ → RR C w S (upI μ 1 k v) ρ := fun hw h => RR_in h (fun y y1 y2 => by rw [upI_ne (by omega)])
  exact ⟨TW_1 hT, fr (by omega) hR, sp, by rw [upI_k (by omega)]; exact e6, hsp, by rw [upI_k (by omega)]; exact e7, hu, fun j hj => fr (by omega) (hD j hj)⟩
def w_X11_image_12 (M : CT) (G : Nat → PT) (Rp : RT) : PT := tAload 0 <| tGetR 11 11 2 <| tIload 1 <| tAldR 40 <| tAload 0 <| tGetR 11 11 0 <| tFn 2 F_X10_copyFrom <| tAload 0 <| tDup <| tGetI 11 11 8 <| tConst 1 <| tIload 1 <| tBin (fun x y => x <<< (y &&& 31)) <| tBin (fun x y => x ||| y) <| tPutI 11 11 8 <| tConst 0 <| tIret Rp
def w_X11_image_9 (M : CT) (G : Nat → PT) (Rp : RT) : PT := tConst (-2) <| tIret Rp
def w_X11_image_0 (M : CT) (G : Nat → PT) (Rp : RT) : PT := tIload 1 <| tIf (fun x => x < 0) (w_X11_image_9 M G Rp) <| tIload 1 <| tConst 2 <| tIf2 (fun x y => x < y) (w_X11_image_12 M G Rp) <| w_X11_image_9 M G Rp
set_option maxRecDepth 20000 in
theorem b_X11_image_12 {Z : Zt} {d : Nat} {p : Program} {e : Env} {R : Room} {s : State} {m : MethodId} {args : Array Value} {below : List Frame} {meth : Method} {c : Code} {Rp : RT} (C : Cx Z (d + 3) jX11_image RX11 p R s m args meth c) : Sd Z jX11_image p e R s m args below meth c (MQ below (QcS Z Rp) args s 0 0 (fun a => Z.2.2.1 < a)) 12 (w_X11_image_12 (MS Z (d + 3)) (Gw Z 2 p e R s m args below meth c (MQ below (QcS Z Rp) args s 0 0 (fun a => Z.2.2.1 < a))) Rp) := by
  unfold w_X11_image_12
  refine s_aload_n (k := 0) C (by decide +kernel) ?_
  refine s_getR C w_2_236 (by decide +kernel) rfl ?_
  refine s_iload_n (k := 1) C (by decide +kernel) ?_
  refine s_aald C rfl (by decide +kernel) ?_
  refine s_aload_n (k := 0) C (by decide +kernel) ?_
  refine s_getR C w_2_234 (by decide +kernel) rfl ?_
  refine s_fnV C (j2 := jX10_copyFrom) (cl := 10) (nf := 6) rfl rfl (by decide +kernel) rfl w_3_36 w_3_37 w_3_38 w_1_2 w_3_39 (by decide +kernel) (fun _ _ _ _ _ h => f_X10_copyFrom h) (fun _ _ _ _ _ h => r_X10_copyFrom h) ?_
  refine s_aload_n (k := 0) C (by decide +kernel) ?_
  refine s_dup C (by decide +kernel) ?_
  refine s_getI C w_3_2 (by decide +kernel) rfl ?_
  refine s_iconst (n := 1) C (by decide +kernel) (by decide) ?_
  refine s_iload_n (k := 1) C (by decide +kernel) ?_
  refine s_ishl C (by decide +kernel) ?_
  refine s_ior C (by decide +kernel) ?_
  refine s_putI C w_3_2 (by decide +kernel) rfl (Or.inl rfl) ?_
  refine s_iconst (n := 0) C (by decide +kernel) (by decide) ?_
  exact s_iret C rfl (by decide +kernel)
set_option maxRecDepth 20000 in
theorem b_X11_image_9 {Z : Zt} {d : Nat} {p : Program} {e : Env} {R : Room} {s : State} {m : MethodId} {args : Array Value} {below : List Frame} {meth : Method} {c : Code} {Rp : RT} (C : Cx Z (d + 3) jX11_image RX11 p R s m args meth c) : Sd Z jX11_image p e R s m args below meth c (MQ below (QcS Z Rp) args s 0 0 (fun a => Z.2.2.1 < a)) 9 (w_X11_image_9 (MS Z (d + 3)) (Gw Z 2 p e R s m args below meth c (MQ below (QcS Z Rp) args s 0 0 (fun a => Z.2.2.1 < a))) Rp) := by
  unfold w_X11_image_9
  refine s_bipush (n := (-2)) C (by decide +kernel) (by decide) ?_
  exact s_iret C rfl (by decide +kernel)
set_option maxRecDepth 20000 in
theorem b_X11_image_0 {Z : Zt} {d : Nat} {p : Program} {e : Env} {R : Room} {s : State} {m : MethodId} {args : Array Value} {below : List Frame} {meth : Method} {c : Code} {Rp : RT} (C : Cx Z (d + 3) jX11_image RX11 p R s m args meth c) : Sd Z jX11_image p e R s m args below meth c (MQ below (QcS Z Rp) args s 0 0 (fun a => Z.2.2.1 < a)) 0 (w_X11_image_0 (MS Z (d + 3)) (Gw Z 2 p e R s m args below meth c (MQ below (QcS Z Rp) args s 0 0 (fun a => Z.2.2.1 < a))) Rp) := by
  unfold w_X11_image_0
  refine s_iload_n (k := 1) C (by decide +kernel) ?_
  refine s_if_lt (off := 8) (tgt := 9) C (by decide +kernel) (by decide) (b_X11_image_9 C) ?_
  refine s_iload_n (k := 1) C (by decide +kernel) ?_
  refine s_iconst (n := 2) C (by decide +kernel) (by decide) ?_
  refine s_icmp_lt (off := 6) (tgt := 12) C (by decide +kernel) (by decide) (b_X11_image_12 C) ?_
  exact (b_X11_image_9 C)
theorem ms_X11_image {Z : Zt} {d : Nat} {S : Sh} {μ : Mi} {ρ : Mr} {Rp : RT} (a0 : Nat) (x1 : Int32) (h : ∀ G : Nat → PT, w_X11_image_0 (MS Z (d + 3)) G Rp [.ref a0, .int x1] [] S (0, 0) μ ρ) : MS Z (d + 4) jX11_image [.ref a0, .int x1] S μ ρ Rp :=
  MS_of [.ref a0, .int x1] (by decide +kernel) rfl rfl (Nat.le_of_ble_eq_true rfl) rfl (fun p e R s m args below meth c C => b_X11_image_0 C _ _ _ _ _ _ (h _ ))
def F_X11_image : FT := fun As S μ ρ k => match As with
  | [.ref a, .int n] => S.2 a = (11, 11) ∧ a = 1 ∧ ∃ (A : Rw) (u : Nat) (D : Nat → Rw), TC A u D S μ ρ ∧ (¬ rgd n 0 1 → k (some (.int (-2))) μ) ∧ ∀ m : Nat, n = nI m → m < 2 → ∀ μ', TC A u D S μ' ρ → RR A (2397 + 170 * m) S μ' ρ → μ' 1 8 = μ 1 8 ||| (1 : Int32) <<< (nI m &&& 31) → (∀ i, i ≠ 8 → μ' 1 i = μ 1 i) → (∀ y : Nat, y ≠ 1 → (y < 2397 + 170 * m ∨ 2397 + 170 * m + 170 ≤ y) → μ' y = μ y) → k (some (.int 0)) μ'
  | _ => False
theorem r_X11_image {As S μ ρ k} (h : F_X11_image As S μ ρ k) : ∃ a As', As = Value.ref a :: As' ∧ S.2 a = (11, 11) := by
  unfold F_X11_image at h
  split at h
  · exact ⟨_, _, rfl, h.1⟩
  · exact h.elim
set_option maxHeartbeats 1000000 in
theorem f_X11_image {Z : Zt} {d : Nat} {As : List Value} {S : Sh} {μ : Mi} {ρ : Mr} {Rp : RT} (h : F_X11_image As S μ ρ (fun r μ' => Rp r S μ' ρ)) : MS Z (d + 4) jX11_image As S μ ρ Rp := by
  unfold F_X11_image at h
  split at h
  · rename_i a n
    obtain ⟨h1, rfl, A, u, D, hT, hn, hy⟩ := h
    refine ms_X11_image _ _ (fun G => ?_)
    have hT2 := hT
    obtain ⟨hT0, hR, sp, e6, hsp, e7, hu, hD⟩ := hT
    have hT' := hT0
    obtain ⟨h0, r, s2, r3, hP, w5, w6, w7, w8⟩ := hT0
    have i1 := (RR_W hR).2.1.1
    have e := rg_04 (x := n) (lo := 0) (hi := 1) (l := 0) (h := 2) (by decide) (by decide)
    simp only [w_X11_image_0, w_X11_image_9, tAload, tIload, nth, tGetI, tGetR, tConst, tLconst, tBin, tUn, tI2l, tAld, tAldR, tAlen, tIast, tBast, tZast, tAast, tIret, tZret, tVret, tAret, tIf, tIf2, tGoto, tIstore, tAstore, sset, tIinc, tDup, tDup2, tPop, tPutI, tPutZ, tPutR, tCallV, tCallS, popN, tFn, tCopy, tMax, tMin, tSw, swc, tRem, tObjI, Option.toList, List.nil_append, List.cons_append, okR, true_and, and_true, true_or, or_true, Nat.zero_le, ne_eq, not_false_eq_true, Nat.reduceEqDiff]
    refine ⟨fun c => hn (fun z => (e.mpr z).1 c), fun c => ⟨fun c2 => ?_, fun c2 => hn (fun z => c2 (e.mpr z).2)⟩⟩
    obtain ⟨m, rfl, m0, -, m1⟩ := rg_ex (lo := 0) (hi := 1) (e.mp ⟨c, c2⟩)
    have hm : m < 2 := by omega
    obtain ⟨j1, j2, j3⟩ := any_I (w8 m hm)
    simp only [w_X11_image_12, tAload, tIload, nth, tGetI, tGetR, tConst, tLconst, tBin, tUn, tI2l, tAld, tAldR, tAlen, tIast, tBast, tZast, tAast, tIret, tZret, tVret, tAret, tIf, tIf2, tGoto, tIstore, tAstore, sset, tIinc, tDup, tDup2, tPop, tPutI, tPutZ, tPutR, tCallV, tCallS, popN, tFn, tCopy, tMax, tMin, tSw, swc, tRem, tObjI, Option.toList, List.nil_append, List.cons_append, okR, true_and, and_true, true_or, or_true, Nat.zero_le, ne_eq, not_false_eq_true, Nat.reduceEqDiff, F_X10_copyFrom, h1, r, s2, i1, nI_clamp m0, r3.2 m hm, j1]
    refine ⟨inb_nI hm (by decide), by omega, j2, j3, by unfold apW; omega, A, hR, fun μ' q o => ?_⟩
    have e1 : μ' 1 = μ 1 := o 1 (by omega)
    rw [e1]
    have tc : TC A u D S μ' ρ := ⟨TW_v hT' (Or.inr (Or.inr (Or.inr (Or.inr ⟨m, hm, rfl⟩)))) ⟨_, q⟩ o (fun _ _ => rfl), RR_far hR (by unfold apW; omega) o (fun _ _ => rfl), sp, by rw [e1]; exact e6, hsp, by rw [e1]; exact e7, hu, fun j hj => RR_far (hD j hj) (by unfold apW; omega) o (fun _ _ => rfl)⟩
    exact hy m rfl hm _ (TC_1 tc (by omega) (by omega)) (RR_in q (fun y y1 y2 => upI_ne (by omega))) upI_at (fun i hi => by rw [upI_k hi, e1]) (fun y y1 y2 => by rw [upI_ne y1]; exact o y y2)
  · exact h.elim
theorem mb_iff {x : Int32} {m : Nat} (hm : m < 25) : (x >>> (nI m &&& 31) &&& 1 = 0) ↔ ¬ (x >>> (nI m &&& 31) &&& 1 = 1) := by
  generalize x >>> (nI m &&& 31) = z
  have h2 : rg (z &&& 1) 0 1 := by
    have h31 := rg_and (x := z) (y := 1) ⟨by decide, by decide⟩
    refine ⟨h31.1, ?_⟩
    have h1 : (z &&& 1).toBitVec.toNat ≤ 1 := by
      rw [Int32.toBitVec_and, BitVec.toNat_and]
      exact Nat.and_le_right
    rw [← Int32.toInt_toBitVec, BitVec.toInt_eq_toNat_cond, if_pos (by omega)]
    omega
  obtain ⟨m, m1, m2, -, m3⟩ := rg_ex h2
  rw [m1, show (0 : Int32) = nI 0 from rfl, show (1 : Int32) = nI 1 from rfl, nI_eq m2 (by decide), nI_eq m2 (by decide)]
  omega
def w_X11_restore_26 (M : CT) (G : Nat → PT) (Rp : RT) : PT := tAload 0 <| tGetR 11 11 0 <| tAload 0 <| tGetR 11 11 2 <| tIload 1 <| tAldR 40 <| tFn 2 F_X10_copyFrom <| tAload 0 <| tConst 0 <| tPutI 11 11 7 <| tConst 0 <| tIret Rp
def w_X11_restore_12 (M : CT) (G : Nat → PT) (Rp : RT) : PT := tAload 0 <| tGetI 11 11 8 <| tIload 1 <| tBin (fun x y => x >>> (y &&& 31)) <| tConst 1 <| tBin (fun x y => x &&& y) <| tIf (fun x => x ≠ 0) (w_X11_restore_26 M G Rp) <| tConst (-6) <| tIret Rp
def w_X11_restore_9 (M : CT) (G : Nat → PT) (Rp : RT) : PT := tConst (-2) <| tIret Rp
def w_X11_restore_0 (M : CT) (G : Nat → PT) (Rp : RT) : PT := tIload 1 <| tIf (fun x => x < 0) (w_X11_restore_9 M G Rp) <| tIload 1 <| tConst 2 <| tIf2 (fun x y => x < y) (w_X11_restore_12 M G Rp) <| w_X11_restore_9 M G Rp
set_option maxRecDepth 20000 in
theorem b_X11_restore_26 {Z : Zt} {d : Nat} {p : Program} {e : Env} {R : Room} {s : State} {m : MethodId} {args : Array Value} {below : List Frame} {meth : Method} {c : Code} {Rp : RT} (C : Cx Z (d + 3) jX11_restore RX11 p R s m args meth c) : Sd Z jX11_restore p e R s m args below meth c (MQ below (QcS Z Rp) args s 0 0 (fun a => Z.2.2.1 < a)) 26 (w_X11_restore_26 (MS Z (d + 3)) (Gw Z 2 p e R s m args below meth c (MQ below (QcS Z Rp) args s 0 0 (fun a => Z.2.2.1 < a))) Rp) := by
  unfold w_X11_restore_26
  refine s_aload_n (k := 0) C (by decide +kernel) ?_
  refine s_getR C w_2_234 (by decide +kernel) rfl ?_
  refine s_aload_n (k := 0) C (by decide +kernel) ?_
  refine s_getR C w_2_236 (by decide +kernel) rfl ?_
  refine s_iload_n (k := 1) C (by decide +kernel) ?_
  refine s_aald C rfl (by decide +kernel) ?_
  refine s_fnV C (j2 := jX10_copyFrom) (cl := 10) (nf := 6) rfl rfl (by decide +kernel) rfl w_3_36 w_3_37 w_3_38 w_1_2 w_3_39 (by decide +kernel) (fun _ _ _ _ _ h => f_X10_copyFrom h) (fun _ _ _ _ _ h => r_X10_copyFrom h) ?_
  refine s_aload_n (k := 0) C (by decide +kernel) ?_
  refine s_iconst (n := 0) C (by decide +kernel) (by decide) ?_
  refine s_putI C w_3_1 (by decide +kernel) rfl (Or.inl rfl) ?_
  refine s_iconst (n := 0) C (by decide +kernel) (by decide) ?_
  exact s_iret C rfl (by decide +kernel)
set_option maxRecDepth 20000 in
theorem b_X11_restore_12 {Z : Zt} {d : Nat} {p : Program} {e : Env} {R : Room} {s : State} {m : MethodId} {args : Array Value} {below : List Frame} {meth : Method} {c : Code} {Rp : RT} (C : Cx Z (d + 3) jX11_restore RX11 p R s m args meth c) : Sd Z jX11_restore p e R s m args below meth c (MQ below (QcS Z Rp) args s 0 0 (fun a => Z.2.2.1 < a)) 12 (w_X11_restore_12 (MS Z (d + 3)) (Gw Z 2 p e R s m args below meth c (MQ below (QcS Z Rp) args s 0 0 (fun a => Z.2.2.1 < a))) Rp) := by
  unfold w_X11_restore_12
  refine s_aload_n (k := 0) C (by decide +kernel) ?_
  refine s_getI C w_3_2 (by decide +kernel) rfl ?_
  refine s_iload_n (k := 1) C (by decide +kernel) ?_
  refine s_ishr C (by decide +kernel) ?_
  refine s_iconst (n := 1) C (by decide +kernel) (by decide) ?_
  refine s_iand C (by decide +kernel) ?_
  refine s_if_ne (off := 6) (tgt := 26) C (by decide +kernel) (by decide) (b_X11_restore_26 C) ?_
  refine s_bipush (n := (-6)) C (by decide +kernel) (by decide) ?_
  exact s_iret C rfl (by decide +kernel)
set_option maxRecDepth 20000 in
theorem b_X11_restore_9 {Z : Zt} {d : Nat} {p : Program} {e : Env} {R : Room} {s : State} {m : MethodId} {args : Array Value} {below : List Frame} {meth : Method} {c : Code} {Rp : RT} (C : Cx Z (d + 3) jX11_restore RX11 p R s m args meth c) : Sd Z jX11_restore p e R s m args below meth c (MQ below (QcS Z Rp) args s 0 0 (fun a => Z.2.2.1 < a)) 9 (w_X11_restore_9 (MS Z (d + 3)) (Gw Z 2 p e R s m args below meth c (MQ below (QcS Z Rp) args s 0 0 (fun a => Z.2.2.1 < a))) Rp) := by
  unfold w_X11_restore_9
  refine s_bipush (n := (-2)) C (by decide +kernel) (by decide) ?_
  exact s_iret C rfl (by decide +kernel)
set_option maxRecDepth 20000 in
theorem b_X11_restore_0 {Z : Zt} {d : Nat} {p : Program} {e : Env} {R : Room} {s : State} {m : MethodId} {args : Array Value} {below : List Frame} {meth : Method} {c : Code} {Rp : RT} (C : Cx Z (d + 3) jX11_restore RX11 p R s m args meth c) : Sd Z jX11_restore p e R s m args below meth c (MQ below (QcS Z Rp) args s 0 0 (fun a => Z.2.2.1 < a)) 0 (w_X11_restore_0 (MS Z (d + 3)) (Gw Z 2 p e R s m args below meth c (MQ below (QcS Z Rp) args s 0 0 (fun a => Z.2.2.1 < a))) Rp) := by
  unfold w_X11_restore_0
  refine s_iload_n (k := 1) C (by decide +kernel) ?_
  refine s_if_lt (off := 8) (tgt := 9) C (by decide +kernel) (by decide) (b_X11_restore_9 C) ?_
  refine s_iload_n (k := 1) C (by decide +kernel) ?_
  refine s_iconst (n := 2) C (by decide +kernel) (by decide) ?_
  refine s_icmp_lt (off := 6) (tgt := 12) C (by decide +kernel) (by decide) (b_X11_restore_12 C) ?_
  exact (b_X11_restore_9 C)
theorem ms_X11_restore {Z : Zt} {d : Nat} {S : Sh} {μ : Mi} {ρ : Mr} {Rp : RT} (a0 : Nat) (x1 : Int32) (h : ∀ G : Nat → PT, w_X11_restore_0 (MS Z (d + 3)) G Rp [.ref a0, .int x1] [] S (0, 0) μ ρ) : MS Z (d + 4) jX11_restore [.ref a0, .int x1] S μ ρ Rp :=
  MS_of [.ref a0, .int x1] (by decide +kernel) rfl rfl (Nat.le_of_ble_eq_true rfl) rfl (fun p e R s m args below meth c C => b_X11_restore_0 C _ _ _ _ _ _ (h _ ))
def F_X11_restore : FT := fun As S μ ρ k => match As with
  | [.ref a, .int n] => S.2 a = (11, 11) ∧ a = 1 ∧ ∃ (A : Rw) (u : Nat) (D : Nat → Rw), TC A u D S μ ρ ∧ (¬ rgd n 0 1 → k (some (.int (-2))) μ) ∧ ∀ m : Nat, n = nI m → m < 2 → (¬ (μ 1 8 >>> (nI m &&& 31)) &&& 1 = 1 → k (some (.int (-6))) μ) ∧ ((μ 1 8 >>> (nI m &&& 31)) &&& 1 = 1 → ∃ B : Rw, RR B (2397 + 170 * m) S μ ρ ∧ ∀ μ', TC B 0 D S μ' ρ → KT μ μ' → k (some (.int 0)) μ')
  | _ => False
theorem r_X11_restore {As S μ ρ k} (h : F_X11_restore As S μ ρ k) : ∃ a As', As = Value.ref a :: As' ∧ S.2 a = (11, 11) := by
  unfold F_X11_restore at h
  split at h
  · exact ⟨_, _, rfl, h.1⟩
  · exact h.elim
set_option maxHeartbeats 1000000 in
theorem f_X11_restore {Z : Zt} {d : Nat} {As : List Value} {S : Sh} {μ : Mi} {ρ : Mr} {Rp : RT} (h : F_X11_restore As S μ ρ (fun r μ' => Rp r S μ' ρ)) : MS Z (d + 4) jX11_restore As S μ ρ Rp := by
  unfold F_X11_restore at h
  split at h
  · rename_i a n
    obtain ⟨h1, rfl, A, u, D, hT, hn, hy⟩ := h
    refine ms_X11_restore _ _ (fun G => ?_)
    have hT2 := hT
    obtain ⟨hT0, hR, sp, e6, hsp, e7, hu, hD⟩ := hT
    have hT' := hT0
    obtain ⟨h0, r, s2, r3, hP, w5, w6, w7, w8⟩ := hT0
    have i1 := (RR_W hR).2.1.1
    have iI : WI 2 μ := fun s hs => (RR_st hR hs).1.1
    have e := rg_04 (x := n) (lo := 0) (hi := 1) (l := 0) (h := 2) (by decide) (by decide)
    simp only [w_X11_restore_0, w_X11_restore_9, tAload, tIload, nth, tGetI, tGetR, tConst, tLconst, tBin, tUn, tI2l, tAld, tAldR, tAlen, tIast, tBast, tZast, tAast, tIret, tZret, tVret, tAret, tIf, tIf2, tGoto, tIstore, tAstore, sset, tIinc, tDup, tDup2, tPop, tPutI, tPutZ, tPutR, tCallV, tCallS, popN, tFn, tCopy, tMax, tMin, tSw, swc, tRem, tObjI, Option.toList, List.nil_append, List.cons_append, okR, true_and, and_true, true_or, or_true, Nat.zero_le, ne_eq, not_false_eq_true, Nat.reduceEqDiff]
    refine ⟨fun c => hn (fun z => (e.mpr z).1 c), fun c => ⟨fun c2 => ?_, fun c2 => hn (fun z => c2 (e.mpr z).2)⟩⟩
    obtain ⟨m, rfl, m0, -, m1⟩ := rg_ex (lo := 0) (hi := 1) (e.mp ⟨c, c2⟩)
    have hm : m < 2 := by omega
    obtain ⟨y1, y2⟩ := hy m rfl hm
    obtain ⟨j1, j2, j3⟩ := any_I (w8 m hm)
    simp only [w_X11_restore_12, w_X11_restore_26, tAload, tIload, nth, tGetI, tGetR, tConst, tLconst, tBin, tUn, tI2l, tAld, tAldR, tAlen, tIast, tBast, tZast, tAast, tIret, tZret, tVret, tAret, tIf, tIf2, tGoto, tIstore, tAstore, sset, tIinc, tDup, tDup2, tPop, tPutI, tPutZ, tPutR, tCallV, tCallS, popN, tFn, tCopy, tMax, tMin, tSw, swc, tRem, tObjI, Option.toList, List.nil_append, List.cons_append, okR, true_and, and_true, true_or, or_true, Nat.zero_le, ne_eq, not_false_eq_true, Nat.reduceEqDiff, F_X10_copyFrom, h1, r, s2, i1, nI_clamp m0, r3.2 m hm, j1, mb_iff (show m < 25 by omega), Decidable.not_not]
    refine ⟨fun z => ?_, fun z => y1 z⟩
    obtain ⟨B, hB, h⟩ := y2 z
    refine ⟨inb_nI hm (by decide), by omega, RR_W hR, iI, by unfold apW; omega, B, hB, fun μ' q o => ?_⟩
    have e1 : μ' 1 = μ 1 := o 1 (by omega)
    refine h _ ⟨TW_1 (TW_v hT' (Or.inl rfl) ⟨_, q⟩ o (fun _ _ => rfl)), RR_in q (fun y y1 y2 => upI_ne (by omega)), sp, by rw [upI_k (by omega), e1]; exact e6, hsp, upI_at, by omega, fun j hj => by omega⟩ ⟨fun y hy => by rw [upI_ne (by omega)]; exact o y (by omega), fun i i6 i7 => by rw [upI_k i7, e1]⟩
  · exact h.elim
def w_X11_fault_44 (M : CT) (G : Nat → PT) (Rp : RT) : PT := tConst (-1) <| tIret Rp
def w_X11_fault_36 (M : CT) (G : Nat → PT) (Rp : RT) : PT := tAload 0 <| tGetR 11 11 4 <| tGetI 9 7 4 <| tIret Rp
def w_X11_fault_28 (M : CT) (G : Nat → PT) (Rp : RT) : PT := tAload 0 <| tGetR 11 11 4 <| tGetI 9 7 3 <| tIret Rp
def w_X11_fault_0 (M : CT) (G : Nat → PT) (Rp : RT) : PT := tIload 1 <| tSw [(0, w_X11_fault_28 M G Rp), (1, w_X11_fault_36 M G Rp)] (w_X11_fault_44 M G Rp)
set_option maxRecDepth 20000 in
theorem b_X11_fault_44 {Z : Zt} {d : Nat} {p : Program} {e : Env} {R : Room} {s : State} {m : MethodId} {args : Array Value} {below : List Frame} {meth : Method} {c : Code} {Rp : RT} (C : Cx Z d jX11_fault RX11 p R s m args meth c) : Sd Z jX11_fault p e R s m args below meth c (MQ below (QcS Z Rp) args s 0 0 (fun a => Z.2.2.1 < a)) 44 (w_X11_fault_44 (MS Z d) (Gw Z 2 p e R s m args below meth c (MQ below (QcS Z Rp) args s 0 0 (fun a => Z.2.2.1 < a))) Rp) := by
  unfold w_X11_fault_44
  refine s_iconst (n := (-1)) C (by decide +kernel) (by decide) ?_
  exact s_iret C rfl (by decide +kernel)
set_option maxRecDepth 20000 in
theorem b_X11_fault_36 {Z : Zt} {d : Nat} {p : Program} {e : Env} {R : Room} {s : State} {m : MethodId} {args : Array Value} {below : List Frame} {meth : Method} {c : Code} {Rp : RT} (C : Cx Z d jX11_fault RX11 p R s m args meth c) : Sd Z jX11_fault p e R s m args below meth c (MQ below (QcS Z Rp) args s 0 0 (fun a => Z.2.2.1 < a)) 36 (w_X11_fault_36 (MS Z d) (Gw Z 2 p e R s m args below meth c (MQ below (QcS Z Rp) args s 0 0 (fun a => Z.2.2.1 < a))) Rp) := by
  unfold w_X11_fault_36
  refine s_aload_n (k := 0) C (by decide +kernel) ?_
  refine s_getR C w_2_238 (by decide +kernel) rfl ?_
  refine s_getI C w_2_172 (by decide +kernel) rfl ?_
  exact s_iret C rfl (by decide +kernel)
set_option maxRecDepth 20000 in
theorem b_X11_fault_28 {Z : Zt} {d : Nat} {p : Program} {e : Env} {R : Room} {s : State} {m : MethodId} {args : Array Value} {below : List Frame} {meth : Method} {c : Code} {Rp : RT} (C : Cx Z d jX11_fault RX11 p R s m args meth c) : Sd Z jX11_fault p e R s m args below meth c (MQ below (QcS Z Rp) args s 0 0 (fun a => Z.2.2.1 < a)) 28 (w_X11_fault_28 (MS Z d) (Gw Z 2 p e R s m args below meth c (MQ below (QcS Z Rp) args s 0 0 (fun a => Z.2.2.1 < a))) Rp) := by
  unfold w_X11_fault_28
  refine s_aload_n (k := 0) C (by decide +kernel) ?_
  refine s_getR C w_2_238 (by decide +kernel) rfl ?_
  refine s_getI C w_2_170 (by decide +kernel) rfl ?_
  exact s_iret C rfl (by decide +kernel)
set_option maxRecDepth 20000 in
theorem b_X11_fault_0 {Z : Zt} {d : Nat} {p : Program} {e : Env} {R : Room} {s : State} {m : MethodId} {args : Array Value} {below : List Frame} {meth : Method} {c : Code} {Rp : RT} (C : Cx Z d jX11_fault RX11 p R s m args meth c) : Sd Z jX11_fault p e R s m args below meth c (MQ below (QcS Z Rp) args s 0 0 (fun a => Z.2.2.1 < a)) 0 (w_X11_fault_0 (MS Z d) (Gw Z 2 p e R s m args below meth c (MQ below (QcS Z Rp) args s 0 0 (fun a => Z.2.2.1 < a))) Rp) := by
  unfold w_X11_fault_0
  refine s_iload_n (k := 1) C (by decide +kernel) ?_
  refine s_lsw (df := 43) (ps := #[(0, 27), (1, 35)]) (len := 27) C (by decide +kernel) (by decide) 44 (by decide) (b_X11_fault_44 C) (fun i r h => ?_) (fun x h => ?_)
  · match i, h with
    | 0, h => cases h; dsimp only; exact ⟨27, 28, by decide, by decide, (b_X11_fault_28 C)⟩
    | 1, h => cases h; dsimp only; exact ⟨35, 36, by decide, by decide, (b_X11_fault_36 C)⟩
    | q + 2, h => simp at h
  · refine lsw_out _ _ x (fun a ha => ?_)
    simp at ha h
    rcases ha with ⟨rfl, _⟩ | ⟨rfl, _⟩
    · exact fun z => h.1 (Int32.toInt_inj.mp (by rw [z]; rfl))
    · exact fun z => h.2 (Int32.toInt_inj.mp (by rw [z]; rfl))
theorem ms_X11_fault {Z : Zt} {d : Nat} {S : Sh} {μ : Mi} {ρ : Mr} {Rp : RT} (a0 : Nat) (x1 : Int32) (h : ∀ G : Nat → PT, w_X11_fault_0 (MS Z d) G Rp [.ref a0, .int x1] [] S (0, 0) μ ρ) : MS Z (d + 1) jX11_fault [.ref a0, .int x1] S μ ρ Rp :=
  MS_of [.ref a0, .int x1] (by decide +kernel) rfl rfl (Nat.le_of_ble_eq_true rfl) rfl (fun p e R s m args below meth c C => b_X11_fault_0 C _ _ _ _ _ _ (h _ ))
def F_X11_fault : FT := fun As S μ ρ k => match As with
  | [.ref a, .int x] => S.2 a = (11, 11) ∧ a = 1 ∧ ρ 1 4 = 856 ∧ S.2 856 = (9, 7) ∧ k (some (.int (vTwo x (μ 856 3) (μ 856 4)))) μ
  | _ => False
theorem r_X11_fault {As S μ ρ k} (h : F_X11_fault As S μ ρ k) : ∃ a As', As = Value.ref a :: As' ∧ S.2 a = (11, 11) := by
  unfold F_X11_fault at h
  split at h
  · exact ⟨_, _, rfl, h.1⟩
  · exact h.elim
set_option maxHeartbeats 1000000 in
theorem f_X11_fault {Z : Zt} {d : Nat} {As : List Value} {S : Sh} {μ : Mi} {ρ : Mr} {Rp : RT} (h : F_X11_fault As S μ ρ (fun r μ' => Rp r S μ' ρ)) : MS Z (d + 1) jX11_fault As S μ ρ Rp := by
  unfold F_X11_fault at h
  split at h
  · rename_i a x
    obtain ⟨h1, rfl, r4, h9, h⟩ := h
    unfold vTwo at h
    refine ms_X11_fault _ _ (fun G => ?_)
    simp only [w_X11_fault_0, w_X11_fault_28, w_X11_fault_36, w_X11_fault_44, tAload, tIload, nth, tGetI, tGetR, tConst, tLconst, tBin, tUn, tI2l, tAld, tAldR, tAlen, tIast, tBast, tZast, tAast, tIret, tZret, tVret, tAret, tIf, tIf2, tGoto, tIstore, tAstore, sset, tIinc, tDup, tDup2, tPop, tPutI, tPutZ, tPutR, tCallV, tCallS, popN, tFn, tCopy, tMax, tMin, tSw, swc, tRem, tObjI, Option.toList, List.nil_append, List.cons_append, okR, true_and, and_true, true_or, or_true, Nat.zero_le, ne_eq, not_false_eq_true, Nat.reduceEqDiff, h1, r4, h9]
    refine ⟨fun c => ?_, fun c => ⟨fun c2 => ?_, fun c2 => ?_⟩⟩
    · rw [if_pos c] at h; exact h
    · rw [if_neg c, if_pos c2] at h; exact h
    · rw [if_neg c, if_neg c2] at h; exact h
  · exact h.elim
def w_X11_halted_38 (M : CT) (G : Nat → PT) (Rp : RT) : PT := tConst (-1) <| tIret Rp
def w_X11_halted_33 (M : CT) (G : Nat → PT) (Rp : RT) : PT := tAload 0 <| tGetI 11 11 10 <| tIret Rp
def w_X11_halted_28 (M : CT) (G : Nat → PT) (Rp : RT) : PT := tAload 0 <| tGetI 11 11 9 <| tIret Rp
def w_X11_halted_0 (M : CT) (G : Nat → PT) (Rp : RT) : PT := tIload 1 <| tSw [(0, w_X11_halted_28 M G Rp), (1, w_X11_halted_33 M G Rp)] (w_X11_halted_38 M G Rp)
set_option maxRecDepth 20000 in
theorem b_X11_halted_38 {Z : Zt} {d : Nat} {p : Program} {e : Env} {R : Room} {s : State} {m : MethodId} {args : Array Value} {below : List Frame} {meth : Method} {c : Code} {Rp : RT} (C : Cx Z d jX11_halted RX11 p R s m args meth c) : Sd Z jX11_halted p e R s m args below meth c (MQ below (QcS Z Rp) args s 0 0 (fun a => Z.2.2.1 < a)) 38 (w_X11_halted_38 (MS Z d) (Gw Z 2 p e R s m args below meth c (MQ below (QcS Z Rp) args s 0 0 (fun a => Z.2.2.1 < a))) Rp) := by
  unfold w_X11_halted_38
  refine s_iconst (n := (-1)) C (by decide +kernel) (by decide) ?_
  exact s_iret C rfl (by decide +kernel)
set_option maxRecDepth 20000 in
theorem b_X11_halted_33 {Z : Zt} {d : Nat} {p : Program} {e : Env} {R : Room} {s : State} {m : MethodId} {args : Array Value} {below : List Frame} {meth : Method} {c : Code} {Rp : RT} (C : Cx Z d jX11_halted RX11 p R s m args meth c) : Sd Z jX11_halted p e R s m args below meth c (MQ below (QcS Z Rp) args s 0 0 (fun a => Z.2.2.1 < a)) 33 (w_X11_halted_33 (MS Z d) (Gw Z 2 p e R s m args below meth c (MQ below (QcS Z Rp) args s 0 0 (fun a => Z.2.2.1 < a))) Rp) := by
  unfold w_X11_halted_33
  refine s_aload_n (k := 0) C (by decide +kernel) ?_
  refine s_getI C w_3_4 (by decide +kernel) rfl ?_
  exact s_iret C rfl (by decide +kernel)
set_option maxRecDepth 20000 in
theorem b_X11_halted_28 {Z : Zt} {d : Nat} {p : Program} {e : Env} {R : Room} {s : State} {m : MethodId} {args : Array Value} {below : List Frame} {meth : Method} {c : Code} {Rp : RT} (C : Cx Z d jX11_halted RX11 p R s m args meth c) : Sd Z jX11_halted p e R s m args below meth c (MQ below (QcS Z Rp) args s 0 0 (fun a => Z.2.2.1 < a)) 28 (w_X11_halted_28 (MS Z d) (Gw Z 2 p e R s m args below meth c (MQ below (QcS Z Rp) args s 0 0 (fun a => Z.2.2.1 < a))) Rp) := by
  unfold w_X11_halted_28
  refine s_aload_n (k := 0) C (by decide +kernel) ?_
  refine s_getI C w_3_3 (by decide +kernel) rfl ?_
  exact s_iret C rfl (by decide +kernel)
set_option maxRecDepth 20000 in
theorem b_X11_halted_0 {Z : Zt} {d : Nat} {p : Program} {e : Env} {R : Room} {s : State} {m : MethodId} {args : Array Value} {below : List Frame} {meth : Method} {c : Code} {Rp : RT} (C : Cx Z d jX11_halted RX11 p R s m args meth c) : Sd Z jX11_halted p e R s m args below meth c (MQ below (QcS Z Rp) args s 0 0 (fun a => Z.2.2.1 < a)) 0 (w_X11_halted_0 (MS Z d) (Gw Z 2 p e R s m args below meth c (MQ below (QcS Z Rp) args s 0 0 (fun a => Z.2.2.1 < a))) Rp) := by
  unfold w_X11_halted_0
  refine s_iload_n (k := 1) C (by decide +kernel) ?_
  refine s_lsw (df := 37) (ps := #[(0, 27), (1, 32)]) (len := 27) C (by decide +kernel) (by decide) 38 (by decide) (b_X11_halted_38 C) (fun i r h => ?_) (fun x h => ?_)
  · match i, h with
    | 0, h => cases h; dsimp only; exact ⟨27, 28, by decide, by decide, (b_X11_halted_28 C)⟩
    | 1, h => cases h; dsimp only; exact ⟨32, 33, by decide, by decide, (b_X11_halted_33 C)⟩
    | q + 2, h => simp at h
  · refine lsw_out _ _ x (fun a ha => ?_)
    simp at ha h
    rcases ha with ⟨rfl, _⟩ | ⟨rfl, _⟩
    · exact fun z => h.1 (Int32.toInt_inj.mp (by rw [z]; rfl))
    · exact fun z => h.2 (Int32.toInt_inj.mp (by rw [z]; rfl))
theorem ms_X11_halted {Z : Zt} {d : Nat} {S : Sh} {μ : Mi} {ρ : Mr} {Rp : RT} (a0 : Nat) (x1 : Int32) (h : ∀ G : Nat → PT, w_X11_halted_0 (MS Z d) G Rp [.ref a0, .int x1] [] S (0, 0) μ ρ) : MS Z (d + 1) jX11_halted [.ref a0, .int x1] S μ ρ Rp :=
  MS_of [.ref a0, .int x1] (by decide +kernel) rfl rfl (Nat.le_of_ble_eq_true rfl) rfl (fun p e R s m args below meth c C => b_X11_halted_0 C _ _ _ _ _ _ (h _ ))
def F_X11_halted : FT := fun As S μ ρ k => match As with
  | [.ref a, .int x] => S.2 a = (11, 11) ∧ a = 1 ∧ k (some (.int (vTwo x (μ 1 9) (μ 1 10)))) μ
  | _ => False
theorem r_X11_halted {As S μ ρ k} (h : F_X11_halted As S μ ρ k) : ∃ a As', As = Value.ref a :: As' ∧ S.2 a = (11, 11) := by
  unfold F_X11_halted at h
  split at h
  · exact ⟨_, _, rfl, h.1⟩
  · exact h.elim
set_option maxHeartbeats 1000000 in
theorem f_X11_halted {Z : Zt} {d : Nat} {As : List Value} {S : Sh} {μ : Mi} {ρ : Mr} {Rp : RT} (h : F_X11_halted As S μ ρ (fun r μ' => Rp r S μ' ρ)) : MS Z (d + 1) jX11_halted As S μ ρ Rp := by
  unfold F_X11_halted at h
  split at h
  · rename_i a x
    obtain ⟨h1, rfl, h⟩ := h
    unfold vTwo at h
    refine ms_X11_halted _ _ (fun G => ?_)
    simp only [w_X11_halted_0, w_X11_halted_28, w_X11_halted_33, w_X11_halted_38, tAload, tIload, nth, tGetI, tGetR, tConst, tLconst, tBin, tUn, tI2l, tAld, tAldR, tAlen, tIast, tBast, tZast, tAast, tIret, tZret, tVret, tAret, tIf, tIf2, tGoto, tIstore, tAstore, sset, tIinc, tDup, tDup2, tPop, tPutI, tPutZ, tPutR, tCallV, tCallS, popN, tFn, tCopy, tMax, tMin, tSw, swc, tRem, tObjI, Option.toList, List.nil_append, List.cons_append, okR, true_and, and_true, true_or, or_true, Nat.zero_le, ne_eq, not_false_eq_true, Nat.reduceEqDiff, h1]
    refine ⟨fun c => ?_, fun c => ⟨fun c2 => ?_, fun c2 => ?_⟩⟩
    · rw [if_pos c] at h; exact h
    · rw [if_neg c, if_pos c2] at h; exact h
    · rw [if_neg c, if_neg c2] at h; exact h
  · exact h.elim
