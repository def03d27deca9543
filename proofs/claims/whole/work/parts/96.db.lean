/-! ===== the class: a message is taken out ===== -/
def bxF (f : Nat → Nat) (i j : Nat) : Nat → Nat := fun k => if i ≤ k ∧ k < j then f (k + 1) else f k
def bxO (f : Nat → Nat) (i v : Nat) : Nat → Nat := fun k => if k = 60 then f i else if k = v then f 60 else bxF f i v k
def sg (i v k : Nat) : Nat := if k = 60 then i else if k = v then 60 else if i ≤ k ∧ k < v then k + 1 else k
theorem bxO_sg {f : Nat → Nat} {i v k : Nat} : bxO f i v k = f (sg i v k) := by
  unfold bxO sg bxF
  split
  · rfl
  · split
    · rfl
    · split <;> rfl
theorem sg_le {i v k : Nat} (hi : i ≤ v) (hv : v < 60) (hk : k ≤ 60) : sg i v k ≤ 60 := by
  unfold sg
  split
  · omega
  · split
    · omega
    · split <;> omega
theorem sg_inj {i v k l : Nat} (hi : i ≤ v) (hv : v < 60) (hk : k ≤ 60) (hl : l ≤ 60) (h : sg i v k = sg i v l) : k = l := by
  unfold sg at h
  split at h
  · split at h
    · omega
    · split at h
      · omega
      · split at h <;> omega
  · split at h
    · split at h
      · omega
      · split at h
        · omega
        · split at h <;> omega
    · split at h
      · split at h
        · omega
        · split at h
          · omega
          · split at h <;> omega
      · split at h
        · omega
        · split at h
          · omega
          · split at h <;> omega
theorem upR_F {ρ : Mr} {a k x : Nat} : upR ρ a k x = upF ρ a (fun i => if i = k then x else ρ a i) := by
  funext b i
  unfold upR upF
  by_cases h : b = a
  · subst h; simp
  · simp [h]
theorem bxF_s {f : Nat → Nat} {i j : Nat} (h : i ≤ j) : (fun k => if k = j then bxF f i j (j + 1) else bxF f i j k) = bxF f i (j + 1) := by
  funext k
  unfold bxF
  by_cases c : k = j
  · subst c
    rw [if_pos rfl, if_neg (by omega), if_pos (by omega)]
  · rw [if_neg c]
    by_cases c2 : i ≤ k ∧ k < j
    · rw [if_pos c2, if_pos (by omega)]
    · rw [if_neg c2, if_neg (by omega)]
theorem bxF_0 {f : Nat → Nat} {i : Nat} : bxF f i i = f := by
  funext k
  unfold bxF
  rw [if_neg (by omega)]
theorem bxO_eq {f : Nat → Nat} {i v : Nat} (hi : i ≤ v) (hv : v < 60) : (fun k => if k = 60 then f i else (fun k => if k = v then bxF f i v 60 else bxF f i v k) k) = bxO f i v := by
  funext k
  unfold bxO
  by_cases c : k = 60
  · rw [if_pos c, if_pos c]
  · rw [if_neg c, if_neg c]
    have : bxF f i v 60 = f 60 := by unfold bxF; rw [if_neg (by omega)]
    simp only [this]
theorem WOK_ref {w : Nat} {S : Sh} {ρ ρ' : Mr} {i v : Nat} (h : WOK w S ρ) (hi : i ≤ v) (hv : v < 60) (hρ : ∀ y, y ≠ w + 3 → ρ' y = ρ y) (h3 : ρ' (w + 3) = bxO (ρ (w + 3)) i v) : WOK w S ρ' := by
  obtain ⟨h0, h1, h2, h4, h5, h6, h7⟩ := h
  refine ⟨h0, h1, fun j hj => ?_, fun s hs => ?_, ?_, fun k hk => ?_, fun k l hk hl e => ?_⟩
  · rw [hρ _ (by omega)]; exact h2 j hj
  · have := h4 s hs
    unfold StS at *
    rw [hρ _ (by omega), hρ _ (by omega), hρ _ (by omega)]
    exact this
  · rw [hρ _ (by omega), hρ _ (by omega)]; exact h5
  · rw [h3, bxO_sg]
    exact h6 _ (sg_le hi hv hk)
  · rw [h3, bxO_sg, bxO_sg] at e
    exact sg_inj hi hv hk hl (h7 _ _ (sg_le hi hv hk) (sg_le hi hv hl) e)
theorem qOut_w {A : Rw} {i : Nat} : qOut A i 4510 = A 4510 - 1 := by unfold qOut; rw [up_at]
theorem qOut_row {A : Rw} {i k v : Nat} (hv : (A 4510).toNatClampNeg = v + 1) (hv2 : v < 60) (hi : i ≤ v) (hk : k < v) : ∀ j, j < 21 → rowM (qOut A i) k j = rowM A (sg i v k) j := by
  intro j hj
  by_cases c : i ≤ k
  · have e : sg i v k = k + 1 := by unfold sg; rw [if_neg (by omega), if_neg (by omega), if_pos (by omega)]
    rw [e]
    unfold rowM qOut
    rw [up_ne (by omega), hv]
    unfold cpF
    rw [if_pos (by omega)]
    congr 1
    omega
  · have e : sg i v k = k := by unfold sg; rw [if_neg (by omega), if_neg (by omega), if_neg (by omega)]
    rw [e]
    unfold rowM qOut
    rw [up_ne (by omega), hv]
    unfold cpF
    rw [if_neg (by omega)]
def w_X1_takeOut_47 (M : CT) (G : Nat → PT) (Rp : RT) : PT := tAload 0 <| tGetR 1 6 0 <| tAload 0 <| tGetI 1 6 2 <| tAload 0 <| tGetR 1 6 0 <| tConst 60 <| tAldR 32 <| tAast 2 <| tAload 0 <| tGetR 1 6 0 <| tConst 60 <| tAload 2 <| tAast 2 <| tAload 2 <| tAret Rp
def w_X1_takeOut_19 (M : CT) (G : Nat → PT) (Rp : RT) : PT := tIload 3 <| tAload 0 <| tGetI 1 6 2 <| tIf2 (fun x y => y ≤ x) (w_X1_takeOut_47 M G Rp) <| tAload 0 <| tGetR 1 6 0 <| tIload 3 <| tAload 0 <| tGetR 1 6 0 <| tIload 3 <| tConst 1 <| tBin (fun x y => x + y) <| tAldR 32 <| tAast 2 <| tIinc 3 1 <| tGoto (G 19)
def w_X1_takeOut_0 (M : CT) (G : Nat → PT) (Rp : RT) : PT := tAload 0 <| tGetR 1 6 0 <| tIload 1 <| tAldR 32 <| tAstore 2 <| tAload 0 <| tDup <| tGetI 1 6 2 <| tConst 1 <| tBin (fun x y => x - y) <| tPutI 1 6 2 <| tIload 1 <| tIstore 3 <| G 19
set_option maxRecDepth 20000 in
theorem b_X1_takeOut_47 {Z : Zt} {d : Nat} {p : Program} {e : Env} {R : Room} {s : State} {m : MethodId} {args : Array Value} {below : List Frame} {meth : Method} {c : Code} {Rp : RT} (C : Cx Z d jX1_takeOut RX1 p R s m args meth c) : Sd Z jX1_takeOut p e R s m args below meth c (MQ below (QcS Z Rp) args s 0 0 (fun a => Z.2.2.1 < a)) 47 (w_X1_takeOut_47 (MS Z d) (Gw Z 4 p e R s m args below meth c (MQ below (QcS Z Rp) args s 0 0 (fun a => Z.2.2.1 < a))) Rp) := by
  unfold w_X1_takeOut_47
  refine s_aload_n (k := 0) C (by decide +kernel) ?_
  refine s_getR C w_1_118 (by decide +kernel) rfl ?_
  refine s_aload_n (k := 0) C (by decide +kernel) ?_
  refine s_getI C w_1_123 (by decide +kernel) rfl ?_
  refine s_aload_n (k := 0) C (by decide +kernel) ?_
  refine s_getR C w_1_118 (by decide +kernel) rfl ?_
  refine s_bipush (n := 60) C (by decide +kernel) (by decide) ?_
  refine s_aald C rfl (by decide +kernel) ?_
  refine s_aast C rfl (by decide +kernel) ?_
  refine s_aload_n (k := 0) C (by decide +kernel) ?_
  refine s_getR C w_1_118 (by decide +kernel) rfl ?_
  refine s_bipush (n := 60) C (by decide +kernel) (by decide) ?_
  refine s_aload_n (k := 2) C (by decide +kernel) ?_
  refine s_aast C rfl (by decide +kernel) ?_
  refine s_aload_n (k := 2) C (by decide +kernel) ?_
  exact s_aret C rfl (by decide +kernel)
set_option maxRecDepth 20000 in
theorem b_X1_takeOut_19 {Z : Zt} {d : Nat} {p : Program} {e : Env} {R : Room} {s : State} {m : MethodId} {args : Array Value} {below : List Frame} {meth : Method} {c : Code} {Rp : RT} (C : Cx Z d jX1_takeOut RX1 p R s m args meth c) : Sd Z jX1_takeOut p e R s m args below meth c (MQ below (QcS Z Rp) args s 0 0 (fun a => Z.2.2.1 < a)) 19 (w_X1_takeOut_19 (MS Z d) (Gw Z 4 p e R s m args below meth c (MQ below (QcS Z Rp) args s 0 0 (fun a => Z.2.2.1 < a))) Rp) := by
  unfold w_X1_takeOut_19
  refine s_iload_n (k := 3) C (by decide +kernel) ?_
  refine s_aload_n (k := 0) C (by decide +kernel) ?_
  refine s_getI C w_1_123 (by decide +kernel) rfl ?_
  refine s_icmp_ge (off := 23) (tgt := 47) C (by decide +kernel) (by decide) (b_X1_takeOut_47 C) ?_
  refine s_aload_n (k := 0) C (by decide +kernel) ?_
  refine s_getR C w_1_118 (by decide +kernel) rfl ?_
  refine s_iload_n (k := 3) C (by decide +kernel) ?_
  refine s_aload_n (k := 0) C (by decide +kernel) ?_
  refine s_getR C w_1_118 (by decide +kernel) rfl ?_
  refine s_iload_n (k := 3) C (by decide +kernel) ?_
  refine s_iconst (n := 1) C (by decide +kernel) (by decide) ?_
  refine s_iadd C (by decide +kernel) ?_
  refine s_aald C rfl (by decide +kernel) ?_
  refine s_aast C rfl (by decide +kernel) ?_
  refine s_iinc (n := 1) C (by decide +kernel) (by decide) ?_
  exact s_goto (off := (-25)) (tgt := 19) C (by decide +kernel) (by decide) (fun _ _ _ _ _ _ h => h)
set_option maxRecDepth 20000 in
theorem b_X1_takeOut_0 {Z : Zt} {d : Nat} {p : Program} {e : Env} {R : Room} {s : State} {m : MethodId} {args : Array Value} {below : List Frame} {meth : Method} {c : Code} {Rp : RT} (C : Cx Z d jX1_takeOut RX1 p R s m args meth c) : Sd Z jX1_takeOut p e R s m args below meth c (MQ below (QcS Z Rp) args s 0 0 (fun a => Z.2.2.1 < a)) 0 (w_X1_takeOut_0 (MS Z d) (Gw Z 4 p e R s m args below meth c (MQ below (QcS Z Rp) args s 0 0 (fun a => Z.2.2.1 < a))) Rp) := by
  unfold w_X1_takeOut_0
  refine s_aload_n (k := 0) C (by decide +kernel) ?_
  refine s_getR C w_1_118 (by decide +kernel) rfl ?_
  refine s_iload_n (k := 1) C (by decide +kernel) ?_
  refine s_aald C rfl (by decide +kernel) ?_
  refine s_astore_n (k := 2) C (by decide +kernel) ?_
  refine s_aload_n (k := 0) C (by decide +kernel) ?_
  refine s_dup C (by decide +kernel) ?_
  refine s_getI C w_1_123 (by decide +kernel) rfl ?_
  refine s_iconst (n := 1) C (by decide +kernel) (by decide) ?_
  refine s_isub C (by decide +kernel) ?_
  refine s_putI C w_1_123 (by decide +kernel) rfl (Or.inl rfl) ?_
  refine s_iload_n (k := 1) C (by decide +kernel) ?_
  refine s_istore_n (k := 3) C (by decide +kernel) ?_
  exact (fun _ _ _ _ _ _ h => h)
theorem ms_X1_takeOut {Z : Zt} {d : Nat} {S : Sh} {μ : Mi} {ρ : Mr} {Rp : RT} (a0 : Nat) (x1 : Int32) (h : ∀ G : Nat → PT, (∀ (L st : List Value) (S : Sh) (q : Nat × Nat) (μ : Mi) (ρ : Mr), w_X1_takeOut_19 (MS Z d) G Rp L st S q μ ρ → G 19 L st S q μ ρ) → w_X1_takeOut_0 (MS Z d) G Rp [.ref a0, .int x1, .null, .null] [] S (0, 0) μ ρ) : MS Z (d + 1) jX1_takeOut [.ref a0, .int x1] S μ ρ Rp :=
  MS_of [.ref a0, .int x1, .null, .null] (by decide +kernel) rfl rfl (Nat.le_of_ble_eq_true rfl) rfl (fun p e R s m args below meth c C => b_X1_takeOut_0 C _ _ _ _ _ _ (h _ (b_X1_takeOut_19 C)))
def F_X1_takeOut : FT2 := fun As S μ ρ k => match As with
  | [.ref a, .int n] => S.2 a = (1, 6) ∧ ∃ (w i v : Nat) (A : Rw), a = w + 2 ∧ RR A w S μ ρ ∧ n = nI i ∧ (A 4510).toNatClampNeg = v + 1 ∧ i ≤ v ∧ ∀ (μ' : Mi) (ρ' : Mr), RR (qOut A i) w S μ' ρ' → ρ' (w + 3) 60 = ρ (w + 3) i → MsR (rowM A i) (A 4514) (ρ (w + 3) i) μ' → (∀ y : Nat, y ≠ w + 2 → μ' y = μ y) → (∀ y : Nat, y ≠ w + 3 → ρ' y = ρ y) → k (some (.ref (ρ (w + 3) i))) μ' ρ'
  | _ => False
theorem r_X1_takeOut {As S μ ρ k} (h : F_X1_takeOut As S μ ρ k) : ∃ a As', As = Value.ref a :: As' ∧ S.2 a = (1, 6) := by
  unfold F_X1_takeOut at h
  split at h
  · exact ⟨_, _, rfl, h.1⟩
  · exact h.elim
set_option maxHeartbeats 1000000 in
theorem f_X1_takeOut {Z : Zt} {d : Nat} {As : List Value} {S : Sh} {μ : Mi} {ρ : Mr} {Rp : RT} (h : F_X1_takeOut As S μ ρ (fun r μ' ρ' => Rp r S μ' ρ')) : MS Z (d + 1) jX1_takeOut As S μ ρ Rp := by
  unfold F_X1_takeOut at h
  split at h
  · rename_i a n
    obtain ⟨a, hNa⟩ : ∃ n : Nat, n = a := ⟨a, rfl⟩
    subst hNa
    obtain ⟨h1, w, i, v, A, rfl, hR, rfl, hv, hi, h⟩ := h
    refine ms_X1_takeOut _ _ (fun G g19 => ?_)
    have hW := RR_W hR
    have hM := hR.1.2.2.1
    obtain ⟨wn, w1, w2, -, w3⟩ := rg_ex hM.2.1.1
    rw [w1, nI_clamp w2] at hv
    subst hv
    have hr := hW.2.2.2.2.1
    have e2 : μ (w + 2) 2 = nI (v + 1) := hM.1.1.trans w1
    have em : nI (v + 1) - 1 = nI v := by rw [show (1 : Int32) = nI 1 from rfl, pk_sub (by omega)]; rfl
    obtain ⟨ji, j1, j2, j3, j4, j5⟩ := WOK_box hW (i := i) (by omega)
    have hbx : ∀ k, k ≤ 60 → S.2 (ρ (w + 3) k) = (2, 10) ∧ ρ (w + 3) k ≠ 0 := fun k hk => by
      obtain ⟨j, a1, a2, a3, -⟩ := WOK_box hW (i := k) hk
      exact ⟨a3, by omega⟩
    have fin : Rp (some (.ref (ρ (w + 3) i))) S (upI μ (w + 2) 2 (nI v)) (upF ρ (w + 3) (bxO (ρ (w + 3)) i v)) := by
      have k1 : ∀ y : Nat, y ≠ w + 2 → upI μ (w + 2) 2 (nI v) y = μ y := fun y hy => upI_ne hy
      have k2 : ∀ y : Nat, y ≠ w + 3 → upF ρ (w + 3) (bxO (ρ (w + 3)) i v) y = ρ y := fun y hy => upF_ne hy
      have hW' : WOK w S (upF ρ (w + 3) (bxO (ρ (w + 3)) i v)) := WOK_ref hW hi (by omega) k2 upF_same
      have ev : (A 4510).toNatClampNeg = v + 1 := by rw [w1, nI_clamp w2]
      have o := fun k a b => qOut_hi (A := A) (i := i) (w := v + 1) (k := k) w1 (by omega) a b
      refine h _ _ ⟨R0_mail hR.1 hW' (fun k a b => ?_) (fun y hy => k1 y (by omega)) ⟨?_, ?_, fun k hk => ?_⟩, ?_⟩ ?_ ?_ k1 k2
      · rcases a with a | a
        · exact qOut_lo a
        · exact o k a (by omega)
      · rw [qOut_w, o _ (by omega) (by omega), o _ (by omega) (by omega), o _ (by omega) (by omega), w1, em, upI_at, upI_k (by omega), upI_k (by omega), upI_k (by omega)]
        exact ⟨rfl, hM.1.2⟩
      · rw [qOut_w, o _ (by omega) (by omega), w1, em]
        exact ⟨(rg_nI (by omega)).mpr ⟨by omega, by omega⟩, hM.2.1.2⟩
      · rw [qOut_w, w1, em, nI_clamp (by omega)] at hk
        rw [upF_same, bxO_sg]
        have hs1 : sg i v k < v + 1 := by
          unfold sg
          rw [if_neg (by omega), if_neg (by omega)]
          split <;> omega
        obtain ⟨jj, b1, b2, -⟩ := WOK_box hW (i := sg i v k) (by omega)
        refine MsR_congr (hM.2.2 (sg i v k) (by rw [ev]; exact hs1)) (qOut_row ev (by omega) hi hk) (o _ (by omega) (by omega)) ?_ ?_
        · exact k1 _ (by omega)
        · exact k1 _ (by omega)
      · exact Nx_mail hR.2 (fun k hk => qOut_lo hk) (fun y hy => k1 y (by omega))
      · rw [upF_same]; unfold bxO; rw [if_pos rfl]
      · exact MsR_congr (hM.2.2 i (by rw [ev]; omega)) (fun _ _ => rfl) rfl (k1 _ (by omega)) (k1 _ (by omega))
    have loop : ∀ (n j : Nat), n + j = v → i ≤ j → G 19 [.ref (w + 2), .int (nI i), .ref (ρ (w + 3) i), .int (nI j)] [] S (0, 0) (upI μ (w + 2) 2 (nI v)) (upF ρ (w + 3) (bxF (ρ (w + 3)) i j)) := by
      intro n
      induction n with
      | zero =>
        intro j hj hij
        obtain rfl : j = v := by omega
        have h60 : bxF (ρ (w + 3)) i j 60 = ρ (w + 3) 60 := by unfold bxF; rw [if_neg (by omega)]
        apply g19
        simp only [w_X1_takeOut_19, w_X1_takeOut_47, tAload, tIload, nth, tGetI, tGetR, tConst, tLconst, tBin, tUn, tI2l, tAld, tAldR, tAlen, tIast, tBast, tZast, tAast, tIret, tZret, tVret, tAret, tIf, tIf2, tGoto, tIstore, tAstore, sset, tIinc, tDup, tDup2, tPop, tPutI, tPutZ, tPutR, tCallV, tCallS, popN, tFn, tCopy, tMax, tMin, tSw, swc, tRem, tObjI, Option.toList, List.nil_append, List.cons_append, okR, true_and, and_true, true_or, or_true, Nat.zero_le, ne_eq, not_false_eq_true, Nat.reduceEqDiff, upI_at, h1, hW.2.1, j3]
        simp (disch := omega) only [upF_ne, upF_same, upR_ne, hr, h60, upR_F, upF_upF, nI_clamp]
        rw [show Int32.toNatClampNeg 60 = 60 from rfl, h60, hW.2.1.2.2.2.1]
        refine ⟨fun _ => ⟨by omega, by omega, rfl, inb_nI (k := 60) (by decide) (by decide), (hbx 60 (by omega)).2, rfl, inb_nI (by omega) (by decide), by rw [(hbx 60 (by omega)).1], by omega, rfl, inb_nI (k := 60) (by decide) (by decide), ?_⟩, fun z => absurd (Int32.le_refl _) z⟩
        have e := bxO_eq (f := ρ (w + 3)) (i := i) (v := j) hi (by omega)
        simp only [h60] at e
        rw [e]
        exact fin
      | succ n ih =>
        intro j hj hij
        have hn : bxF (ρ (w + 3)) i j (j + 1) = ρ (w + 3) (j + 1) := by unfold bxF; rw [if_neg (by omega)]
        apply g19
        simp only [w_X1_takeOut_19, tAload, tIload, nth, tGetI, tGetR, tConst, tLconst, tBin, tUn, tI2l, tAld, tAldR, tAlen, tIast, tBast, tZast, tAast, tIret, tZret, tVret, tAret, tIf, tIf2, tGoto, tIstore, tAstore, sset, tIinc, tDup, tDup2, tPop, tPutI, tPutZ, tPutR, tCallV, tCallS, popN, tFn, tCopy, tMax, tMin, tSw, swc, tRem, tObjI, Option.toList, List.nil_append, List.cons_append, okR, true_and, and_true, true_or, or_true, Nat.zero_le, ne_eq, not_false_eq_true, Nat.reduceEqDiff, upI_at, h1, hW.2.1, nI_s1]
        simp (disch := omega) only [upF_ne, upF_same, upR_ne, hr, hn, upR_F, upF_upF, nI_clamp]
        rw [hW.2.1.2.2.2.1]
        refine ⟨fun z => absurd z (by rw [nI_leI (by omega) (by omega)]; omega), fun _ => ⟨by omega, by omega, rfl, inb_nI (by omega) (by decide), (hbx (j + 1) (by omega)).2, rfl, inb_nI (by omega) (by decide), by rw [(hbx (j + 1) (by omega)).1], ?_⟩⟩
        have e := bxF_s (f := ρ (w + 3)) (i := i) (j := j) hij
        rw [hn] at e
        rw [e]
        exact ih (j + 1) (by omega) (by omega)
    have := loop (v - i) i (by omega) (Nat.le_refl _)
    rw [bxF_0, upF_id] at this
    simp only [w_X1_takeOut_0, tAload, tIload, nth, tGetI, tGetR, tConst, tLconst, tBin, tUn, tI2l, tAld, tAldR, tAlen, tIast, tBast, tZast, tAast, tIret, tZret, tVret, tAret, tIf, tIf2, tGoto, tIstore, tAstore, sset, tIinc, tDup, tDup2, tPop, tPutI, tPutZ, tPutR, tCallV, tCallS, popN, tFn, tCopy, tMax, tMin, tSw, swc, tRem, tObjI, Option.toList, List.nil_append, List.cons_append, okR, true_and, and_true, true_or, or_true, Nat.zero_le, ne_eq, not_false_eq_true, Nat.reduceEqDiff, h1, hr, hW.2.1, e2, em, nI_clamp (show i < 2 ^ 31 by omega)]
    exact ⟨inb_nI (by omega) (by decide), (hbx i (by omega)).2, this⟩
  · exact h.elim
