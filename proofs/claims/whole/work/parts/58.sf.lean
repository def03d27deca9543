/-! ===== the reference reads its tape ===== -/
def seeT (T : Rw) (n p : Nat) : Int32 := if p < n then T p &&& 255 else -1
/-- size and spot are in range -/
def spOK (F : Rw) : Prop := rg (F 15) 0 300 ∧ rg (F 16) 0 1000
def w_X12_see_28 (M : CT) (G : Nat → PT) (Rp : RT) : PT := tIret Rp
def w_X12_see_27 (M : CT) (G : Nat → PT) (Rp : RT) : PT := tConst (-1) <| w_X12_see_28 M G Rp
def w_X12_see_0 (M : CT) (G : Nat → PT) (Rp : RT) : PT := tAload 0 <| tGetI 12 27 16 <| tAload 0 <| tGetI 12 27 15 <| tIf2 (fun x y => y ≤ x) (w_X12_see_27 M G Rp) <| tAload 0 <| tGetR 12 27 13 <| tAload 0 <| tGetI 12 27 16 <| tAld 21 <| tConst 255 <| tBin (fun x y => x &&& y) <| tGoto (w_X12_see_28 M G Rp)
set_option maxRecDepth 20000 in
theorem b_X12_see_28 {Z : Zt} {d : Nat} {p : Program} {e : Env} {R : Room} {s : State} {m : MethodId} {args : Array Value} {below : List Frame} {meth : Method} {c : Code} {Rp : RT} (C : Cx Z d jX12_see RX12 p R s m args meth c) : Sd Z jX12_see p e R s m args below meth c (MQ below (QcS Z Rp) args s 0 0 (fun a => Z.2.2.1 < a)) 28 (w_X12_see_28 (MS Z d) (Gw Z 1 p e R s m args below meth c (MQ below (QcS Z Rp) args s 0 0 (fun a => Z.2.2.1 < a))) Rp) := by
  unfold w_X12_see_28
  exact s_iret C rfl (by decide +kernel)
set_option maxRecDepth 20000 in
theorem b_X12_see_27 {Z : Zt} {d : Nat} {p : Program} {e : Env} {R : Room} {s : State} {m : MethodId} {args : Array Value} {below : List Frame} {meth : Method} {c : Code} {Rp : RT} (C : Cx Z d jX12_see RX12 p R s m args meth c) : Sd Z jX12_see p e R s m args below meth c (MQ below (QcS Z Rp) args s 0 0 (fun a => Z.2.2.1 < a)) 27 (w_X12_see_27 (MS Z d) (Gw Z 1 p e R s m args below meth c (MQ below (QcS Z Rp) args s 0 0 (fun a => Z.2.2.1 < a))) Rp) := by
  unfold w_X12_see_27
  refine s_iconst (n := (-1)) C (by decide +kernel) (by decide) ?_
  exact (b_X12_see_28 C)
set_option maxRecDepth 20000 in
theorem b_X12_see_0 {Z : Zt} {d : Nat} {p : Program} {e : Env} {R : Room} {s : State} {m : MethodId} {args : Array Value} {below : List Frame} {meth : Method} {c : Code} {Rp : RT} (C : Cx Z d jX12_see RX12 p R s m args meth c) : Sd Z jX12_see p e R s m args below meth c (MQ below (QcS Z Rp) args s 0 0 (fun a => Z.2.2.1 < a)) 0 (w_X12_see_0 (MS Z d) (Gw Z 1 p e R s m args below meth c (MQ below (QcS Z Rp) args s 0 0 (fun a => Z.2.2.1 < a))) Rp) := by
  unfold w_X12_see_0
  refine s_aload_n (k := 0) C (by decide +kernel) ?_
  refine s_getI C w_6_103 (by decide +kernel) rfl ?_
  refine s_aload_n (k := 0) C (by decide +kernel) ?_
  refine s_getI C w_6_102 (by decide +kernel) rfl ?_
  refine s_icmp_ge (off := 19) (tgt := 27) C (by decide +kernel) (by decide) (b_X12_see_27 C) ?_
  refine s_aload_n (k := 0) C (by decide +kernel) ?_
  refine s_getR C w_6_100 (by decide +kernel) rfl ?_
  refine s_aload_n (k := 0) C (by decide +kernel) ?_
  refine s_getI C w_6_103 (by decide +kernel) rfl ?_
  refine s_bald C (by decide +kernel) ?_
  refine s_sipush (n := 255) C (by decide +kernel) (by decide) ?_
  refine s_iand C (by decide +kernel) ?_
  exact s_goto (off := 4) (tgt := 28) C (by decide +kernel) (by decide) (b_X12_see_28 C)
theorem ms_X12_see {Z : Zt} {d : Nat} {S : Sh} {μ : Mi} {ρ : Mr} {Rp : RT} (a0 : Nat) (h : ∀ G : Nat → PT, w_X12_see_0 (MS Z d) G Rp [.ref a0] [] S (0, 0) μ ρ) : MS Z (d + 1) jX12_see [.ref a0] S μ ρ Rp :=
  MS_of [.ref a0] (by decide +kernel) rfl rfl (Nat.le_of_ble_eq_true rfl) rfl (fun p e R s m args below meth c C => b_X12_see_0 C _ _ _ _ _ _ (h _ ))
def F_X12_see : FT := fun As S μ ρ k => match As with
  | [.ref a] => a = 2737 ∧ RS S ρ ∧ spOK (μ 2737) ∧ k (some (.int (seeT (μ 2745) (μ 2737 15).toNatClampNeg (μ 2737 16).toNatClampNeg))) μ
  | _ => False
theorem r_X12_see {As S μ ρ k} (h : F_X12_see As S μ ρ k) : ∃ a As', As = Value.ref a :: As' ∧ S.2 a = (12, 27) := by
  unfold F_X12_see at h
  split at h
  · exact ⟨_, _, rfl, by rw [h.1]; exact h.2.1.1⟩
  · exact h.elim
set_option maxHeartbeats 1000000 in
theorem f_X12_see {Z : Zt} {d : Nat} {As : List Value} {S : Sh} {μ : Mi} {ρ : Mr} {Rp : RT} (h : F_X12_see As S μ ρ (fun r μ' => Rp r S μ' ρ)) : MS Z (d + 1) jX12_see As S μ ρ Rp := by
  unfold F_X12_see at h
  split at h
  · rename_i a
    obtain ⟨rfl, hS, h⟩ := h
    have hS0 := hS
    unfold RS at hS
    obtain ⟨⟨h1, h2⟩, h⟩ := h
    obtain ⟨n, en, en0, -, en1⟩ := rg_ex h1
    obtain ⟨p, ep, ep0, -, ep1⟩ := rg_ex h2
    rw [en, ep, nI_clamp en0, nI_clamp ep0] at h
    unfold seeT at h
    refine ms_X12_see _ (fun G => ?_)
    simp only [w_X12_see_0, w_X12_see_27, w_X12_see_28, tAload, tIload, nth, tGetI, tGetR, tConst, tLconst, tBin, tUn, tI2l, tAld, tAldR, tAlen, tIast, tBast, tZast, tAast, tIret, tZret, tVret, tAret, tIf, tIf2, tGoto, tIstore, tAstore, sset, tIinc, tDup, tDup2, tPop, tPutI, tPutZ, tPutR, tCallV, tCallS, popN, tFn, tCopy, tMax, tMin, tSw, swc, tRem, tObjI, Option.toList, List.nil_append, List.cons_append, okR, true_and, and_true, true_or, or_true, Nat.zero_le, ne_eq, not_false_eq_true, Nat.reduceEqDiff, hS, en, ep]
    simp (disch := omega) only [nI_clamp, nI_inb, nI_leI]
    refine ⟨fun c => ?_, fun c => ⟨by omega, ?_⟩⟩
    · rw [if_neg (by omega)] at h; exact h
    · rw [if_pos (by omega)] at h; exact h
  · exact h.elim
def blF (T : Rw) (n : Nat) : Nat → Nat → Nat := fun m p => match m with
  | 0 => p
  | m + 1 => if seeT T n p = 32 then blF T n m (p + 1) else p
theorem blF_s {T : Rw} {n m p : Nat} : blF T n (m + 1) p = if seeT T n p = 32 then blF T n m (p + 1) else p := rfl
/-- behind the blanks -/
def blk (T : Rw) (n p : Nat) : Nat := blF T n (n - p) p
theorem seeT_hi {T : Rw} {n p : Nat} (h : n ≤ p) : seeT T n p = -1 := by unfold seeT; rw [if_neg (by omega)]
theorem blk_s {T : Rw} {n p : Nat} (h : seeT T n p = 32) : blk T n p = blk T n (p + 1) := by
  unfold blk
  have hp : p < n := by
    by_cases c : p < n
    · exact c
    · rw [seeT_hi (by omega)] at h; exact absurd h (by decide)
  obtain ⟨m, hm⟩ : ∃ m, n - p = m + 1 := ⟨n - p - 1, by omega⟩
  rw [hm, blF_s, if_pos h, show n - (p + 1) = m by omega]
theorem blk_e {T : Rw} {n p : Nat} (h : ¬ seeT T n p = 32) : blk T n p = p := by
  unfold blk
  cases hm : n - p with
  | zero => rfl
  | succ m => rw [blF_s, if_neg h]
theorem blF_le {T : Rw} {n : Nat} : ∀ {m p : Nat}, p ≤ blF T n m p ∧ blF T n m p ≤ p + m := by
  intro m
  induction m with
  | zero => intro p; exact ⟨Nat.le_refl _, Nat.le_refl _⟩
  | succ m ih =>
    intro p
    rw [blF_s]
    split
    · have := @ih (p + 1); omega
    · omega
theorem blk_le {T : Rw} {n p : Nat} : p ≤ blk T n p ∧ (blk T n p ≤ n ∨ blk T n p = p) := by
  have := blF_le (T := T) (n := n) (m := n - p) (p := p)
  unfold blk
  refine ⟨this.1, ?_⟩
  by_cases h : p ≤ n
  · left; omega
  · right
    have : n - p = 0 := by omega
    rw [this]; rfl
theorem upI_row {μ : Mi} {F : Rw} {k : Nat} {x : Int32} : upI (upF μ 2737 F) 2737 k x = upF μ 2737 (up F k x) := by rw [upI_upF, upF_same, upF_upF]
def w_X12_blanks_22 (M : CT) (G : Nat → PT) (Rp : RT) : PT := tVret Rp
def w_X12_blanks_0 (M : CT) (G : Nat → PT) (Rp : RT) : PT := tAload 0 <| tFn 1 F_X12_see <| tConst 32 <| tIf2 (fun x y => x ≠ y) (w_X12_blanks_22 M G Rp) <| tAload 0 <| tDup <| tGetI 12 27 16 <| tConst 1 <| tBin (fun x y => x + y) <| tPutI 12 27 16 <| tGoto (G 0)
set_option maxRecDepth 20000 in
theorem b_X12_blanks_22 {Z : Zt} {d : Nat} {p : Program} {e : Env} {R : Room} {s : State} {m : MethodId} {args : Array Value} {below : List Frame} {meth : Method} {c : Code} {Rp : RT} (C : Cx Z (d + 1) jX12_blanks RX12 p R s m args meth c) : Sd Z jX12_blanks p e R s m args below meth c (MQ below (QcS Z Rp) args s 0 0 (fun a => Z.2.2.1 < a)) 22 (w_X12_blanks_22 (MS Z (d + 1)) (Gw Z 1 p e R s m args below meth c (MQ below (QcS Z Rp) args s 0 0 (fun a => Z.2.2.1 < a))) Rp) := by
  unfold w_X12_blanks_22
  exact s_vret C rfl (by decide +kernel)
set_option maxRecDepth 20000 in
theorem b_X12_blanks_0 {Z : Zt} {d : Nat} {p : Program} {e : Env} {R : Room} {s : State} {m : MethodId} {args : Array Value} {below : List Frame} {meth : Method} {c : Code} {Rp : RT} (C : Cx Z (d + 1) jX12_blanks RX12 p R s m args meth c) : Sd Z jX12_blanks p e R s m args below meth c (MQ below (QcS Z Rp) args s 0 0 (fun a => Z.2.2.1 < a)) 0 (w_X12_blanks_0 (MS Z (d + 1)) (Gw Z 1 p e R s m args below meth c (MQ below (QcS Z Rp) args s 0 0 (fun a => Z.2.2.1 < a))) Rp) := by
  unfold w_X12_blanks_0
  refine s_aload_n (k := 0) C (by decide +kernel) ?_
  refine s_fnV C (j2 := jX12_see) (cl := 12) (nf := 27) rfl rfl (by decide +kernel) rfl w_8_41 w_8_43 w_p7_3 w_1_13 w_8_44 (by decide +kernel) (fun _ _ _ _ _ h => f_X12_see h) (fun _ _ _ _ _ h => r_X12_see h) ?_
  refine s_bipush (n := 32) C (by decide +kernel) (by decide) ?_
  refine s_icmp_ne (off := 16) (tgt := 22) C (by decide +kernel) (by decide) (b_X12_blanks_22 C) ?_
  refine s_aload_n (k := 0) C (by decide +kernel) ?_
  refine s_dup C (by decide +kernel) ?_
  refine s_getI C w_6_103 (by decide +kernel) rfl ?_
  refine s_iconst (n := 1) C (by decide +kernel) (by decide) ?_
  refine s_iadd C (by decide +kernel) ?_
  refine s_putI C w_6_103 (by decide +kernel) rfl (Or.inl rfl) ?_
  exact s_goto (off := (-19)) (tgt := 0) C (by decide +kernel) (by decide) (fun _ _ _ _ _ _ h => h)
theorem ms_X12_blanks {Z : Zt} {d : Nat} {S : Sh} {μ : Mi} {ρ : Mr} {Rp : RT} (a0 : Nat) (h : ∀ G : Nat → PT, (∀ (L st : List Value) (S : Sh) (q : Nat × Nat) (μ : Mi) (ρ : Mr), w_X12_blanks_0 (MS Z (d + 1)) G Rp L st S q μ ρ → G 0 L st S q μ ρ) → w_X12_blanks_0 (MS Z (d + 1)) G Rp [.ref a0] [] S (0, 0) μ ρ) : MS Z (d + 2) jX12_blanks [.ref a0] S μ ρ Rp :=
  MS_of [.ref a0] (by decide +kernel) rfl rfl (Nat.le_of_ble_eq_true rfl) rfl (fun p e R s m args below meth c C => b_X12_blanks_0 C _ _ _ _ _ _ (h _ (b_X12_blanks_0 C)))
def F_X12_blanks : FT := fun As S μ ρ k => match As with
  | [.ref a] => a = 2737 ∧ RS S ρ ∧ spOK (μ 2737) ∧ k none (upF μ 2737 (up (μ 2737) 16 (nI (blk (μ 2745) (μ 2737 15).toNatClampNeg (μ 2737 16).toNatClampNeg))))
  | _ => False
theorem r_X12_blanks {As S μ ρ k} (h : F_X12_blanks As S μ ρ k) : ∃ a As', As = Value.ref a :: As' ∧ S.2 a = (12, 27) := by
  unfold F_X12_blanks at h
  split at h
  · exact ⟨_, _, rfl, by rw [h.1]; exact h.2.1.1⟩
  · exact h.elim
set_option maxHeartbeats 1000000 in
theorem f_X12_blanks {Z : Zt} {d : Nat} {As : List Value} {S : Sh} {μ : Mi} {ρ : Mr} {Rp : RT} (h : F_X12_blanks As S μ ρ (fun r μ' => Rp r S μ' ρ)) : MS Z (d + 2) jX12_blanks As S μ ρ Rp := by
  unfold F_X12_blanks at h
  split at h
  · rename_i a
    obtain ⟨rfl, hS, h⟩ := h
    have hS0 := hS
    unfold RS at hS
    obtain ⟨⟨h1, h2⟩, h⟩ := h
    obtain ⟨n, en, en0, -, en1⟩ := rg_ex h1
    obtain ⟨p, ep, ep0, -, ep1⟩ := rg_ex h2
    rw [en, ep, nI_clamp en0, nI_clamp ep0] at h
    refine ms_X12_blanks _ (fun G g0 => ?_)
    have n1 : (2745 : Nat) ≠ 2737 := by decide
    have loop : ∀ (m q : Nat), n + 1001 - q ≤ m → q ≤ 1000 → (q ≤ n ∨ q = p) → blk (μ 2745) n q = blk (μ 2745) n p → w_X12_blanks_0 (MS Z (d + 1)) G Rp [.ref 2737] [] S (0, 0) (upF μ 2737 (up (μ 2737) 16 (nI q))) ρ := by
      intro m
      induction m with
      | zero => intro q h1 h2 h3 h4; omega
      | succ m ih =>
        intro q q1 q2 q3 q4
        have eF : up (μ 2737) 16 (nI q) 15 = nI n := by rw [up_ne (by decide)]; exact en
        have hsp : spOK (up (μ 2737) 16 (nI q)) := ⟨by rw [eF]; rw [← en]; exact h1, by rw [up_at, rg_nI (by omega)]; omega⟩
        simp only [w_X12_blanks_0, w_X12_blanks_22, tAload, tIload, nth, tGetI, tGetR, tConst, tLconst, tBin, tUn, tI2l, tAld, tAldR, tAlen, tIast, tBast, tZast, tAast, tIret, tZret, tVret, tAret, tIf, tIf2, tGoto, tIstore, tAstore, sset, tIinc, tDup, tDup2, tPop, tPutI, tPutZ, tPutR, tCallV, tCallS, popN, tFn, tCopy, tMax, tMin, tSw, swc, tRem, tObjI, Option.toList, List.nil_append, List.cons_append, okR, true_and, and_true, true_or, or_true, Nat.zero_le, ne_eq, not_false_eq_true, Nat.reduceEqDiff, F_X12_see, hS0, hS, upF_same, upF_ne n1, up_at, eF, upI_row, nI_1]
        simp (disch := omega) only [nI_clamp]
        refine ⟨hsp, fun c => ?_, fun c => ?_⟩
        · rw [blk_e c] at q4
          rw [q4]; exact h
        · have c := Decidable.not_not.mp c
          have hq : q < n := by
            by_cases z : q < n
            · exact z
            · rw [seeT_hi (by omega)] at c; exact absurd c (by decide)
          have := ih (q + 1) (by omega) (by omega) (Or.inl (by omega)) (by rw [← blk_s c]; exact q4)
          have e2 : up (up (μ 2737) 16 (nI q)) 16 (nI (q + 1)) = up (μ 2737) 16 (nI (q + 1)) := by
            funext i; unfold up; by_cases z : i = 16 <;> simp [z]
          rw [e2]
          exact g0 _ _ _ _ _ _ this
    have := loop (n + 1001) p (by omega) (by omega) (Or.inr rfl) rfl
    have e3 : up (μ 2737) 16 (nI p) = μ 2737 := by
      funext i; unfold up; by_cases z : i = 16
      · rw [if_pos z, z]; exact ep.symm
      · rw [if_neg z]
    rw [e3, upF_id] at this
    exact this
  · exact h.elim
def qFails (F : Rw) (w p : Int32) : Rw := if ¬ F 17 = 0 then F else up (up F 17 w) 18 p
def w_X12_fails_8 (M : CT) (G : Nat → PT) (Rp : RT) : PT := tAload 0 <| tIload 1 <| tPutI 12 27 17 <| tAload 0 <| tIload 2 <| tPutI 12 27 18 <| tVret Rp
def w_X12_fails_0 (M : CT) (G : Nat → PT) (Rp : RT) : PT := tAload 0 <| tGetI 12 27 17 <| tIf (fun x => x = 0) (w_X12_fails_8 M G Rp) <| tVret Rp
set_option maxRecDepth 20000 in
theorem b_X12_fails_8 {Z : Zt} {d : Nat} {p : Program} {e : Env} {R : Room} {s : State} {m : MethodId} {args : Array Value} {below : List Frame} {meth : Method} {c : Code} {Rp : RT} (C : Cx Z d jX12_fails RX12 p R s m args meth c) : Sd Z jX12_fails p e R s m args below meth c (MQ below (QcS Z Rp) args s 0 0 (fun a => Z.2.2.1 < a)) 8 (w_X12_fails_8 (MS Z d) (Gw Z 3 p e R s m args below meth c (MQ below (QcS Z Rp) args s 0 0 (fun a => Z.2.2.1 < a))) Rp) := by
  unfold w_X12_fails_8
  refine s_aload_n (k := 0) C (by decide +kernel) ?_
  refine s_iload_n (k := 1) C (by decide +kernel) ?_
  refine s_putI C w_6_104 (by decide +kernel) rfl (Or.inl rfl) ?_
  refine s_aload_n (k := 0) C (by decide +kernel) ?_
  refine s_iload_n (k := 2) C (by decide +kernel) ?_
  refine s_putI C w_6_105 (by decide +kernel) rfl (Or.inl rfl) ?_
  exact s_vret C rfl (by decide +kernel)
set_option maxRecDepth 20000 in
theorem b_X12_fails_0 {Z : Zt} {d : Nat} {p : Program} {e : Env} {R : Room} {s : State} {m : MethodId} {args : Array Value} {below : List Frame} {meth : Method} {c : Code} {Rp : RT} (C : Cx Z d jX12_fails RX12 p R s m args meth c) : Sd Z jX12_fails p e R s m args below meth c (MQ below (QcS Z Rp) args s 0 0 (fun a => Z.2.2.1 < a)) 0 (w_X12_fails_0 (MS Z d) (Gw Z 3 p e R s m args below meth c (MQ below (QcS Z Rp) args s 0 0 (fun a => Z.2.2.1 < a))) Rp) := by
  unfold w_X12_fails_0
  refine s_aload_n (k := 0) C (by decide +kernel) ?_
  refine s_getI C w_6_104 (by decide +kernel) rfl ?_
  refine s_if_eq (off := 4) (tgt := 8) C (by decide +kernel) (by decide) (b_X12_fails_8 C) ?_
  exact s_vret C rfl (by decide +kernel)
theorem ms_X12_fails {Z : Zt} {d : Nat} {S : Sh} {μ : Mi} {ρ : Mr} {Rp : RT} (a0 : Nat) (x1 : Int32) (x2 : Int32) (h : ∀ G : Nat → PT, w_X12_fails_0 (MS Z d) G Rp [.ref a0, .int x1, .int x2] [] S (0, 0) μ ρ) : MS Z (d + 1) jX12_fails [.ref a0, .int x1, .int x2] S μ ρ Rp :=
  MS_of [.ref a0, .int x1, .int x2] (by decide +kernel) rfl rfl (Nat.le_of_ble_eq_true rfl) rfl (fun p e R s m args below meth c C => b_X12_fails_0 C _ _ _ _ _ _ (h _ ))
def F_X12_fails : FT := fun As S μ ρ k => match As with
  | [.ref a, .int w, .int p] => a = 2737 ∧ RS S ρ ∧ k none (upF μ 2737 (qFails (μ 2737) w p))
  | _ => False
theorem r_X12_fails {As S μ ρ k} (h : F_X12_fails As S μ ρ k) : ∃ a As', As = Value.ref a :: As' ∧ S.2 a = (12, 27) := by
  unfold F_X12_fails at h
  split at h
  · exact ⟨_, _, rfl, by rw [h.1]; exact h.2.1.1⟩
  · exact h.elim
set_option maxHeartbeats 1000000 in
theorem f_X12_fails {Z : Zt} {d : Nat} {As : List Value} {S : Sh} {μ : Mi} {ρ : Mr} {Rp : RT} (h : F_X12_fails As S μ ρ (fun r μ' => Rp r S μ' ρ)) : MS Z (d + 1) jX12_fails As S μ ρ Rp := by
  unfold F_X12_fails at h
  split at h
  · rename_i a w p
    obtain ⟨rfl, hS, h⟩ := h
    have hS0 := hS
    unfold RS at hS
    refine ms_X12_fails _ _ _ (fun G => ?_)
    unfold qFails at h
    simp only [w_X12_fails_0, w_X12_fails_8, tAload, tIload, nth, tGetI, tGetR, tConst, tLconst, tBin, tUn, tI2l, tAld, tAldR, tAlen, tIast, tBast, tZast, tAast, tIret, tZret, tVret, tAret, tIf, tIf2, tGoto, tIstore, tAstore, sset, tIinc, tDup, tDup2, tPop, tPutI, tPutZ, tPutR, tCallV, tCallS, popN, tFn, tCopy, tMax, tMin, tSw, swc, tRem, tObjI, Option.toList, List.nil_append, List.cons_append, okR, true_and, and_true, true_or, or_true, Nat.zero_le, ne_eq, not_false_eq_true, Nat.reduceEqDiff, hS]
    refine ⟨fun c => ?_, fun c => ?_⟩
    · rw [if_neg (not_not_intro c)] at h
      rw [upI_upF (μ := μ), upI_row]
      exact h
    · rw [if_pos c, upF_id] at h
      exact h
  · exact h.elim
theorem qFails_out {F : Rw} {w p : Int32} {i : Nat} (h : i ≠ 17 ∧ i ≠ 18) : qFails F w p i = F i := by
  unfold qFails
  split
  · rfl
  · rw [up_ne h.2, up_ne h.1]
theorem up_up {F : Rw} {i : Nat} {x y : Int32} : up (up F i x) i y = up F i y := by
  funext j; unfold up; by_cases z : j = i <;> simp [z]
/-- the spot behind the blanks, the sign's fault, the spot behind it -/
def qSign (T F : Rw) (c : Int32) : Rw :=
  let b := blk T (F 15).toNatClampNeg (F 16).toNatClampNeg
  let F1 := up F 16 (nI b)
  let F2 := if seeT T (F 15).toNatClampNeg b = c then F1 else qFails F1 1 (nI b)
  up F2 16 (nI (b + 1))
theorem spOK_blk {T F : Rw} (h : spOK F) : spOK (up F 16 (nI (blk T (F 15).toNatClampNeg (F 16).toNatClampNeg))) ∧ blk T (F 15).toNatClampNeg (F 16).toNatClampNeg ≤ 1000 := by
  obtain ⟨h1, h2⟩ := h
  obtain ⟨n, en, en0, -, en1⟩ := rg_ex h1
  obtain ⟨p, ep, ep0, -, ep1⟩ := rg_ex h2
  rw [en, ep, nI_clamp en0, nI_clamp ep0]
  have := blk_le (T := T) (n := n) (p := p)
  have hb : blk T n p ≤ 1000 := by omega
  exact ⟨⟨by rw [up_ne (by decide), en, rg_nI en0]; omega, by rw [up_at, rg_nI (by omega)]; omega⟩, hb⟩
def w_X12_sign_21 (M : CT) (G : Nat → PT) (Rp : RT) : PT := tAload 0 <| tDup <| tGetI 12 27 16 <| tConst 1 <| tBin (fun x y => x + y) <| tPutI 12 27 16 <| tVret Rp
def w_X12_sign_0 (M : CT) (G : Nat → PT) (Rp : RT) : PT := tAload 0 <| tFn 1 F_X12_blanks <| tAload 0 <| tFn 1 F_X12_see <| tIload 1 <| tIf2 (fun x y => x = y) (w_X12_sign_21 M G Rp) <| tAload 0 <| tConst 1 <| tAload 0 <| tGetI 12 27 16 <| tFn 3 F_X12_fails <| w_X12_sign_21 M G Rp
set_option maxRecDepth 20000 in
theorem b_X12_sign_21 {Z : Zt} {d : Nat} {p : Program} {e : Env} {R : Room} {s : State} {m : MethodId} {args : Array Value} {below : List Frame} {meth : Method} {c : Code} {Rp : RT} (C : Cx Z (d + 2) jX12_sign RX12 p R s m args meth c) : Sd Z jX12_sign p e R s m args below meth c (MQ below (QcS Z Rp) args s 0 0 (fun a => Z.2.2.1 < a)) 21 (w_X12_sign_21 (MS Z (d + 2)) (Gw Z 2 p e R s m args below meth c (MQ below (QcS Z Rp) args s 0 0 (fun a => Z.2.2.1 < a))) Rp) := by
  unfold w_X12_sign_21
  refine s_aload_n (k := 0) C (by decide +kernel) ?_
  refine s_dup C (by decide +kernel) ?_
  refine s_getI C w_6_103 (by decide +kernel) rfl ?_
  refine s_iconst (n := 1) C (by decide +kernel) (by decide) ?_
  refine s_iadd C (by decide +kernel) ?_
  refine s_putI C w_6_103 (by decide +kernel) rfl (Or.inl rfl) ?_
  exact s_vret C rfl (by decide +kernel)
set_option maxRecDepth 20000 in
theorem b_X12_sign_0 {Z : Zt} {d : Nat} {p : Program} {e : Env} {R : Room} {s : State} {m : MethodId} {args : Array Value} {below : List Frame} {meth : Method} {c : Code} {Rp : RT} (C : Cx Z (d + 2) jX12_sign RX12 p R s m args meth c) : Sd Z jX12_sign p e R s m args below meth c (MQ below (QcS Z Rp) args s 0 0 (fun a => Z.2.2.1 < a)) 0 (w_X12_sign_0 (MS Z (d + 2)) (Gw Z 2 p e R s m args below meth c (MQ below (QcS Z Rp) args s 0 0 (fun a => Z.2.2.1 < a))) Rp) := by
  unfold w_X12_sign_0
  refine s_aload_n (k := 0) C (by decide +kernel) ?_
  refine s_fnV C (j2 := jX12_blanks) (cl := 12) (nf := 27) rfl rfl (by decide +kernel) rfl w_8_37 w_8_39 w_p7_2 w_1_13 w_8_40 (by decide +kernel) (fun _ _ _ _ _ h => f_X12_blanks h) (fun _ _ _ _ _ h => r_X12_blanks h) ?_
  refine s_aload_n (k := 0) C (by decide +kernel) ?_
  refine s_fnV C (j2 := jX12_see) (cl := 12) (nf := 27) rfl rfl (by decide +kernel) rfl w_8_41 w_8_43 w_p7_3 w_1_13 w_8_44 (by decide +kernel) (fun _ _ _ _ _ h => f_X12_see h) (fun _ _ _ _ _ h => r_X12_see h) ?_
  refine s_iload_n (k := 1) C (by decide +kernel) ?_
  refine s_icmp_eq (off := 12) (tgt := 21) C (by decide +kernel) (by decide) (b_X12_sign_21 C) ?_
  refine s_aload_n (k := 0) C (by decide +kernel) ?_
  refine s_iconst (n := 1) C (by decide +kernel) (by decide) ?_
  refine s_aload_n (k := 0) C (by decide +kernel) ?_
  refine s_getI C w_6_103 (by decide +kernel) rfl ?_
  refine s_fnV C (j2 := jX12_fails) (cl := 12) (nf := 27) rfl rfl (by decide +kernel) rfl w_8_55 w_8_57 w_p7_6 w_1_13 w_8_58 (by decide +kernel) (fun _ _ _ _ _ h => f_X12_fails h) (fun _ _ _ _ _ h => r_X12_fails h) ?_
  exact (b_X12_sign_21 C)
theorem ms_X12_sign {Z : Zt} {d : Nat} {S : Sh} {μ : Mi} {ρ : Mr} {Rp : RT} (a0 : Nat) (x1 : Int32) (h : ∀ G : Nat → PT, w_X12_sign_0 (MS Z (d + 2)) G Rp [.ref a0, .int x1] [] S (0, 0) μ ρ) : MS Z (d + 3) jX12_sign [.ref a0, .int x1] S μ ρ Rp :=
  MS_of [.ref a0, .int x1] (by decide +kernel) rfl rfl (Nat.le_of_ble_eq_true rfl) rfl (fun p e R s m args below meth c C => b_X12_sign_0 C _ _ _ _ _ _ (h _ ))
def F_X12_sign : FT := fun As S μ ρ k => match As with
  | [.ref a, .int c] => a = 2737 ∧ RS S ρ ∧ spOK (μ 2737) ∧ k none (upF μ 2737 (qSign (μ 2745) (μ 2737) c))
  | _ => False
theorem r_X12_sign {As S μ ρ k} (h : F_X12_sign As S μ ρ k) : ∃ a As', As = Value.ref a :: As' ∧ S.2 a = (12, 27) := by
  unfold F_X12_sign at h
  split at h
  · exact ⟨_, _, rfl, by rw [h.1]; exact h.2.1.1⟩
  · exact h.elim
set_option maxHeartbeats 1000000 in
theorem f_X12_sign {Z : Zt} {d : Nat} {As : List Value} {S : Sh} {μ : Mi} {ρ : Mr} {Rp : RT} (h : F_X12_sign As S μ ρ (fun r μ' => Rp r S μ' ρ)) : MS Z (d + 3) jX12_sign As S μ ρ Rp := by
  unfold F_X12_sign at h
  split at h
  · rename_i a c
    obtain ⟨rfl, hS, h⟩ := h
    have hS0 := hS
    unfold RS at hS
    obtain ⟨hs, h⟩ := h
    have hb := spOK_blk (T := μ 2745) hs
    unfold qSign at h
    have n1 : (2745 : Nat) ≠ 2737 := by decide
    refine ms_X12_sign _ _ (fun G => ?_)
    simp only [w_X12_sign_0, w_X12_sign_21, tAload, tIload, nth, tGetI, tGetR, tConst, tLconst, tBin, tUn, tI2l, tAld, tAldR, tAlen, tIast, tBast, tZast, tAast, tIret, tZret, tVret, tAret, tIf, tIf2, tGoto, tIstore, tAstore, sset, tIinc, tDup, tDup2, tPop, tPutI, tPutZ, tPutR, tCallV, tCallS, popN, tFn, tCopy, tMax, tMin, tSw, swc, tRem, tObjI, Option.toList, List.nil_append, List.cons_append, okR, true_and, and_true, true_or, or_true, Nat.zero_le, ne_eq, not_false_eq_true, Nat.reduceEqDiff, F_X12_blanks, F_X12_see, F_X12_fails, hS0, hS, upF_same, upF_ne n1, up_at]
    generalize blk (μ 2745) (μ 2737 15).toNatClampNeg (μ 2737 16).toNatClampNeg = b at *
    have e15 : up (μ 2737) 16 (nI b) 15 = μ 2737 15 := up_ne (by decide)
    have e16 : ∀ w p, qFails (up (μ 2737) 16 (nI b)) w p 16 = nI b := fun w p => by rw [qFails_out (by decide), up_at]
    simp only [e15, e16, upF_upF, upF_same, upI_row, up_at, nI_1]
    simp (disch := omega) only [nI_clamp]
    refine ⟨hs, hb.1, fun c => ?_, fun c => ?_⟩
    · simp only [if_pos c] at h
      exact h
    · simp only [if_neg c] at h
      exact h
  · exact h.elim
def dgF (T : Rw) (n : Nat) : Nat → Nat → Int32 → Nat × Int32 := fun m p v => match m with
  | 0 => (p, v)
  | m + 1 => if rgd (seeT T n p) 48 57 then dgF T n m (p + 1) (if 999 < v then v else 10 * v + seeT T n p - 48) else (p, v)
theorem dgF_s {T : Rw} {n m p : Nat} {v : Int32} : dgF T n (m + 1) p v = if rgd (seeT T n p) 48 57 then dgF T n m (p + 1) (if 999 < v then v else 10 * v + seeT T n p - 48) else (p, v) := rfl
def dg (T : Rw) (n p : Nat) (v : Int32) : Nat × Int32 := dgF T n (n - p) p v
theorem see_lt {T : Rw} {n p : Nat} {lo hi : Int} (h : rgd (seeT T n p) lo hi) (hlo : 0 ≤ lo) : p < n := by
  by_cases c : p < n
  · exact c
  · rw [seeT_hi (by omega)] at h
    have h1 := h.1
    rw [show (-1 : Int32).toInt = -1 by decide] at h1
    omega
theorem dg_s {T : Rw} {n p : Nat} {v : Int32} (h : rgd (seeT T n p) 48 57) : dg T n p v = dg T n (p + 1) (if 999 < v then v else 10 * v + seeT T n p - 48) := by
  unfold dg
  have hp := see_lt h (by decide)
  obtain ⟨m, hm⟩ : ∃ m, n - p = m + 1 := ⟨n - p - 1, by omega⟩
  rw [hm, dgF_s, if_pos h, show n - (p + 1) = m by omega]
theorem dg_e {T : Rw} {n p : Nat} {v : Int32} (h : ¬ rgd (seeT T n p) 48 57) : dg T n p v = (p, v) := by
  unfold dg
  cases hm : n - p with
  | zero => rfl
  | succ m => rw [dgF_s, if_neg h]
theorem il_48 : Int64.toInt 48 = 48 := by decide
theorem il_57 : Int64.toInt 57 = 57 := by decide
theorem il_97 : Int64.toInt 97 = 97 := by decide
theorem il_122 : Int64.toInt 122 = 122 := by decide
theorem dgF_le {T : Rw} {n : Nat} : ∀ {m p : Nat} {v : Int32}, p ≤ (dgF T n m p v).1 ∧ (dgF T n m p v).1 ≤ p + m := by
  intro m
  induction m with
  | zero => intro p v; exact ⟨Nat.le_refl _, Nat.le_refl _⟩
  | succ m ih =>
    intro p v
    rw [dgF_s]
    split
    · have := @ih (p + 1) (if 999 < v then v else 10 * v + seeT T n p - 48); omega
    · exact ⟨Nat.le_refl _, by show p ≤ _; omega⟩
theorem dg_le {T : Rw} {n p : Nat} {v : Int32} : p ≤ (dg T n p v).1 ∧ ((dg T n p v).1 ≤ n ∨ (dg T n p v).1 = p) := by
  have := dgF_le (T := T) (n := n) (m := n - p) (p := p) (v := v)
  unfold dg
  refine ⟨this.1, ?_⟩
  by_cases h : p ≤ n
  · left; omega
  · right
    have : n - p = 0 := by omega
    rw [this]; rfl
/-- behind a number -/
def qNum1 (F : Rw) (p1 p2 : Nat) : Rw :=
  let F2 := up F 16 (nI p2)
  let F3 := if p2 = p1 then qFails F2 1 (nI p1) else F2
  let F4 := if p1 + 3 < p2 then qFails F3 2 (nI p1) else F3
  up F4 25 (nI p1)
abbrev nLess (T F : Rw) (b : Int32) : Prop := ¬ b = 0 ∧ seeT T (F 15).toNatClampNeg (blk T (F 15).toNatClampNeg (F 16).toNatClampNeg) = 45
def nBeg (T F : Rw) (b : Int32) : Nat := if nLess T F b then blk T (F 15).toNatClampNeg (F 16).toNatClampNeg + 1 else blk T (F 15).toNatClampNeg (F 16).toNatClampNeg
def qNum (T F : Rw) (b : Int32) : Int32 × Rw :=
  let r := dg T (F 15).toNatClampNeg (nBeg T F b) 0
  (if nLess T F b then -r.2 else r.2, qNum1 F (nBeg T F b) r.1)
def w_X12_number_150 (M : CT) (G : Nat → PT) (Rp : RT) : PT := tIret Rp
def w_X12_number_148 (M : CT) (G : Nat → PT) (Rp : RT) : PT := tIload 4 <| w_X12_number_150 M G Rp
def w_X12_number_133 (M : CT) (G : Nat → PT) (Rp : RT) : PT := tAload 0 <| tIload 3 <| tPutI 12 27 25 <| tIload 2 <| tIf (fun x => x = 0) (w_X12_number_148 M G Rp) <| tIload 4 <| tUn (fun x => -x) <| tGoto (w_X12_number_150 M G Rp)
def w_X12_number_117 (M : CT) (G : Nat → PT) (Rp : RT) : PT := tAload 0 <| tGetI 12 27 16 <| tIload 3 <| tConst 3 <| tBin (fun x y => x + y) <| tIf2 (fun x y => x ≤ y) (w_X12_number_133 M G Rp) <| tAload 0 <| tConst 2 <| tIload 3 <| tFn 3 F_X12_fails <| w_X12_number_133 M G Rp
def w_X12_number_103 (M : CT) (G : Nat → PT) (Rp : RT) : PT := tAload 0 <| tGetI 12 27 16 <| tIload 3 <| tIf2 (fun x y => x ≠ y) (w_X12_number_117 M G Rp) <| tAload 0 <| tConst 1 <| tIload 3 <| tFn 3 F_X12_fails <| w_X12_number_117 M G Rp
def w_X12_number_88 (M : CT) (G : Nat → PT) (Rp : RT) : PT := tIstore 4 <| tAload 0 <| tDup <| tGetI 12 27 16 <| tConst 1 <| tBin (fun x y => x + y) <| tPutI 12 27 16 <| tGoto (G 45)
def w_X12_number_75 (M : CT) (G : Nat → PT) (Rp : RT) : PT := tConst 10 <| tIload 4 <| tBin (fun x y => x * y) <| tAload 0 <| tFn 1 F_X12_see <| tBin (fun x y => x + y) <| tConst 48 <| tBin (fun x y => x - y) <| w_X12_number_88 M G Rp
def w_X12_number_45 (M : CT) (G : Nat → PT) (Rp : RT) : PT := tAload 0 <| tFn 1 F_X12_see <| tI2l <| tLconst 48 <| tLconst 57 <| tFn 3 F_X12_within <| tIf (fun x => x = 0) (w_X12_number_103 M G Rp) <| tIload 4 <| tConst 999 <| tIf2 (fun x y => x ≤ y) (w_X12_number_75 M G Rp) <| tIload 4 <| tGoto (w_X12_number_88 M G Rp)
def w_X12_number_37 (M : CT) (G : Nat → PT) (Rp : RT) : PT := tAload 0 <| tGetI 12 27 16 <| tIstore 3 <| tConst 0 <| tIstore 4 <| G 45
def w_X12_number_22 (M : CT) (G : Nat → PT) (Rp : RT) : PT := tIstore 2 <| tIload 2 <| tIf (fun x => x = 0) (w_X12_number_37 M G Rp) <| tAload 0 <| tDup <| tGetI 12 27 16 <| tConst 1 <| tBin (fun x y => x + y) <| tPutI 12 27 16 <| w_X12_number_37 M G Rp
def w_X12_number_21 (M : CT) (G : Nat → PT) (Rp : RT) : PT := tConst 0 <| w_X12_number_22 M G Rp
def w_X12_number_0 (M : CT) (G : Nat → PT) (Rp : RT) : PT := tAload 0 <| tFn 1 F_X12_blanks <| tIload 1 <| tIf (fun x => x = 0) (w_X12_number_21 M G Rp) <| tAload 0 <| tFn 1 F_X12_see <| tConst 45 <| tIf2 (fun x y => x ≠ y) (w_X12_number_21 M G Rp) <| tConst 1 <| tGoto (w_X12_number_22 M G Rp)
set_option maxRecDepth 20000 in
theorem b_X12_number_150 {Z : Zt} {d : Nat} {p : Program} {e : Env} {R : Room} {s : State} {m : MethodId} {args : Array Value} {below : List Frame} {meth : Method} {c : Code} {Rp : RT} (C : Cx Z (d + 2) jX12_number RX12 p R s m args meth c) : Sd Z jX12_number p e R s m args below meth c (MQ below (QcS Z Rp) args s 0 0 (fun a => Z.2.2.1 < a)) 150 (w_X12_number_150 (MS Z (d + 2)) (Gw Z 5 p e R s m args below meth c (MQ below (QcS Z Rp) args s 0 0 (fun a => Z.2.2.1 < a))) Rp) := by
  unfold w_X12_number_150
  exact s_iret C rfl (by decide +kernel)
set_option maxRecDepth 20000 in
theorem b_X12_number_148 {Z : Zt} {d : Nat} {p : Program} {e : Env} {R : Room} {s : State} {m : MethodId} {args : Array Value} {below : List Frame} {meth : Method} {c : Code} {Rp : RT} (C : Cx Z (d + 2) jX12_number RX12 p R s m args meth c) : Sd Z jX12_number p e R s m args below meth c (MQ below (QcS Z Rp) args s 0 0 (fun a => Z.2.2.1 < a)) 148 (w_X12_number_148 (MS Z (d + 2)) (Gw Z 5 p e R s m args below meth c (MQ below (QcS Z Rp) args s 0 0 (fun a => Z.2.2.1 < a))) Rp) := by
  unfold w_X12_number_148
  refine s_iload (k := 4) C (by decide +kernel) ?_
  exact (b_X12_number_150 C)
set_option maxRecDepth 20000 in
theorem b_X12_number_133 {Z : Zt} {d : Nat} {p : Program} {e : Env} {R : Room} {s : State} {m : MethodId} {args : Array Value} {below : List Frame} {meth : Method} {c : Code} {Rp : RT} (C : Cx Z (d + 2) jX12_number RX12 p R s m args meth c) : Sd Z jX12_number p e R s m args below meth c (MQ below (QcS Z Rp) args s 0 0 (fun a => Z.2.2.1 < a)) 133 (w_X12_number_133 (MS Z (d + 2)) (Gw Z 5 p e R s m args below meth c (MQ below (QcS Z Rp) args s 0 0 (fun a => Z.2.2.1 < a))) Rp) := by
  unfold w_X12_number_133
  refine s_aload_n (k := 0) C (by decide +kernel) ?_
  refine s_iload_n (k := 3) C (by decide +kernel) ?_
  refine s_putI C w_6_112 (by decide +kernel) rfl (Or.inl rfl) ?_
  refine s_iload_n (k := 2) C (by decide +kernel) ?_
  refine s_if_eq (off := 9) (tgt := 148) C (by decide +kernel) (by decide) (b_X12_number_148 C) ?_
  refine s_iload (k := 4) C (by decide +kernel) ?_
  refine s_ineg C (by decide +kernel) ?_
  exact s_goto (off := 5) (tgt := 150) C (by decide +kernel) (by decide) (b_X12_number_150 C)
set_option maxRecDepth 20000 in
theorem b_X12_number_117 {Z : Zt} {d : Nat} {p : Program} {e : Env} {R : Room} {s : State} {m : MethodId} {args : Array Value} {below : List Frame} {meth : Method} {c : Code} {Rp : RT} (C : Cx Z (d + 2) jX12_number RX12 p R s m args meth c) : Sd Z jX12_number p e R s m args below meth c (MQ below (QcS Z Rp) args s 0 0 (fun a => Z.2.2.1 < a)) 117 (w_X12_number_117 (MS Z (d + 2)) (Gw Z 5 p e R s m args below meth c (MQ below (QcS Z Rp) args s 0 0 (fun a => Z.2.2.1 < a))) Rp) := by
  unfold w_X12_number_117
  refine s_aload_n (k := 0) C (by decide +kernel) ?_
  refine s_getI C w_6_103 (by decide +kernel) rfl ?_
  refine s_iload_n (k := 3) C (by decide +kernel) ?_
  refine s_iconst (n := 3) C (by decide +kernel) (by decide) ?_
  refine s_iadd C (by decide +kernel) ?_
  refine s_icmp_le (off := 9) (tgt := 133) C (by decide +kernel) (by decide) (b_X12_number_133 C) ?_
  refine s_aload_n (k := 0) C (by decide +kernel) ?_
  refine s_iconst (n := 2) C (by decide +kernel) (by decide) ?_
  refine s_iload_n (k := 3) C (by decide +kernel) ?_
  refine s_fnV C (j2 := jX12_fails) (cl := 12) (nf := 27) rfl rfl (by decide +kernel) rfl w_8_55 w_8_57 w_p7_6 w_1_13 w_8_58 (by decide +kernel) (fun _ _ _ _ _ h => f_X12_fails h) (fun _ _ _ _ _ h => r_X12_fails h) ?_
  exact (b_X12_number_133 C)
set_option maxRecDepth 20000 in
theorem b_X12_number_103 {Z : Zt} {d : Nat} {p : Program} {e : Env} {R : Room} {s : State} {m : MethodId} {args : Array Value} {below : List Frame} {meth : Method} {c : Code} {Rp : RT} (C : Cx Z (d + 2) jX12_number RX12 p R s m args meth c) : Sd Z jX12_number p e R s m args below meth c (MQ below (QcS Z Rp) args s 0 0 (fun a => Z.2.2.1 < a)) 103 (w_X12_number_103 (MS Z (d + 2)) (Gw Z 5 p e R s m args below meth c (MQ below (QcS Z Rp) args s 0 0 (fun a => Z.2.2.1 < a))) Rp) := by
  unfold w_X12_number_103
  refine s_aload_n (k := 0) C (by decide +kernel) ?_
  refine s_getI C w_6_103 (by decide +kernel) rfl ?_
  refine s_iload_n (k := 3) C (by decide +kernel) ?_
  refine s_icmp_ne (off := 9) (tgt := 117) C (by decide +kernel) (by decide) (b_X12_number_117 C) ?_
  refine s_aload_n (k := 0) C (by decide +kernel) ?_
  refine s_iconst (n := 1) C (by decide +kernel) (by decide) ?_
  refine s_iload_n (k := 3) C (by decide +kernel) ?_
  refine s_fnV C (j2 := jX12_fails) (cl := 12) (nf := 27) rfl rfl (by decide +kernel) rfl w_8_55 w_8_57 w_p7_6 w_1_13 w_8_58 (by decide +kernel) (fun _ _ _ _ _ h => f_X12_fails h) (fun _ _ _ _ _ h => r_X12_fails h) ?_
  exact (b_X12_number_117 C)
set_option maxRecDepth 20000 in
theorem b_X12_number_88 {Z : Zt} {d : Nat} {p : Program} {e : Env} {R : Room} {s : State} {m : MethodId} {args : Array Value} {below : List Frame} {meth : Method} {c : Code} {Rp : RT} (C : Cx Z (d + 2) jX12_number RX12 p R s m args meth c) : Sd Z jX12_number p e R s m args below meth c (MQ below (QcS Z Rp) args s 0 0 (fun a => Z.2.2.1 < a)) 88 (w_X12_number_88 (MS Z (d + 2)) (Gw Z 5 p e R s m args below meth c (MQ below (QcS Z Rp) args s 0 0 (fun a => Z.2.2.1 < a))) Rp) := by
  unfold w_X12_number_88
  refine s_istore (k := 4) C (by decide +kernel) ?_
  refine s_aload_n (k := 0) C (by decide +kernel) ?_
  refine s_dup C (by decide +kernel) ?_
  refine s_getI C w_6_103 (by decide +kernel) rfl ?_
  refine s_iconst (n := 1) C (by decide +kernel) (by decide) ?_
  refine s_iadd C (by decide +kernel) ?_
  refine s_putI C w_6_103 (by decide +kernel) rfl (Or.inl rfl) ?_
  exact s_goto (off := (-55)) (tgt := 45) C (by decide +kernel) (by decide) (fun _ _ _ _ _ _ h => h)
set_option maxRecDepth 20000 in
theorem b_X12_number_75 {Z : Zt} {d : Nat} {p : Program} {e : Env} {R : Room} {s : State} {m : MethodId} {args : Array Value} {below : List Frame} {meth : Method} {c : Code} {Rp : RT} (C : Cx Z (d + 2) jX12_number RX12 p R s m args meth c) : Sd Z jX12_number p e R s m args below meth c (MQ below (QcS Z Rp) args s 0 0 (fun a => Z.2.2.1 < a)) 75 (w_X12_number_75 (MS Z (d + 2)) (Gw Z 5 p e R s m args below meth c (MQ below (QcS Z Rp) args s 0 0 (fun a => Z.2.2.1 < a))) Rp) := by
  unfold w_X12_number_75
  refine s_bipush (n := 10) C (by decide +kernel) (by decide) ?_
  refine s_iload (k := 4) C (by decide +kernel) ?_
  refine s_imul C (by decide +kernel) ?_
  refine s_aload_n (k := 0) C (by decide +kernel) ?_
  refine s_fnV C (j2 := jX12_see) (cl := 12) (nf := 27) rfl rfl (by decide +kernel) rfl w_8_41 w_8_43 w_p7_3 w_1_13 w_8_44 (by decide +kernel) (fun _ _ _ _ _ h => f_X12_see h) (fun _ _ _ _ _ h => r_X12_see h) ?_
  refine s_iadd C (by decide +kernel) ?_
  refine s_bipush (n := 48) C (by decide +kernel) (by decide) ?_
  refine s_isub C (by decide +kernel) ?_
  exact (b_X12_number_88 C)
set_option maxRecDepth 20000 in
theorem b_X12_number_45 {Z : Zt} {d : Nat} {p : Program} {e : Env} {R : Room} {s : State} {m : MethodId} {args : Array Value} {below : List Frame} {meth : Method} {c : Code} {Rp : RT} (C : Cx Z (d + 2) jX12_number RX12 p R s m args meth c) : Sd Z jX12_number p e R s m args below meth c (MQ below (QcS Z Rp) args s 0 0 (fun a => Z.2.2.1 < a)) 45 (w_X12_number_45 (MS Z (d + 2)) (Gw Z 5 p e R s m args below meth c (MQ below (QcS Z Rp) args s 0 0 (fun a => Z.2.2.1 < a))) Rp) := by
  unfold w_X12_number_45
  refine s_aload_n (k := 0) C (by decide +kernel) ?_
  refine s_fnV C (j2 := jX12_see) (cl := 12) (nf := 27) rfl rfl (by decide +kernel) rfl w_8_41 w_8_43 w_p7_3 w_1_13 w_8_44 (by decide +kernel) (fun _ _ _ _ _ h => f_X12_see h) (fun _ _ _ _ _ h => r_X12_see h) ?_
  refine s_i2l C (by decide +kernel) ?_
  refine s_ldc2 C w_8_67 (by decide +kernel) ?_
  refine s_ldc2 C w_8_68 (by decide +kernel) ?_
  refine s_fnS C (j2 := jX12_within) (by decide +kernel) rfl w_6_175 w_6_176 w_1_13 w_6_177 (by decide +kernel) (fun _ _ _ _ _ h => f_X12_within h) ?_
  refine s_if_eq (off := 44) (tgt := 103) C (by decide +kernel) (by decide) (b_X12_number_103 C) ?_
  refine s_iload (k := 4) C (by decide +kernel) ?_
  refine s_sipush (n := 999) C (by decide +kernel) (by decide) ?_
  refine s_icmp_le (off := 8) (tgt := 75) C (by decide +kernel) (by decide) (b_X12_number_75 C) ?_
  refine s_iload (k := 4) C (by decide +kernel) ?_
  exact s_goto (off := 16) (tgt := 88) C (by decide +kernel) (by decide) (b_X12_number_88 C)
set_option maxRecDepth 20000 in
theorem b_X12_number_37 {Z : Zt} {d : Nat} {p : Program} {e : Env} {R : Room} {s : State} {m : MethodId} {args : Array Value} {below : List Frame} {meth : Method} {c : Code} {Rp : RT} (C : Cx Z (d + 2) jX12_number RX12 p R s m args meth c) : Sd Z jX12_number p e R s m args below meth c (MQ below (QcS Z Rp) args s 0 0 (fun a => Z.2.2.1 < a)) 37 (w_X12_number_37 (MS Z (d + 2)) (Gw Z 5 p e R s m args below meth c (MQ below (QcS Z Rp) args s 0 0 (fun a => Z.2.2.1 < a))) Rp) := by
  unfold w_X12_number_37
  refine s_aload_n (k := 0) C (by decide +kernel) ?_
  refine s_getI C w_6_103 (by decide +kernel) rfl ?_
  refine s_istore_n (k := 3) C (by decide +kernel) ?_
  refine s_iconst (n := 0) C (by decide +kernel) (by decide) ?_
  refine s_istore (k := 4) C (by decide +kernel) ?_
  exact (fun _ _ _ _ _ _ h => h)
set_option maxRecDepth 20000 in
theorem b_X12_number_22 {Z : Zt} {d : Nat} {p : Program} {e : Env} {R : Room} {s : State} {m : MethodId} {args : Array Value} {below : List Frame} {meth : Method} {c : Code} {Rp : RT} (C : Cx Z (d + 2) jX12_number RX12 p R s m args meth c) : Sd Z jX12_number p e R s m args below meth c (MQ below (QcS Z Rp) args s 0 0 (fun a => Z.2.2.1 < a)) 22 (w_X12_number_22 (MS Z (d + 2)) (Gw Z 5 p e R s m args below meth c (MQ below (QcS Z Rp) args s 0 0 (fun a => Z.2.2.1 < a))) Rp) := by
  unfold w_X12_number_22
  refine s_istore_n (k := 2) C (by decide +kernel) ?_
  refine s_iload_n (k := 2) C (by decide +kernel) ?_
  refine s_if_eq (off := 13) (tgt := 37) C (by decide +kernel) (by decide) (b_X12_number_37 C) ?_
  refine s_aload_n (k := 0) C (by decide +kernel) ?_
  refine s_dup C (by decide +kernel) ?_
  refine s_getI C w_6_103 (by decide +kernel) rfl ?_
  refine s_iconst (n := 1) C (by decide +kernel) (by decide) ?_
  refine s_iadd C (by decide +kernel) ?_
  refine s_putI C w_6_103 (by decide +kernel) rfl (Or.inl rfl) ?_
  exact (b_X12_number_37 C)
set_option maxRecDepth 20000 in
theorem b_X12_number_21 {Z : Zt} {d : Nat} {p : Program} {e : Env} {R : Room} {s : State} {m : MethodId} {args : Array Value} {below : List Frame} {meth : Method} {c : Code} {Rp : RT} (C : Cx Z (d + 2) jX12_number RX12 p R s m args meth c) : Sd Z jX12_number p e R s m args below meth c (MQ below (QcS Z Rp) args s 0 0 (fun a => Z.2.2.1 < a)) 21 (w_X12_number_21 (MS Z (d + 2)) (Gw Z 5 p e R s m args below meth c (MQ below (QcS Z Rp) args s 0 0 (fun a => Z.2.2.1 < a))) Rp) := by
  unfold w_X12_number_21
  refine s_iconst (n := 0) C (by decide +kernel) (by decide) ?_
  exact (b_X12_number_22 C)
set_option maxRecDepth 20000 in
theorem b_X12_number_0 {Z : Zt} {d : Nat} {p : Program} {e : Env} {R : Room} {s : State} {m : MethodId} {args : Array Value} {below : List Frame} {meth : Method} {c : Code} {Rp : RT} (C : Cx Z (d + 2) jX12_number RX12 p R s m args meth c) : Sd Z jX12_number p e R s m args below meth c (MQ below (QcS Z Rp) args s 0 0 (fun a => Z.2.2.1 < a)) 0 (w_X12_number_0 (MS Z (d + 2)) (Gw Z 5 p e R s m args below meth c (MQ below (QcS Z Rp) args s 0 0 (fun a => Z.2.2.1 < a))) Rp) := by
  unfold w_X12_number_0
  refine s_aload_n (k := 0) C (by decide +kernel) ?_
  refine s_fnV C (j2 := jX12_blanks) (cl := 12) (nf := 27) rfl rfl (by decide +kernel) rfl w_8_37 w_8_39 w_p7_2 w_1_13 w_8_40 (by decide +kernel) (fun _ _ _ _ _ h => f_X12_blanks h) (fun _ _ _ _ _ h => r_X12_blanks h) ?_
  refine s_iload_n (k := 1) C (by decide +kernel) ?_
  refine s_if_eq (off := 16) (tgt := 21) C (by decide +kernel) (by decide) (b_X12_number_21 C) ?_
  refine s_aload_n (k := 0) C (by decide +kernel) ?_
  refine s_fnV C (j2 := jX12_see) (cl := 12) (nf := 27) rfl rfl (by decide +kernel) rfl w_8_41 w_8_43 w_p7_3 w_1_13 w_8_44 (by decide +kernel) (fun _ _ _ _ _ h => f_X12_see h) (fun _ _ _ _ _ h => r_X12_see h) ?_
  refine s_bipush (n := 45) C (by decide +kernel) (by decide) ?_
  refine s_icmp_ne (off := 7) (tgt := 21) C (by decide +kernel) (by decide) (b_X12_number_21 C) ?_
  refine s_iconst (n := 1) C (by decide +kernel) (by decide) ?_
  exact s_goto (off := 4) (tgt := 22) C (by decide +kernel) (by decide) (b_X12_number_22 C)
theorem ms_X12_number {Z : Zt} {d : Nat} {S : Sh} {μ : Mi} {ρ : Mr} {Rp : RT} (a0 : Nat) (x1 : Int32) (h : ∀ G : Nat → PT, (∀ (L st : List Value) (S : Sh) (q : Nat × Nat) (μ : Mi) (ρ : Mr), w_X12_number_45 (MS Z (d + 2)) G Rp L st S q μ ρ → G 45 L st S q μ ρ) → w_X12_number_0 (MS Z (d + 2)) G Rp [.ref a0, .int x1, .null, .null, .null] [] S (0, 0) μ ρ) : MS Z (d + 3) jX12_number [.ref a0, .int x1] S μ ρ Rp :=
  MS_of [.ref a0, .int x1, .null, .null, .null] (by decide +kernel) rfl rfl (Nat.le_of_ble_eq_true rfl) rfl (fun p e R s m args below meth c C => b_X12_number_0 C _ _ _ _ _ _ (h _ (b_X12_number_45 C)))
def F_X12_number : FT := fun As S μ ρ k => match As with
  | [.ref a, .int b] => a = 2737 ∧ RS S ρ ∧ spOK (μ 2737) ∧ k (some (.int (qNum (μ 2745) (μ 2737) b).1)) (upF μ 2737 (qNum (μ 2745) (μ 2737) b).2)
  | _ => False
theorem r_X12_number {As S μ ρ k} (h : F_X12_number As S μ ρ k) : ∃ a As', As = Value.ref a :: As' ∧ S.2 a = (12, 27) := by
  unfold F_X12_number at h
  split at h
  · exact ⟨_, _, rfl, by rw [h.1]; exact h.2.1.1⟩
  · exact h.elim
set_option maxHeartbeats 1000000 in
theorem f_X12_number {Z : Zt} {d : Nat} {As : List Value} {S : Sh} {μ : Mi} {ρ : Mr} {Rp : RT} (h : F_X12_number As S μ ρ (fun r μ' => Rp r S μ' ρ)) : MS Z (d + 3) jX12_number As S μ ρ Rp := by
  unfold F_X12_number at h
  split at h
  · rename_i a b
    obtain ⟨rfl, hS, h⟩ := h
    have hS0 := hS
    unfold RS at hS
    obtain ⟨hs, h⟩ := h
    have hb := spOK_blk (T := μ 2745) hs
    have n1 : (2745 : Nat) ≠ 2737 := by decide
    refine ms_X12_number _ _ (fun G g45 => ?_)
    have hy : (¬ b = 0 ∧ seeT (μ 2745) (μ 2737 15).toNatClampNeg (blk (μ 2745) (μ 2737 15).toNatClampNeg (μ 2737 16).toNatClampNeg) = 45) → Rp (some (.int (-(dg (μ 2745) (μ 2737 15).toNatClampNeg (blk (μ 2745) (μ 2737 15).toNatClampNeg (μ 2737 16).toNatClampNeg + 1) 0).2))) S (upF μ 2737 (qNum1 (μ 2737) (blk (μ 2745) (μ 2737 15).toNatClampNeg (μ 2737 16).toNatClampNeg + 1) (dg (μ 2745) (μ 2737 15).toNatClampNeg (blk (μ 2745) (μ 2737 15).toNatClampNeg (μ 2737 16).toNatClampNeg + 1) 0).1)) ρ := by
      intro c
      unfold qNum nBeg at h
      simp only [if_pos (show nLess (μ 2745) (μ 2737) b from c)] at h
      exact h
    have hn : ¬ (¬ b = 0 ∧ seeT (μ 2745) (μ 2737 15).toNatClampNeg (blk (μ 2745) (μ 2737 15).toNatClampNeg (μ 2737 16).toNatClampNeg) = 45) → Rp (some (.int (dg (μ 2745) (μ 2737 15).toNatClampNeg (blk (μ 2745) (μ 2737 15).toNatClampNeg (μ 2737 16).toNatClampNeg) 0).2)) S (upF μ 2737 (qNum1 (μ 2737) (blk (μ 2745) (μ 2737 15).toNatClampNeg (μ 2737 16).toNatClampNeg) (dg (μ 2745) (μ 2737 15).toNatClampNeg (blk (μ 2745) (μ 2737 15).toNatClampNeg (μ 2737 16).toNatClampNeg) 0).1)) ρ := by
      intro c
      unfold qNum nBeg at h
      simp only [if_neg (show ¬ nLess (μ 2745) (μ 2737) b from c)] at h
      exact h
    clear h
    obtain ⟨n, en, en0, -, en1⟩ := rg_ex hs.1
    generalize hb0 : blk (μ 2745) (μ 2737 15).toNatClampNeg (μ 2737 16).toNatClampNeg = b0 at *
    rw [en, nI_clamp en0] at hy hn hb0
    -- behind the digits
    have fin : ∀ (lsI : Int32) (p1 : Nat) (r : Nat × Int32), p1 ≤ 1000 → r.1 ≤ 1000 → p1 ≤ r.1 → Rp (some (.int (if ¬ lsI = 0 then -r.2 else r.2))) S (upF μ 2737 (qNum1 (μ 2737) p1 r.1)) ρ → w_X12_number_103 (MS Z (d + 2)) G Rp [.ref 2737, .int b, .int lsI, .int (nI p1), .int r.2] [] S (0, 0) (upF μ 2737 (up (μ 2737) 16 (nI r.1))) ρ := by
      intro lsI p1 r hp1 hr1 hr2 hq
      unfold qNum1 at hq
      have t3 : ∀ (F : Rw), Rp (some (.int (if ¬ lsI = 0 then -r.2 else r.2))) S (upF μ 2737 (up F 25 (nI p1))) ρ → w_X12_number_133 (MS Z (d + 2)) G Rp [.ref 2737, .int b, .int lsI, .int (nI p1), .int r.2] [] S (0, 0) (upF μ 2737 F) ρ := by
        intro F hF
        simp only [w_X12_number_133, w_X12_number_148, w_X12_number_150, tAload, tIload, nth, tGetI, tGetR, tConst, tLconst, tBin, tUn, tI2l, tAld, tAldR, tAlen, tIast, tBast, tZast, tAast, tIret, tZret, tVret, tAret, tIf, tIf2, tGoto, tIstore, tAstore, sset, tIinc, tDup, tDup2, tPop, tPutI, tPutZ, tPutR, tCallV, tCallS, popN, tFn, tCopy, tMax, tMin, tSw, swc, tRem, tObjI, Option.toList, List.nil_append, List.cons_append, okR, true_and, and_true, true_or, or_true, Nat.zero_le, ne_eq, not_false_eq_true, Nat.reduceEqDiff, hS, upI_row]
        refine ⟨fun c => ?_, fun c => ?_⟩
        · rw [if_neg (not_not_intro c)] at hF; exact hF
        · rw [if_pos c] at hF; exact hF
      have t2 : ∀ (F : Rw), F 16 = nI r.1 → Rp (some (.int (if ¬ lsI = 0 then -r.2 else r.2))) S (upF μ 2737 (up (if p1 + 3 < r.1 then qFails F 2 (nI p1) else F) 25 (nI p1))) ρ → w_X12_number_117 (MS Z (d + 2)) G Rp [.ref 2737, .int b, .int lsI, .int (nI p1), .int r.2] [] S (0, 0) (upF μ 2737 F) ρ := by
        intro F hF16 hF
        simp only [w_X12_number_117, tAload, tIload, nth, tGetI, tGetR, tConst, tLconst, tBin, tUn, tI2l, tAld, tAldR, tAlen, tIast, tBast, tZast, tAast, tIret, tZret, tVret, tAret, tIf, tIf2, tGoto, tIstore, tAstore, sset, tIinc, tDup, tDup2, tPop, tPutI, tPutZ, tPutR, tCallV, tCallS, popN, tFn, tCopy, tMax, tMin, tSw, swc, tRem, tObjI, Option.toList, List.nil_append, List.cons_append, okR, true_and, and_true, true_or, or_true, Nat.zero_le, ne_eq, not_false_eq_true, Nat.reduceEqDiff, F_X12_fails, hS0, hS, upF_same, upF_upF, hF16, nad 3 3 rfl]
        simp (disch := omega) only [nI_leI]
        refine ⟨fun c => t3 _ ?_, fun c => t3 _ ?_⟩
        · rw [if_neg (show ¬ p1 + 3 < r.1 by omega)] at hF; exact hF
        · rw [if_pos (show p1 + 3 < r.1 by omega)] at hF; exact hF
      simp only [w_X12_number_103, tAload, tIload, nth, tGetI, tGetR, tConst, tLconst, tBin, tUn, tI2l, tAld, tAldR, tAlen, tIast, tBast, tZast, tAast, tIret, tZret, tVret, tAret, tIf, tIf2, tGoto, tIstore, tAstore, sset, tIinc, tDup, tDup2, tPop, tPutI, tPutZ, tPutR, tCallV, tCallS, popN, tFn, tCopy, tMax, tMin, tSw, swc, tRem, tObjI, Option.toList, List.nil_append, List.cons_append, okR, true_and, and_true, true_or, or_true, Nat.zero_le, ne_eq, not_false_eq_true, Nat.reduceEqDiff, F_X12_fails, hS0, hS, upF_same, upF_upF, up_at]
      simp (disch := omega) only [nI_eq]
      refine ⟨fun c => t2 _ up_at ?_, fun c => t2 _ ?_ ?_⟩
      · simp only [if_neg c] at hq; exact hq
      · rw [qFails_out (by decide), up_at]
      · simp only [if_pos (Decidable.not_not.mp c)] at hq; exact hq
    have loop : ∀ (m q : Nat) (v lsI : Int32) (p1 : Nat), n + 1001 - q ≤ m → q ≤ 1000 → p1 ≤ q → Rp (some (.int (if ¬ lsI = 0 then -(dg (μ 2745) n q v).2 else (dg (μ 2745) n q v).2))) S (upF μ 2737 (qNum1 (μ 2737) p1 (dg (μ 2745) n q v).1)) ρ → G 45 [.ref 2737, .int b, .int lsI, .int (nI p1), .int v] [] S (0, 0) (upF μ 2737 (up (μ 2737) 16 (nI q))) ρ := by
      intro m
      induction m with
      | zero => intro q v lsI p1 q1 q2 q3 q4; omega
      | succ m ih =>
        intro q v lsI p1 q1 q2 q3 q4
        refine g45 _ _ _ _ _ _ ?_
        have eF : up (μ 2737) 16 (nI q) 15 = nI n := by rw [up_ne (by decide)]; exact en
        have hsp : spOK (up (μ 2737) 16 (nI q)) := ⟨by rw [eF, rg_nI en0]; omega, by rw [up_at, rg_nI (by omega)]; omega⟩
        simp only [w_X12_number_45, w_X12_number_75, w_X12_number_88, tAload, tIload, nth, tGetI, tGetR, tConst, tLconst, tBin, tUn, tI2l, tAld, tAldR, tAlen, tIast, tBast, tZast, tAast, tIret, tZret, tVret, tAret, tIf, tIf2, tGoto, tIstore, tAstore, sset, tIinc, tDup, tDup2, tPop, tPutI, tPutZ, tPutR, tCallV, tCallS, popN, tFn, tCopy, tMax, tMin, tSw, swc, tRem, tObjI, Option.toList, List.nil_append, List.cons_append, okR, true_and, and_true, true_or, or_true, Nat.zero_le, ne_eq, not_false_eq_true, Nat.reduceEqDiff, F_X12_see, F_X12_within, hS0, hS, upF_same, upF_ne n1, up_at, eF, upI_row, nI_1, up_up, b2_z, Decidable.not_not, l_leC, l_geC, il_48, il_57]
        simp (disch := omega) only [nI_clamp]
        refine ⟨hsp, fun c => ?_, fun c => ⟨fun c2 => ⟨hsp, ?_⟩, fun c2 => ?_⟩⟩
        · have e := dg_e (v := v) c
          rw [e] at q4
          exact fin lsI p1 (q, v) (by omega) (by show q ≤ 1000; omega) (by show p1 ≤ q; omega) q4
        · have hq := see_lt c (by decide)
          refine ih (q + 1) _ lsI p1 (by omega) (by omega) (by omega) ?_
          rw [dg_s c, if_neg (Int32.not_lt.mpr c2)] at q4
          exact q4
        · have hq := see_lt c (by decide)
          refine ih (q + 1) _ lsI p1 (by omega) (by omega) (by omega) ?_
          rw [dg_s c, if_pos (Int32.not_le.mp c2)] at q4
          exact q4
    have e15 : up (μ 2737) 16 (nI b0) 15 = nI n := by rw [up_ne (by decide)]; exact en
    have no : ¬ (¬ b = 0 ∧ seeT (μ 2745) n b0 = 45) → ∀ v2 v3 v4, w_X12_number_21 (MS Z (d + 2)) G Rp [.ref 2737, .int b, v2, v3, v4] [] S (0, 0) (upF μ 2737 (up (μ 2737) 16 (nI b0))) ρ := by
      intro c v2 v3 v4
      simp only [w_X12_number_21, w_X12_number_22, w_X12_number_37, tAload, tIload, nth, tGetI, tGetR, tConst, tLconst, tBin, tUn, tI2l, tAld, tAldR, tAlen, tIast, tBast, tZast, tAast, tIret, tZret, tVret, tAret, tIf, tIf2, tGoto, tIstore, tAstore, sset, tIinc, tDup, tDup2, tPop, tPutI, tPutZ, tPutR, tCallV, tCallS, popN, tFn, tCopy, tMax, tMin, tSw, swc, tRem, tObjI, Option.toList, List.nil_append, List.cons_append, okR, true_and, and_true, true_or, or_true, Nat.zero_le, ne_eq, not_false_eq_true, Nat.reduceEqDiff, hS, upF_same, up_at]
      refine ⟨fun _ => ?_, fun z => absurd trivial z⟩
      refine loop (n + 1001) b0 0 0 b0 (by omega) hb.2 (Nat.le_refl _) ?_
      rw [if_neg (by decide)]
      exact hn c
    simp only [w_X12_number_0, tAload, tIload, nth, tGetI, tGetR, tConst, tLconst, tBin, tUn, tI2l, tAld, tAldR, tAlen, tIast, tBast, tZast, tAast, tIret, tZret, tVret, tAret, tIf, tIf2, tGoto, tIstore, tAstore, sset, tIinc, tDup, tDup2, tPop, tPutI, tPutZ, tPutR, tCallV, tCallS, popN, tFn, tCopy, tMax, tMin, tSw, swc, tRem, tObjI, Option.toList, List.nil_append, List.cons_append, okR, true_and, and_true, true_or, or_true, Nat.zero_le, ne_eq, not_false_eq_true, Nat.reduceEqDiff, F_X12_blanks, F_X12_see, hS0, hS, upF_same, upF_ne n1, up_at, en]
    simp (disch := omega) only [nI_clamp]
    simp only [hb0, e15]
    simp (disch := omega) only [nI_clamp]
    refine ⟨hs, fun c => no (fun z => z.1 c) _ _ _, fun c => ⟨hb.1, fun c2 => no (fun z => c2 z.2) _ _ _, fun c2 => ?_⟩⟩
    have c2 := Decidable.not_not.mp c2
    have hlt : b0 < n := by
      by_cases z : b0 < n
      · exact z
      · rw [seeT_hi (by omega)] at c2; exact absurd c2 (by decide)
    simp only [w_X12_number_22, w_X12_number_37, tAload, tIload, nth, tGetI, tGetR, tConst, tLconst, tBin, tUn, tI2l, tAld, tAldR, tAlen, tIast, tBast, tZast, tAast, tIret, tZret, tVret, tAret, tIf, tIf2, tGoto, tIstore, tAstore, sset, tIinc, tDup, tDup2, tPop, tPutI, tPutZ, tPutR, tCallV, tCallS, popN, tFn, tCopy, tMax, tMin, tSw, swc, tRem, tObjI, Option.toList, List.nil_append, List.cons_append, okR, true_and, and_true, true_or, or_true, Nat.zero_le, ne_eq, not_false_eq_true, Nat.reduceEqDiff, hS, upF_same, upI_row, up_at, up_up, nI_1]
    refine ⟨fun z => absurd z (by decide), fun _ => ?_⟩
    refine loop (n + 1001) (b0 + 1) 0 1 (b0 + 1) (by omega) (by omega) (Nat.le_refl _) ?_
    rw [if_pos (by decide)]
    exact hy ⟨c, c2⟩
  · exact h.elim
