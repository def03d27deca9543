/-! ===== the reference: sending to all; what is agreed is done; a message goes out ===== -/
theorem qPost_lo {A row : Rw} {f t i : Nat} (h : i < 2570) : qPost A f t row i = A i := by
  unfold qPost
  split
  · rfl
  · split
    · exact push_lo h
    · exact up_ne (by omega)
theorem qFeed_lo {A : Rw} {s t i : Nat} (h : i < 2570) : qFeed A s t i = A i := by unfold qFeed; split <;> exact qPost_lo h
theorem ff_lo {A : Rw} {s t i : Nat} {set : Int32} (h : i < 2570) : ff s set A t i = A i := by
  unfold ff
  split
  · exact qFeed_lo h
  · rfl
theorem qPost_w {A row : Rw} {f t : Nat} (h : rg (A 4510) 0 60) : rg (qPost A f t row 4510) 0 60 := by
  unfold qPost
  split
  · exact h
  · split
    · rename_i h1 h2
      obtain ⟨w, hw, hw0, -, hw1⟩ := rg_ex h
      have hw60 : w < 60 := by
        rcases Nat.lt_or_ge w 60 with z | z
        · exact z
        · exact absurd (by rw [hw, show w = 60 by omega]; rfl) h2.2.1
      have e : qPush A row 4510 = nI (w + 1) := by
        unfold qPush
        rw [hw, nI_clamp hw0, if_neg (by omega), if_pos rfl, nI_1]
      rw [e, rg_nI (by omega)]
      omega
    · rw [up_ne (by decide)]; exact h
theorem qFeed_w {A : Rw} {s t : Nat} (h : rg (A 4510) 0 60) : rg (qFeed A s t 4510) 0 60 := by unfold qFeed; split <;> exact qPost_w h
theorem ff_w {A : Rw} {s t : Nat} {set : Int32} (h : rg (A 4510) 0 60) : rg (ff s set A t 4510) 0 60 := by
  unfold ff
  split
  · exact qFeed_w h
  · exact h
/-- what a leader needs so that it can send -/
def sdOK (A : Rw) (s : Nat) : Prop := rg (A 4510) 0 60 ∧ rg (A (514 * s + 4)) 0 120 ∧ rg (A (514 * s + 5)) 0 120 ∧ ∀ t, t < 5 → rg (A (514 * s + 24 + t)) 0 121
theorem setM_upF {μ : Mi} {f : Rw} {t : Int32 × Int32 × Int32 × Int32} : upF (setM μ t) 2738 f = setM (upF μ 2738 f) t := by
  unfold setM upF
  funext x i
  by_cases h : x = 2738 <;> by_cases h2 : x = 2737 <;> simp [h, h2]
def w_X12_feedsAll_47 (M : CT) (G : Nat → PT) (Rp : RT) : PT := tVret Rp
def w_X12_feedsAll_41 (M : CT) (G : Nat → PT) (Rp : RT) : PT := tIinc 3 1 <| tGoto (G 17)
def w_X12_feedsAll_17 (M : CT) (G : Nat → PT) (Rp : RT) : PT := tIload 3 <| tConst 5 <| tIf2 (fun x y => y ≤ x) (w_X12_feedsAll_47 M G Rp) <| tIload 2 <| tIload 3 <| tFn 2 F_X12_has <| tIf (fun x => x = 0) (w_X12_feedsAll_41 M G Rp) <| tIload 3 <| tIload 1 <| tIf2 (fun x y => x = y) (w_X12_feedsAll_41 M G Rp) <| tAload 0 <| tIload 1 <| tIload 3 <| tFn 3 F_X12_feeds <| w_X12_feedsAll_41 M G Rp
def w_X12_feedsAll_0 (M : CT) (G : Nat → PT) (Rp : RT) : PT := tAload 0 <| tIload 1 <| tFn 2 F_X12_laysMembers <| tAload 0 <| tGetI 12 27 8 <| tAload 0 <| tGetI 12 27 9 <| tBin (fun x y => x ||| y) <| tIstore 2 <| tConst 0 <| tIstore 3 <| G 17
set_option maxRecDepth 20000 in
theorem b_X12_feedsAll_47 {Z : Zt} {d : Nat} {p : Program} {e : Env} {R : Room} {s : State} {m : MethodId} {args : Array Value} {below : List Frame} {meth : Method} {c : Code} {Rp : RT} (C : Cx Z (d + 4) jX12_feedsAll RX12 p R s m args meth c) : Sd Z jX12_feedsAll p e R s m args below meth c (MQ below (QcS Z Rp) args s 0 0 (fun a => Z.2.2.1 < a)) 47 (w_X12_feedsAll_47 (MS Z (d + 4)) (Gw Z 4 p e R s m args below meth c (MQ below (QcS Z Rp) args s 0 0 (fun a => Z.2.2.1 < a))) Rp) := by
  unfold w_X12_feedsAll_47
  exact s_vret C rfl (by decide +kernel)
set_option maxRecDepth 20000 in
theorem b_X12_feedsAll_41 {Z : Zt} {d : Nat} {p : Program} {e : Env} {R : Room} {s : State} {m : MethodId} {args : Array Value} {below : List Frame} {meth : Method} {c : Code} {Rp : RT} (C : Cx Z (d + 4) jX12_feedsAll RX12 p R s m args meth c) : Sd Z jX12_feedsAll p e R s m args below meth c (MQ below (QcS Z Rp) args s 0 0 (fun a => Z.2.2.1 < a)) 41 (w_X12_feedsAll_41 (MS Z (d + 4)) (Gw Z 4 p e R s m args below meth c (MQ below (QcS Z Rp) args s 0 0 (fun a => Z.2.2.1 < a))) Rp) := by
  unfold w_X12_feedsAll_41
  refine s_iinc (n := 1) C (by decide +kernel) (by decide) ?_
  exact s_goto (off := (-27)) (tgt := 17) C (by decide +kernel) (by decide) (fun _ _ _ _ _ _ h => h)
set_option maxRecDepth 20000 in
theorem b_X12_feedsAll_17 {Z : Zt} {d : Nat} {p : Program} {e : Env} {R : Room} {s : State} {m : MethodId} {args : Array Value} {below : List Frame} {meth : Method} {c : Code} {Rp : RT} (C : Cx Z (d + 4) jX12_feedsAll RX12 p R s m args meth c) : Sd Z jX12_feedsAll p e R s m args below meth c (MQ below (QcS Z Rp) args s 0 0 (fun a => Z.2.2.1 < a)) 17 (w_X12_feedsAll_17 (MS Z (d + 4)) (Gw Z 4 p e R s m args below meth c (MQ below (QcS Z Rp) args s 0 0 (fun a => Z.2.2.1 < a))) Rp) := by
  unfold w_X12_feedsAll_17
  refine s_iload_n (k := 3) C (by decide +kernel) ?_
  refine s_iconst (n := 5) C (by decide +kernel) (by decide) ?_
  refine s_icmp_ge (off := 28) (tgt := 47) C (by decide +kernel) (by decide) (b_X12_feedsAll_47 C) ?_
  refine s_iload_n (k := 2) C (by decide +kernel) ?_
  refine s_iload_n (k := 3) C (by decide +kernel) ?_
  refine s_fnS C (j2 := jX12_has) (by decide +kernel) rfl w_7_0 w_7_1 w_1_13 w_7_2 (by decide +kernel) (fun _ _ _ _ _ h => f_X12_has h) ?_
  refine s_if_eq (off := 14) (tgt := 41) C (by decide +kernel) (by decide) (b_X12_feedsAll_41 C) ?_
  refine s_iload_n (k := 3) C (by decide +kernel) ?_
  refine s_iload_n (k := 1) C (by decide +kernel) ?_
  refine s_icmp_eq (off := 9) (tgt := 41) C (by decide +kernel) (by decide) (b_X12_feedsAll_41 C) ?_
  refine s_aload_n (k := 0) C (by decide +kernel) ?_
  refine s_iload_n (k := 1) C (by decide +kernel) ?_
  refine s_iload_n (k := 3) C (by decide +kernel) ?_
  refine s_fnV C (j2 := jX12_feeds) (cl := 12) (nf := 27) rfl rfl (by decide +kernel) rfl w_7_51 w_7_53 w_p4_12 w_1_13 w_7_54 (by decide +kernel) (fun _ _ _ _ _ h => f_X12_feeds h) (fun _ _ _ _ _ h => r_X12_feeds h) ?_
  exact (b_X12_feedsAll_41 C)
set_option maxRecDepth 20000 in
theorem b_X12_feedsAll_0 {Z : Zt} {d : Nat} {p : Program} {e : Env} {R : Room} {s : State} {m : MethodId} {args : Array Value} {below : List Frame} {meth : Method} {c : Code} {Rp : RT} (C : Cx Z (d + 4) jX12_feedsAll RX12 p R s m args meth c) : Sd Z jX12_feedsAll p e R s m args below meth c (MQ below (QcS Z Rp) args s 0 0 (fun a => Z.2.2.1 < a)) 0 (w_X12_feedsAll_0 (MS Z (d + 4)) (Gw Z 4 p e R s m args below meth c (MQ below (QcS Z Rp) args s 0 0 (fun a => Z.2.2.1 < a))) Rp) := by
  unfold w_X12_feedsAll_0
  refine s_aload_n (k := 0) C (by decide +kernel) ?_
  refine s_iload_n (k := 1) C (by decide +kernel) ?_
  refine s_fnV C (j2 := jX12_laysMembers) (cl := 12) (nf := 27) rfl rfl (by decide +kernel) rfl w_6_216 w_6_218 w_p3_10 w_1_13 w_6_219 (by decide +kernel) (fun _ _ _ _ _ h => f_X12_laysMembers h) (fun _ _ _ _ _ h => r_X12_laysMembers h) ?_
  refine s_aload_n (k := 0) C (by decide +kernel) ?_
  refine s_getI C w_6_95 (by decide +kernel) rfl ?_
  refine s_aload_n (k := 0) C (by decide +kernel) ?_
  refine s_getI C w_6_96 (by decide +kernel) rfl ?_
  refine s_ior C (by decide +kernel) ?_
  refine s_istore_n (k := 2) C (by decide +kernel) ?_
  refine s_iconst (n := 0) C (by decide +kernel) (by decide) ?_
  refine s_istore_n (k := 3) C (by decide +kernel) ?_
  exact (fun _ _ _ _ _ _ h => h)
theorem ms_X12_feedsAll {Z : Zt} {d : Nat} {S : Sh} {μ : Mi} {ρ : Mr} {Rp : RT} (a0 : Nat) (x1 : Int32) (h : ∀ G : Nat → PT, (∀ (L st : List Value) (S : Sh) (q : Nat × Nat) (μ : Mi) (ρ : Mr), w_X12_feedsAll_17 (MS Z (d + 4)) G Rp L st S q μ ρ → G 17 L st S q μ ρ) → w_X12_feedsAll_0 (MS Z (d + 4)) G Rp [.ref a0, .int x1, .null, .null] [] S (0, 0) μ ρ) : MS Z (d + 5) jX12_feedsAll [.ref a0, .int x1] S μ ρ Rp :=
  MS_of [.ref a0, .int x1, .null, .null] (by decide +kernel) rfl rfl (Nat.le_of_ble_eq_true rfl) rfl (fun p e R s m args below meth c C => b_X12_feedsAll_0 C _ _ _ _ _ _ (h _ (b_X12_feedsAll_17 C)))
def F_X12_feedsAll : FT := fun As S μ ρ k => match As with
  | [.ref a, .int s] => a = 2737 ∧ RS S ρ ∧ rg s 0 4 ∧ sdOK (μ 2738) s.toNatClampNeg ∧ k none (upF (setM μ (qMem (μ 2738) s.toNatClampNeg)) 2738 (qFeedsAll (μ 2738) s.toNatClampNeg))
  | _ => False
theorem r_X12_feedsAll {As S μ ρ k} (h : F_X12_feedsAll As S μ ρ k) : ∃ a As', As = Value.ref a :: As' ∧ S.2 a = (12, 27) := by
  unfold F_X12_feedsAll at h
  split at h
  · exact ⟨_, _, rfl, by rw [h.1]; exact h.2.1.1⟩
  · exact h.elim
set_option maxHeartbeats 1000000 in
theorem f_X12_feedsAll {Z : Zt} {d : Nat} {As : List Value} {S : Sh} {μ : Mi} {ρ : Mr} {Rp : RT} (h : F_X12_feedsAll As S μ ρ (fun r μ' => Rp r S μ' ρ)) : MS Z (d + 5) jX12_feedsAll As S μ ρ Rp := by
  unfold F_X12_feedsAll at h
  split at h
  · rename_i a s
    obtain ⟨rfl, hS, h⟩ := h
    have hS0 := hS
    unfold RS at hS
    obtain ⟨h1, h2, h⟩ := h
    obtain ⟨s, rfl, hs0, -, hs⟩ := rg_ex h1
    have hrs := rg_T (lo := 0) (hi := 4) (n := s) (by omega) (by omega) hs0
    simp (disch := omega) only [nI_clamp] at h h2
    obtain ⟨k1, k2, k3, k4⟩ := h2
    refine ms_X12_feedsAll _ _ (fun G g17 => ?_)
    simp only [w_X12_feedsAll_0, tAload, tIload, nth, tGetI, tGetR, tConst, tLconst, tBin, tUn, tI2l, tAld, tAldR, tAlen, tIast, tBast, tZast, tAast, tIret, tZret, tVret, tAret, tIf, tIf2, tGoto, tIstore, tAstore, sset, tIinc, tDup, tDup2, tPop, tPutI, tPutZ, tPutR, tCallV, tCallS, popN, tFn, tCopy, tMax, tMin, tSw, swc, tRem, tObjI, Option.toList, List.nil_append, List.cons_append, okR, true_and, and_true, true_or, or_true, Nat.zero_le, ne_eq, not_false_eq_true, Nat.reduceEqDiff, F_X12_laysMembers, hS0, hS, hrs, setM_8, setM_9]
    simp (disch := omega) only [nI_clamp]
    refine ⟨k2, k3, ?_⟩
    generalize hset : (qMem (μ 2738) s).1 ||| (qMem (μ 2738) s).2.1 = set at *
    have step : ∀ (t : Nat) (A : Rw), t < 5 → (∀ i, i < 2570 → A i = μ 2738 i) → rg (A 4510) 0 60 → G 17 [.ref 2737, .int (nI s), .int set, .int (nI (t + 1))] [] S (0, 0) (upF (setM μ (qMem (μ 2738) s)) 2738 (ff s set A t)) ρ → G 17 [.ref 2737, .int (nI s), .int set, .int (nI t)] [] S (0, 0) (upF (setM μ (qMem (μ 2738) s)) 2738 A) ρ := by
      intro t A ht hA hw hg
      have hrt := rg_T (lo := 0) (hi := 4) (n := t) (by omega) (by omega) (by omega)
      refine g17 _ _ _ _ _ _ ?_
      simp only [w_X12_feedsAll_17, w_X12_feedsAll_41, w_X12_feedsAll_47, tAload, tIload, nth, tGetI, tGetR, tConst, tLconst, tBin, tUn, tI2l, tAld, tAldR, tAlen, tIast, tBast, tZast, tAast, tIret, tZret, tVret, tAret, tIf, tIf2, tGoto, tIstore, tAstore, sset, tIinc, tDup, tDup2, tPop, tPutI, tPutZ, tPutR, tCallV, tCallS, popN, tFn, tCopy, tMax, tMin, tSw, swc, tRem, tObjI, Option.toList, List.nil_append, List.cons_append, okR, true_and, and_true, true_or, or_true, Nat.zero_le, ne_eq, not_false_eq_true, Nat.reduceEqDiff, F_X12_has, F_X12_feeds, hS0, hrs, hrt, b2_z, upF_same, upF_upF, nI_1]
      simp (disch := omega) only [nI_clamp]
      refine ⟨fun hc => absurd hc (lt5' t ht), fun _ => ⟨fun c1 => ?_, fun c1 => ⟨fun c2 => ?_, fun c2 => ⟨hw, ?_, ?_, ?_, ?_⟩⟩⟩⟩
      · simpa only [ff, c1, false_and, if_false] using hg
      · rw [nI_eq (by omega) (by omega)] at c2
        simpa only [ff, c2, not_true, and_false, if_false] using hg
      · rw [hA _ (by omega)]; exact k2
      · rw [hA _ (by omega)]; exact k3
      · rw [hA _ (by omega)]; exact k4 t ht
      · rw [nI_eq (by omega) (by omega)] at c2
        simp only [Decidable.not_not] at c1
        simpa only [ff, c1, c2, not_false_eq_true, and_self, if_true] using hg
    have e0 : setM μ (qMem (μ 2738) s) = upF (setM μ (qMem (μ 2738) s)) 2738 (μ 2738) := by
      have : upF (setM μ (qMem (μ 2738) s)) 2738 (setM μ (qMem (μ 2738) s) 2738) = setM μ (qMem (μ 2738) s) := upF_id
      rw [setM_row] at this
      exact this.symm
    rw [e0]
    refine step 0 _ (by decide) (fun _ _ => rfl) k1 (step 1 _ (by decide) (fun i hi => ff_lo hi) (ff_w k1) (step 2 _ (by decide) (fun i hi => by rw [ff_lo hi, ff_lo hi]) (ff_w (ff_w k1)) (step 3 _ (by decide) (fun i hi => by rw [ff_lo hi, ff_lo hi, ff_lo hi]) (ff_w (ff_w (ff_w k1))) (step 4 _ (by decide) (fun i hi => by rw [ff_lo hi, ff_lo hi, ff_lo hi, ff_lo hi]) (ff_w (ff_w (ff_w (ff_w k1)))) ?_))))
    refine g17 _ _ _ _ _ _ ?_
    simp only [w_X12_feedsAll_17, w_X12_feedsAll_41, w_X12_feedsAll_47, tAload, tIload, nth, tGetI, tGetR, tConst, tLconst, tBin, tUn, tI2l, tAld, tAldR, tAlen, tIast, tBast, tZast, tAast, tIret, tZret, tVret, tAret, tIf, tIf2, tGoto, tIstore, tAstore, sset, tIinc, tDup, tDup2, tPop, tPutI, tPutZ, tPutR, tCallV, tCallS, popN, tFn, tCopy, tMax, tMin, tSw, swc, tRem, tObjI, Option.toList, List.nil_append, List.cons_append, okR, true_and, and_true, true_or, or_true, Nat.zero_le, ne_eq, not_false_eq_true, Nat.reduceEqDiff]
    refine ⟨fun _ => ?_, fun hc => absurd (by decide) hc⟩
    unfold qFeedsAll qFeeds5 at h
    rw [hset] at h
    exact h
  · exact h.elim
