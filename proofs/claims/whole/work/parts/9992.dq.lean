/-! ===== the class: how few stops leave nobody electable ===== -/
def w_X8_hasElectable_24 (M : CT) (G : Nat → PT) (Rp : RT) : PT := tConst 0 <| tZret Rp
def w_X8_hasElectable_18 (M : CT) (G : Nat → PT) (Rp : RT) : PT := tIinc 2 1 <| tGoto (G 2)
def w_X8_hasElectable_2 (M : CT) (G : Nat → PT) (Rp : RT) : PT := tIload 2 <| tConst 5 <| tIf2 (fun x y => y ≤ x) (w_X8_hasElectable_24 M G Rp) <| tAload 0 <| tIload 2 <| tIload 1 <| tFn 3 F_X8_canBeElected <| tIf (fun x => x = 0) (w_X8_hasElectable_18 M G Rp) <| tConst 1 <| tZret Rp
def w_X8_hasElectable_0 (M : CT) (G : Nat → PT) (Rp : RT) : PT := tConst 0 <| tIstore 2 <| G 2
set_option maxRecDepth 20000 in
theorem b_X8_hasElectable_24 {Z : Zt} {d : Nat} {p : Program} {e : Env} {R : Room} {s : State} {m : MethodId} {args : Array Value} {below : List Frame} {meth : Method} {c : Code} {Rp : RT} (C : Cx Z (d + 4) jX8_hasElectable RX8 p R s m args meth c) : Sd Z jX8_hasElectable p e R s m args below meth c (MQ below (QcS Z Rp) args s 0 0 (fun a => Z.2.2.1 < a)) 24 (w_X8_hasElectable_24 (MS Z (d + 4)) (Gw Z 3 p e R s m args below meth c (MQ below (QcS Z Rp) args s 0 0 (fun a => Z.2.2.1 < a))) Rp) := by
  unfold w_X8_hasElectable_24
  refine s_iconst (n := 0) C (by decide +kernel) (by decide) ?_
  exact s_zret C rfl (by decide +kernel)
set_option maxRecDepth 20000 in
theorem b_X8_hasElectable_18 {Z : Zt} {d : Nat} {p : Program} {e : Env} {R : Room} {s : State} {m : MethodId} {args : Array Value} {below : List Frame} {meth : Method} {c : Code} {Rp : RT} (C : Cx Z (d + 4) jX8_hasElectable RX8 p R s m args meth c) : Sd Z jX8_hasElectable p e R s m args below meth c (MQ below (QcS Z Rp) args s 0 0 (fun a => Z.2.2.1 < a)) 18 (w_X8_hasElectable_18 (MS Z (d + 4)) (Gw Z 3 p e R s m args below meth c (MQ below (QcS Z Rp) args s 0 0 (fun a => Z.2.2.1 < a))) Rp) := by
  unfold w_X8_hasElectable_18
  refine s_iinc (n := 1) C (by decide +kernel) (by decide) ?_
  exact s_goto (off := (-19)) (tgt := 2) C (by decide +kernel) (by decide) (fun _ _ _ _ _ _ h => h)
set_option maxRecDepth 20000 in
theorem b_X8_hasElectable_2 {Z : Zt} {d : Nat} {p : Program} {e : Env} {R : Room} {s : State} {m : MethodId} {args : Array Value} {below : List Frame} {meth : Method} {c : Code} {Rp : RT} (C : Cx Z (d + 4) jX8_hasElectable RX8 p R s m args meth c) : Sd Z jX8_hasElectable p e R s m args below meth c (MQ below (QcS Z Rp) args s 0 0 (fun a => Z.2.2.1 < a)) 2 (w_X8_hasElectable_2 (MS Z (d + 4)) (Gw Z 3 p e R s m args below meth c (MQ below (QcS Z Rp) args s 0 0 (fun a => Z.2.2.1 < a))) Rp) := by
  unfold w_X8_hasElectable_2
  refine s_iload_n (k := 2) C (by decide +kernel) ?_
  refine s_iconst (n := 5) C (by decide +kernel) (by decide) ?_
  refine s_icmp_ge (off := 20) (tgt := 24) C (by decide +kernel) (by decide) (b_X8_hasElectable_24 C) ?_
  refine s_aload_n (k := 0) C (by decide +kernel) ?_
  refine s_iload_n (k := 2) C (by decide +kernel) ?_
  refine s_iload_n (k := 1) C (by decide +kernel) ?_
  refine s_fnS C (j2 := jX8_canBeElected) (by decide +kernel) rfl w_6_42 w_5_169 w_1_21 w_5_170 (by decide +kernel) (fun _ _ _ _ _ h => f_X8_canBeElected h) ?_
  refine s_if_eq (off := 5) (tgt := 18) C (by decide +kernel) (by decide) (b_X8_hasElectable_18 C) ?_
  refine s_iconst (n := 1) C (by decide +kernel) (by decide) ?_
  exact s_zret C rfl (by decide +kernel)
set_option maxRecDepth 20000 in
theorem b_X8_hasElectable_0 {Z : Zt} {d : Nat} {p : Program} {e : Env} {R : Room} {s : State} {m : MethodId} {args : Array Value} {below : List Frame} {meth : Method} {c : Code} {Rp : RT} (C : Cx Z (d + 4) jX8_hasElectable RX8 p R s m args meth c) : Sd Z jX8_hasElectable p e R s m args below meth c (MQ below (QcS Z Rp) args s 0 0 (fun a => Z.2.2.1 < a)) 0 (w_X8_hasElectable_0 (MS Z (d + 4)) (Gw Z 3 p e R s m args below meth c (MQ below (QcS Z Rp) args s 0 0 (fun a => Z.2.2.1 < a))) Rp) := by
  unfold w_X8_hasElectable_0
  refine s_iconst (n := 0) C (by decide +kernel) (by decide) ?_
  refine s_istore_n (k := 2) C (by decide +kernel) ?_
  exact (fun _ _ _ _ _ _ h => h)
theorem ms_X8_hasElectable {Z : Zt} {d : Nat} {S : Sh} {μ : Mi} {ρ : Mr} {Rp : RT} (a1 : Nat) (x2 : Int32) (h : ∀ G : Nat → PT, (∀ (L st : List Value) (S : Sh) (q : Nat × Nat) (μ : Mi) (ρ : Mr), w_X8_hasElectable_2 (MS Z (d + 4)) G Rp L st S q μ ρ → G 2 L st S q μ ρ) → w_X8_hasElectable_0 (MS Z (d + 4)) G Rp [.ref a1, .int x2, .null] [] S (0, 0) μ ρ) : MS Z (d + 5) jX8_hasElectable [.ref a1, .int x2] S μ ρ Rp :=
  MS_of [.ref a1, .int x2, .null] (by decide +kernel) rfl rfl (Nat.le_of_ble_eq_true rfl) rfl (fun p e R s m args below meth c C => b_X8_hasElectable_0 C _ _ _ _ _ _ (h _ (b_X8_hasElectable_2 C)))
def F_X8_hasElectable : FT := fun As S μ ρ k => match As with
  | [.ref a, .int u] => S.2 a = (10, 6) ∧ ∃ A : Rw, RR A a S μ ρ ∧ k (some (.int (b2 (qAny A u)))) μ
  | _ => False
set_option maxHeartbeats 1000000 in
theorem f_X8_hasElectable {Z : Zt} {d : Nat} {As : List Value} {S : Sh} {μ : Mi} {ρ : Mr} {Rp : RT} (h : F_X8_hasElectable As S μ ρ (fun r μ' => Rp r S μ' ρ)) : MS Z (d + 5) jX8_hasElectable As S μ ρ Rp := by
  unfold F_X8_hasElectable at h
  split at h
  · rename_i a u
    obtain ⟨a, hNa⟩ : ∃ n : Nat, n = a := ⟨a, rfl⟩
    subst hNa
    obtain ⟨h1, A, hR, h⟩ := h
    unfold b2 at h
    refine ms_X8_hasElectable _ _ (fun G g2 => ?_)
    have yes : ∀ t, t < 5 → qElect A t u → Rp (some (.int 1)) S μ ρ := by
      intro t ht c
      rw [if_pos] at h
      · exact h
      · rcases (by omega : t = 0 ∨ t = 1 ∨ t = 2 ∨ t = 3 ∨ t = 4) with z | z | z | z | z <;> subst z
        · exact Or.inl c
        · exact Or.inr (Or.inl c)
        · exact Or.inr (Or.inr (Or.inl c))
        · exact Or.inr (Or.inr (Or.inr (Or.inl c)))
        · exact Or.inr (Or.inr (Or.inr (Or.inr c)))
    have loop : ∀ (j t : Nat), j + t = 5 → (∀ r, r < t → ¬ qElect A r u) → G 2 [.ref a, .int u, .int (nI t)] [] S (0, 0) μ ρ := by
      intro j
      induction j with
      | zero =>
        intro t ht hn
        obtain rfl : t = 5 := by omega
        apply g2
        simp only [w_X8_hasElectable_2, w_X8_hasElectable_24, tAload, tIload, nth, tGetI, tGetR, tConst, tLconst, tBin, tUn, tI2l, tAld, tAldR, tAlen, tIast, tBast, tZast, tAast, tIret, tZret, tVret, tAret, tIf, tIf2, tGoto, tIstore, tAstore, sset, tIinc, tDup, tDup2, tPop, tPutI, tPutZ, tPutR, tCallV, tCallS, popN, tFn, tCopy, tMax, tMin, tSw, swc, tRem, tObjI, Option.toList, List.nil_append, List.cons_append, okR, true_and, and_true, true_or, or_true, Nat.zero_le, ne_eq, not_false_eq_true, Nat.reduceEqDiff]
        refine ⟨fun _ => ?_, fun c => absurd ((nI_le5 (by decide)).mpr rfl) c⟩
        rw [if_neg (fun z => z.elim (hn 0 (by omega)) (fun z => z.elim (hn 1 (by omega)) (fun z => z.elim (hn 2 (by omega)) (fun z => z.elim (hn 3 (by omega)) (hn 4 (by omega))))))] at h
        exact h
      | succ j ih =>
        intro t ht hn
        apply g2
        simp only [w_X8_hasElectable_2, w_X8_hasElectable_18, tAload, tIload, nth, tGetI, tGetR, tConst, tLconst, tBin, tUn, tI2l, tAld, tAldR, tAlen, tIast, tBast, tZast, tAast, tIret, tZret, tVret, tAret, tIf, tIf2, tGoto, tIstore, tAstore, sset, tIinc, tDup, tDup2, tPop, tPutI, tPutZ, tPutR, tCallV, tCallS, popN, tFn, tCopy, tMax, tMin, tSw, swc, tRem, tObjI, Option.toList, List.nil_append, List.cons_append, okR, true_and, and_true, true_or, or_true, Nat.zero_le, ne_eq, not_false_eq_true, Nat.reduceEqDiff, F_X8_canBeElected, b2_z, h1, nI_s1]
        rw [nI_le5 (by omega)]
        refine ⟨fun z => absurd z (by omega), fun _ => ⟨t, A, hR, rfl, by omega, fun c => ih (t + 1) (by omega) (fun r hr => ?_), fun c => yes t (by omega) (Decidable.not_not.mp c)⟩⟩
        by_cases e : r = t
        · subst e; exact c
        · exact hn r (by omega)
    simp only [w_X8_hasElectable_0, tAload, tIload, nth, tGetI, tGetR, tConst, tLconst, tBin, tUn, tI2l, tAld, tAldR, tAlen, tIast, tBast, tZast, tAast, tIret, tZret, tVret, tAret, tIf, tIf2, tGoto, tIstore, tAstore, sset, tIinc, tDup, tDup2, tPop, tPutI, tPutZ, tPutR, tCallV, tCallS, popN, tFn, tCopy, tMax, tMin, tSw, swc, tRem, tObjI, Option.toList, List.nil_append, List.cons_append, okR, true_and, and_true, true_or, or_true, Nat.zero_le, ne_eq, not_false_eq_true, Nat.reduceEqDiff]
    exact loop 5 0 rfl (fun r hr => by omega)
  · exact h.elim
/-- the least of what is valid -/
theorem fgF_le {A : Rw} {u : Int32} : ∀ (m k : Nat) (b : Int32), let r := fgF A u m k b; r ≤ b ∧ (∀ i, k ≤ i → i < k + m → (nI i &&& (u ^^^ (-1)) = 0 ∧ ¬ qAny A (u &&& (nI i ^^^ (-1)))) → r ≤ cnt5 (nI i)) ∧ (r = b ∨ ∃ i, k ≤ i ∧ i < k + m ∧ (nI i &&& (u ^^^ (-1)) = 0 ∧ ¬ qAny A (u &&& (nI i ^^^ (-1)))) ∧ r = cnt5 (nI i)) := by
  intro m
  induction m with
  | zero => intro k b; exact ⟨Int32.le_refl _, fun i i1 i2 => by omega, Or.inl rfl⟩
  | succ m ih =>
    intro k b
    have e : fgF A u (m + 1) k b = fgF A u m (k + 1) (fg1 A u k b) := rfl
    simp only [e]
    obtain ⟨h1, h2, h3⟩ := ih (k + 1) (fg1 A u k b)
    generalize fgF A u m (k + 1) (fg1 A u k b) = r at *
    by_cases c : nI k &&& (u ^^^ (-1)) = 0 ∧ ¬ b ≤ cnt5 (nI k) ∧ ¬ qAny A (u &&& (nI k ^^^ (-1)))
    · have ef : fg1 A u k b = cnt5 (nI k) := by unfold fg1; rw [if_pos c]
      rw [ef] at h1 h3
      refine ⟨Int32.le_trans h1 (Int32.le_of_lt (Int32.not_le.mp c.2.1)), fun i i1 i2 hv => ?_, ?_⟩
      · by_cases z : i = k
        · subst z; exact h1
        · exact h2 i (by omega) (by omega) hv
      · rcases h3 with z | ⟨i, i1, i2, i3, i4⟩
        · exact Or.inr ⟨k, Nat.le_refl _, by omega, ⟨c.1, c.2.2⟩, z⟩
        · exact Or.inr ⟨i, by omega, by omega, i3, i4⟩
    · have ef : fg1 A u k b = b := by unfold fg1; rw [if_neg c]
      rw [ef] at h1 h3
      refine ⟨h1, fun i i1 i2 hv => ?_, ?_⟩
      · by_cases z : i = k
        · subst z
          exact Int32.le_trans h1 (Classical.not_not.mp (fun y => c ⟨hv.1, y, hv.2⟩))
        · exact h2 i (by omega) (by omega) hv
      · rcases h3 with z | ⟨i, i1, i2, i3, i4⟩
        · exact Or.inl z
        · exact Or.inr ⟨i, by omega, by omega, i3, i4⟩
def fs1 (A : Rw) (u : Int32) (l : Nat) (b : Int32) : Int32 := if nI l &&& (u ^^^ (-1)) = 0 ∧ ¬ b ≤ cnt5 (u &&& (nI l ^^^ (-1))) ∧ ¬ qAny A (nI l) then cnt5 (u &&& (nI l ^^^ (-1))) else b
theorem fs_le {A : Rw} {u : Int32} {z : Int32} : ∀ m, foldF (fs1 A u) z m ≤ z ∧ (∀ i, i < m → (nI i &&& (u ^^^ (-1)) = 0 ∧ ¬ qAny A (nI i)) → foldF (fs1 A u) z m ≤ cnt5 (u &&& (nI i ^^^ (-1)))) ∧ (foldF (fs1 A u) z m = z ∨ ∃ i, i < m ∧ (nI i &&& (u ^^^ (-1)) = 0 ∧ ¬ qAny A (nI i)) ∧ foldF (fs1 A u) z m = cnt5 (u &&& (nI i ^^^ (-1)))) := by
  intro m
  induction m with
  | zero => exact ⟨Int32.le_refl _, fun i hi => by omega, Or.inl rfl⟩
  | succ m ih =>
    obtain ⟨h1, h2, h3⟩ := ih
    rw [foldF_s]
    generalize foldF (fs1 A u) z m = b at *
    by_cases c : nI m &&& (u ^^^ (-1)) = 0 ∧ ¬ b ≤ cnt5 (u &&& (nI m ^^^ (-1))) ∧ ¬ qAny A (nI m)
    · have ef : fs1 A u m b = cnt5 (u &&& (nI m ^^^ (-1))) := by unfold fs1; rw [if_pos c]
      rw [ef]
      have hlt := Int32.le_of_lt (Int32.not_le.mp c.2.1)
      refine ⟨Int32.le_trans hlt h1, fun i hi hv => ?_, Or.inr ⟨m, by omega, ⟨c.1, c.2.2⟩, rfl⟩⟩
      by_cases e : i = m
      · subst e; exact Int32.le_refl _
      · exact Int32.le_trans hlt (h2 i (by omega) hv)
    · have ef : fs1 A u m b = b := by unfold fs1; rw [if_neg c]
      rw [ef]
      refine ⟨h1, fun i hi hv => ?_, ?_⟩
      · by_cases e : i = m
        · subst e; exact Classical.not_not.mp (fun y => c ⟨hv.1, y, hv.2⟩)
        · exact h2 i (by omega) hv
      · rcases h3 with y | ⟨i, i1, i2, i3⟩
        · exact Or.inl y
        · exact Or.inr ⟨i, by omega, i2, i3⟩
theorem ups_rg {A : Rw} : rg (qUps A) 0 31 := by
  have key : ∀ n, n ≤ 5 → rg (foldF (up1 A) 0 n) 0 31 := by
    intro n
    induction n with
    | zero => intro _; show rg 0 0 31; exact ⟨by decide, by decide⟩
    | succ n ih =>
      intro hn
      rw [foldF_s]
      unfold up1 at *
      refine rg_or (ih (by omega)) ?_
      split
      · exact rg_sh (by omega)
      · exact ⟨by decide, by decide⟩
  exact key 5 (by omega)
theorem sub_fact : ∀ u i : Fin 32, nI i.val &&& (nI u.val ^^^ (-1)) = 0 → ∃ l : Fin 32, nI u.val &&& (nI i.val ^^^ (-1)) = nI l.val ∧ nI l.val &&& (nI u.val ^^^ (-1)) = 0 ∧ nI u.val &&& (nI l.val ^^^ (-1)) = nI i.val := by decide +kernel
theorem cnt_le : ∀ u : Fin 32, cnt5 (nI u.val) ≤ 5 := by decide +kernel
theorem few_eq {A : Rw} : foldF (fs1 A (qUps A)) (cnt5 (qUps A)) 32 = vFragile A := by
  obtain ⟨n, n1, n2, -, n3⟩ := rg_ex (ups_rg (A := A))
  unfold vFragile
  rw [n1]
  obtain ⟨a1, a2, a3⟩ := fs_le (A := A) (u := nI n) (z := cnt5 (nI n)) 32
  obtain ⟨b1, b2, b3⟩ := fgF_le (A := A) (u := nI n) 32 0 5
  have hn : n < 32 := by omega
  have none : ¬ qAny A 0 := by
    intro z
    have h0 : ∀ s : Fin 5, ¬ ((0 : Int32) >>> (nI s.val &&& 31)) &&& 1 = 1 := by decide +kernel
    rcases z with z | z | z | z | z
    · exact h0 0 z.1
    · exact h0 1 z.1
    · exact h0 2 z.1
    · exact h0 3 z.1
    · exact h0 4 z.1
  refine Int32.le_antisymm ?_ ?_
  · rcases b3 with z | ⟨i, i1, i2, i3, i4⟩
    · rw [z]; exact Int32.le_trans a1 (cnt_le ⟨n, hn⟩)
    · rw [i4]
      obtain ⟨l, l1, l2, l3⟩ := sub_fact ⟨n, hn⟩ ⟨i, by omega⟩ i3.1
      have := a2 l.val l.isLt ⟨l2, by rw [← l1]; exact i3.2⟩
      rw [l3] at this
      exact this
  · rcases a3 with z | ⟨i, i1, i2, i3⟩
    · rw [z]
      have hu : ∀ u : Fin 32, nI u.val &&& (nI u.val ^^^ (-1)) = 0 := by decide +kernel
      refine b2 n (by omega) (by omega) ⟨hu ⟨n, hn⟩, ?_⟩
      rw [hu ⟨n, hn⟩]; exact none
    · rw [i3]
      obtain ⟨l, l1, l2, l3⟩ := sub_fact ⟨n, hn⟩ ⟨i, by omega⟩ i2.1
      have := b2 l.val (by omega) (by have := l.isLt; omega) ⟨l2, by rw [l3]; exact i2.2⟩
      rw [l1]
      exact this
def w_X8_fewestStops_59 (M : CT) (G : Nat → PT) (Rp : RT) : PT := tIload 2 <| tIret Rp
def w_X8_fewestStops_53 (M : CT) (G : Nat → PT) (Rp : RT) : PT := tIinc 3 1 <| tGoto (G 12)
def w_X8_fewestStops_12 (M : CT) (G : Nat → PT) (Rp : RT) : PT := tIload 3 <| tConst 31 <| tIf2 (fun x y => y < x) (w_X8_fewestStops_59 M G Rp) <| tIload 1 <| tIload 3 <| tConst (-1) <| tBin (fun x y => x ^^^ y) <| tBin (fun x y => x &&& y) <| tFn 1 F_J6_bitCount_0f7a4 <| tIstore 4 <| tIload 3 <| tIload 1 <| tConst (-1) <| tBin (fun x y => x ^^^ y) <| tBin (fun x y => x &&& y) <| tIf (fun x => x ≠ 0) (w_X8_fewestStops_53 M G Rp) <| tIload 4 <| tIload 2 <| tIf2 (fun x y => y ≤ x) (w_X8_fewestStops_53 M G Rp) <| tAload 0 <| tIload 3 <| tFn 2 F_X8_hasElectable <| tIf (fun x => x ≠ 0) (w_X8_fewestStops_53 M G Rp) <| tIload 4 <| tIstore 2 <| w_X8_fewestStops_53 M G Rp
def w_X8_fewestStops_0 (M : CT) (G : Nat → PT) (Rp : RT) : PT := tAload 0 <| tFn 1 F_X10_whoIsUp <| tIstore 1 <| tIload 1 <| tFn 1 F_J6_bitCount_0f7a4 <| tIstore 2 <| tConst 0 <| tIstore 3 <| G 12
set_option maxRecDepth 20000 in
theorem b_X8_fewestStops_59 {Z : Zt} {d : Nat} {p : Program} {e : Env} {R : Room} {s : State} {m : MethodId} {args : Array Value} {below : List Frame} {meth : Method} {c : Code} {Rp : RT} (C : Cx Z (d + 5) jX8_fewestStops RX8 p R s m args meth c) : Sd Z jX8_fewestStops p e R s m args below meth c (MQ below (QcS Z Rp) args s 0 0 (fun a => Z.2.2.1 < a)) 59 (w_X8_fewestStops_59 (MS Z (d + 5)) (Gw Z 5 p e R s m args below meth c (MQ below (QcS Z Rp) args s 0 0 (fun a => Z.2.2.1 < a))) Rp) := by
  unfold w_X8_fewestStops_59
  refine s_iload_n (k := 2) C (by decide +kernel) ?_
  exact s_iret C rfl (by decide +kernel)
set_option maxRecDepth 20000 in
theorem b_X8_fewestStops_53 {Z : Zt} {d : Nat} {p : Program} {e : Env} {R : Room} {s : State} {m : MethodId} {args : Array Value} {below : List Frame} {meth : Method} {c : Code} {Rp : RT} (C : Cx Z (d + 5) jX8_fewestStops RX8 p R s m args meth c) : Sd Z jX8_fewestStops p e R s m args below meth c (MQ below (QcS Z Rp) args s 0 0 (fun a => Z.2.2.1 < a)) 53 (w_X8_fewestStops_53 (MS Z (d + 5)) (Gw Z 5 p e R s m args below meth c (MQ below (QcS Z Rp) args s 0 0 (fun a => Z.2.2.1 < a))) Rp) := by
  unfold w_X8_fewestStops_53
  refine s_iinc (n := 1) C (by decide +kernel) (by decide) ?_
  exact s_goto (off := (-44)) (tgt := 12) C (by decide +kernel) (by decide) (fun _ _ _ _ _ _ h => h)
set_option maxRecDepth 20000 in
theorem b_X8_fewestStops_12 {Z : Zt} {d : Nat} {p : Program} {e : Env} {R : Room} {s : State} {m : MethodId} {args : Array Value} {below : List Frame} {meth : Method} {c : Code} {Rp : RT} (C : Cx Z (d + 5) jX8_fewestStops RX8 p R s m args meth c) : Sd Z jX8_fewestStops p e R s m args below meth c (MQ below (QcS Z Rp) args s 0 0 (fun a => Z.2.2.1 < a)) 12 (w_X8_fewestStops_12 (MS Z (d + 5)) (Gw Z 5 p e R s m args below meth c (MQ below (QcS Z Rp) args s 0 0 (fun a => Z.2.2.1 < a))) Rp) := by
  unfold w_X8_fewestStops_12
  refine s_iload_n (k := 3) C (by decide +kernel) ?_
  refine s_bipush (n := 31) C (by decide +kernel) (by decide) ?_
  refine s_icmp_gt (off := 44) (tgt := 59) C (by decide +kernel) (by decide) (b_X8_fewestStops_59 C) ?_
  refine s_iload_n (k := 1) C (by decide +kernel) ?_
  refine s_iload_n (k := 3) C (by decide +kernel) ?_
  refine s_iconst (n := (-1)) C (by decide +kernel) (by decide) ?_
  refine s_ixor C (by decide +kernel) ?_
  refine s_iand C (by decide +kernel) ?_
  refine s_fnS C (j2 := jJ6_bitCount_0f7a4) (by decide +kernel) rfl w_6_38 w_3_74 w_1_15 w_3_75 (by decide +kernel) (fun _ _ _ _ _ h => f_J6_bitCount_0f7a4 h) ?_
  refine s_istore (k := 4) C (by decide +kernel) ?_
  refine s_iload_n (k := 3) C (by decide +kernel) ?_
  refine s_iload_n (k := 1) C (by decide +kernel) ?_
  refine s_iconst (n := (-1)) C (by decide +kernel) (by decide) ?_
  refine s_ixor C (by decide +kernel) ?_
  refine s_iand C (by decide +kernel) ?_
  refine s_if_ne (off := 20) (tgt := 53) C (by decide +kernel) (by decide) (b_X8_fewestStops_53 C) ?_
  refine s_iload (k := 4) C (by decide +kernel) ?_
  refine s_iload_n (k := 2) C (by decide +kernel) ?_
  refine s_icmp_ge (off := 14) (tgt := 53) C (by decide +kernel) (by decide) (b_X8_fewestStops_53 C) ?_
  refine s_aload_n (k := 0) C (by decide +kernel) ?_
  refine s_iload_n (k := 3) C (by decide +kernel) ?_
  refine s_fnS C (j2 := jX8_hasElectable) (by decide +kernel) rfl w_6_39 w_6_40 w_1_21 w_6_41 (by decide +kernel) (fun _ _ _ _ _ h => f_X8_hasElectable h) ?_
  refine s_if_ne (off := 6) (tgt := 53) C (by decide +kernel) (by decide) (b_X8_fewestStops_53 C) ?_
  refine s_iload (k := 4) C (by decide +kernel) ?_
  refine s_istore_n (k := 2) C (by decide +kernel) ?_
  exact (b_X8_fewestStops_53 C)
set_option maxRecDepth 20000 in
theorem b_X8_fewestStops_0 {Z : Zt} {d : Nat} {p : Program} {e : Env} {R : Room} {s : State} {m : MethodId} {args : Array Value} {below : List Frame} {meth : Method} {c : Code} {Rp : RT} (C : Cx Z (d + 5) jX8_fewestStops RX8 p R s m args meth c) : Sd Z jX8_fewestStops p e R s m args below meth c (MQ below (QcS Z Rp) args s 0 0 (fun a => Z.2.2.1 < a)) 0 (w_X8_fewestStops_0 (MS Z (d + 5)) (Gw Z 5 p e R s m args below meth c (MQ below (QcS Z Rp) args s 0 0 (fun a => Z.2.2.1 < a))) Rp) := by
  unfold w_X8_fewestStops_0
  refine s_aload_n (k := 0) C (by decide +kernel) ?_
  refine s_fnV C (j2 := jX10_whoIsUp) (cl := 10) (nf := 6) rfl rfl (by decide +kernel) rfl w_6_37 w_5_165 w_5_166 w_1_2 w_5_167 (by decide +kernel) (fun _ _ _ _ _ h => f_X10_whoIsUp h) (fun _ _ _ _ _ h => r_X10_whoIsUp h) ?_
  refine s_istore_n (k := 1) C (by decide +kernel) ?_
  refine s_iload_n (k := 1) C (by decide +kernel) ?_
  refine s_fnS C (j2 := jJ6_bitCount_0f7a4) (by decide +kernel) rfl w_6_38 w_3_74 w_1_15 w_3_75 (by decide +kernel) (fun _ _ _ _ _ h => f_J6_bitCount_0f7a4 h) ?_
  refine s_istore_n (k := 2) C (by decide +kernel) ?_
  refine s_iconst (n := 0) C (by decide +kernel) (by decide) ?_
  refine s_istore_n (k := 3) C (by decide +kernel) ?_
  exact (fun _ _ _ _ _ _ h => h)
theorem ms_X8_fewestStops {Z : Zt} {d : Nat} {S : Sh} {μ : Mi} {ρ : Mr} {Rp : RT} (a1 : Nat) (h : ∀ G : Nat → PT, (∀ (L st : List Value) (S : Sh) (q : Nat × Nat) (μ : Mi) (ρ : Mr), w_X8_fewestStops_12 (MS Z (d + 5)) G Rp L st S q μ ρ → G 12 L st S q μ ρ) → w_X8_fewestStops_0 (MS Z (d + 5)) G Rp [.ref a1, .null, .null, .null, .null] [] S (0, 0) μ ρ) : MS Z (d + 6) jX8_fewestStops [.ref a1] S μ ρ Rp :=
  MS_of [.ref a1, .null, .null, .null, .null] (by decide +kernel) rfl rfl (Nat.le_of_ble_eq_true rfl) rfl (fun p e R s m args below meth c C => b_X8_fewestStops_0 C _ _ _ _ _ _ (h _ (b_X8_fewestStops_12 C)))
def F_X8_fewestStops : FT := fun As S μ ρ k => match As with
  | [.ref a] => S.2 a = (10, 6) ∧ ∃ A : Rw, RR A a S μ ρ ∧ k (some (.int (vFragile A))) μ
  | _ => False
set_option maxHeartbeats 1000000 in
theorem f_X8_fewestStops {Z : Zt} {d : Nat} {As : List Value} {S : Sh} {μ : Mi} {ρ : Mr} {Rp : RT} (h : F_X8_fewestStops As S μ ρ (fun r μ' => Rp r S μ' ρ)) : MS Z (d + 6) jX8_fewestStops As S μ ρ Rp := by
  unfold F_X8_fewestStops at h
  split at h
  · rename_i a
    obtain ⟨a, hNa⟩ : ∃ n : Nat, n = a := ⟨a, rfl⟩
    subst hNa
    obtain ⟨h1, A, hR, h⟩ := h
    rw [← few_eq] at h
    refine ms_X8_fewestStops _ (fun G g12 => ?_)
    have hur := ups_rg (A := A)
    have loop : ∀ (j t : Nat) (v : Value), j + t = 32 → G 12 [.ref a, .int (qUps A), .int (foldF (fs1 A (qUps A)) (cnt5 (qUps A)) t), .int (nI t), v] [] S (0, 0) μ ρ := by
      intro j
      induction j with
      | zero =>
        intro t v ht
        obtain rfl : t = 32 := by omega
        apply g12
        simp only [w_X8_fewestStops_12, w_X8_fewestStops_59, tAload, tIload, nth, tGetI, tGetR, tConst, tLconst, tBin, tUn, tI2l, tAld, tAldR, tAlen, tIast, tBast, tZast, tAast, tIret, tZret, tVret, tAret, tIf, tIf2, tGoto, tIstore, tAstore, sset, tIinc, tDup, tDup2, tPop, tPutI, tPutZ, tPutR, tCallV, tCallS, popN, tFn, tCopy, tMax, tMin, tSw, swc, tRem, tObjI, Option.toList, List.nil_append, List.cons_append, okR, true_and, and_true, true_or, or_true, Nat.zero_le, ne_eq, not_false_eq_true, Nat.reduceEqDiff]
        exact ⟨fun _ => h, fun c => absurd (by decide) c⟩
      | succ j ih =>
        intro t v ht
        have nx := fun v => ih (t + 1) v (by omega)
        have e1 : ∀ b, fs1 A (qUps A) t b = if nI t &&& (qUps A ^^^ (-1)) = 0 ∧ ¬ b ≤ cnt5 (qUps A &&& (nI t ^^^ (-1))) ∧ ¬ qAny A (nI t) then cnt5 (qUps A &&& (nI t ^^^ (-1))) else b := fun _ => rfl
        rw [foldF_s, e1] at nx
        apply g12
        simp only [w_X8_fewestStops_12, w_X8_fewestStops_53, tAload, tIload, nth, tGetI, tGetR, tConst, tLconst, tBin, tUn, tI2l, tAld, tAldR, tAlen, tIast, tBast, tZast, tAast, tIret, tZret, tVret, tAret, tIf, tIf2, tGoto, tIstore, tAstore, sset, tIinc, tDup, tDup2, tPop, tPutI, tPutZ, tPutR, tCallV, tCallS, popN, tFn, tCopy, tMax, tMin, tSw, swc, tRem, tObjI, Option.toList, List.nil_append, List.cons_append, okR, true_and, and_true, true_or, or_true, Nat.zero_le, ne_eq, not_false_eq_true, Nat.reduceEqDiff, F_J6_bitCount_0f7a4, F_X8_hasElectable, b2_z, h1, nI_s1]
        refine ⟨fun z => ?_, fun _ => ⟨?_, fun c => ?_, fun c => ⟨fun c2 => ?_, fun c2 => ⟨A, hR, fun c3 => ?_, fun c3 => ?_⟩⟩⟩⟩
        · rw [show (31 : Int32) = nI 31 from rfl, nI_ltI (by decide) (by omega)] at z; omega
        · rw [Int32.and_comm]; exact rg_and hur
        · rw [if_neg (fun z => c z.1)] at nx; exact nx _
        · rw [if_neg (fun z => z.2.1 c2)] at nx; exact nx _
        · rw [if_neg (fun z => c3 z.2.2)] at nx; exact nx _
        · rw [if_pos ⟨Classical.not_not.mp c, c2, Classical.not_not.mp c3⟩] at nx; exact nx _
    simp only [w_X8_fewestStops_0, tAload, tIload, nth, tGetI, tGetR, tConst, tLconst, tBin, tUn, tI2l, tAld, tAldR, tAlen, tIast, tBast, tZast, tAast, tIret, tZret, tVret, tAret, tIf, tIf2, tGoto, tIstore, tAstore, sset, tIinc, tDup, tDup2, tPop, tPutI, tPutZ, tPutR, tCallV, tCallS, popN, tFn, tCopy, tMax, tMin, tSw, swc, tRem, tObjI, Option.toList, List.nil_append, List.cons_append, okR, true_and, and_true, true_or, or_true, Nat.zero_le, ne_eq, not_false_eq_true, Nat.reduceEqDiff, F_X10_whoIsUp, F_J6_bitCount_0f7a4, h1]
    exact ⟨A, hR, hur, loop 32 0 _ rfl⟩
  · exact h.elim
