/-! ===== the class: entries are taken ===== -/
/-- all but two rows stay -/
def kp2 (a b : Nat) (μ μ' : Mi) : Prop := ∀ y : Nat, y ≠ a → y ≠ b → μ' y = μ y
def apt (q a : Nat) : Prop := q + 1 < a ∨ a + 8 ≤ q
theorem tksF_s {g : Rw} {s n k : Nat} {A : Rw} : tksF g s (n + 1) k A = tksF g s n (k + 1) (qTk1 A g s k) := rfl
def w_X7_takeEntries_99 (M : CT) (G : Nat → PT) (Rp : RT) : PT := tVret Rp
def w_X7_takeEntries_93 (M : CT) (G : Nat → PT) (Rp : RT) : PT := tIinc 2 1 <| tGoto (G 2)
def w_X7_takeEntries_73 (M : CT) (G : Nat → PT) (Rp : RT) : PT := tIload 3 <| tAload 0 <| tGetI 7 18 7 <| tConst 1 <| tBin (fun x y => x + y) <| tIf2 (fun x y => x ≠ y) (w_X7_takeEntries_93 M G Rp) <| tAload 0 <| tAload 1 <| tGetR 2 10 9 <| tIload 2 <| tAld 20 <| tFn 2 F_X7_append <| w_X7_takeEntries_93 M G Rp
def w_X7_takeEntries_33 (M : CT) (G : Nat → PT) (Rp : RT) : PT := tIload 3 <| tAload 0 <| tGetI 7 18 7 <| tIf2 (fun x y => y < x) (w_X7_takeEntries_73 M G Rp) <| tAload 0 <| tGetR 7 18 12 <| tIload 3 <| tAld 20 <| tFn 1 F_X0_termOf <| tAload 1 <| tGetR 2 10 9 <| tIload 2 <| tAld 20 <| tFn 1 F_X0_termOf <| tIf2 (fun x y => x = y) (w_X7_takeEntries_73 M G Rp) <| tAload 0 <| tIload 3 <| tConst 1 <| tBin (fun x y => x - y) <| tPutI 7 18 7 <| tAload 0 <| tFn 1 F_X7_findMembers <| w_X7_takeEntries_73 M G Rp
def w_X7_takeEntries_2 (M : CT) (G : Nat → PT) (Rp : RT) : PT := tIload 2 <| tAload 1 <| tGetI 2 10 6 <| tIf2 (fun x y => y ≤ x) (w_X7_takeEntries_99 M G Rp) <| tAload 1 <| tGetI 2 10 4 <| tConst 1 <| tBin (fun x y => x + y) <| tIload 2 <| tBin (fun x y => x + y) <| tIstore 3 <| tIload 3 <| tAload 0 <| tGetR 7 18 16 <| tGetI 6 5 0 <| tIf2 (fun x y => y < x) (w_X7_takeEntries_33 M G Rp) <| tGoto (w_X7_takeEntries_93 M G Rp)
def w_X7_takeEntries_0 (M : CT) (G : Nat → PT) (Rp : RT) : PT := tConst 0 <| tIstore 2 <| G 2
set_option maxRecDepth 20000 in
theorem b_X7_takeEntries_99 {Z : Zt} {d : Nat} {p : Program} {e : Env} {R : Room} {s : State} {m : MethodId} {args : Array Value} {below : List Frame} {meth : Method} {c : Code} {Rp : RT} (C : Cx Z (d + 2) jX7_takeEntries RX7 p R s m args meth c) : Sd Z jX7_takeEntries p e R s m args below meth c (MQ below (QcS Z Rp) args s 0 0 (fun a => Z.2.2.1 < a)) 99 (w_X7_takeEntries_99 (MS Z (d + 2)) (Gw Z 4 p e R s m args below meth c (MQ below (QcS Z Rp) args s 0 0 (fun a => Z.2.2.1 < a))) Rp) := by
  unfold w_X7_takeEntries_99
  exact s_vret C rfl (by decide +kernel)
set_option maxRecDepth 20000 in
theorem b_X7_takeEntries_93 {Z : Zt} {d : Nat} {p : Program} {e : Env} {R : Room} {s : State} {m : MethodId} {args : Array Value} {below : List Frame} {meth : Method} {c : Code} {Rp : RT} (C : Cx Z (d + 2) jX7_takeEntries RX7 p R s m args meth c) : Sd Z jX7_takeEntries p e R s m args below meth c (MQ below (QcS Z Rp) args s 0 0 (fun a => Z.2.2.1 < a)) 93 (w_X7_takeEntries_93 (MS Z (d + 2)) (Gw Z 4 p e R s m args below meth c (MQ below (QcS Z Rp) args s 0 0 (fun a => Z.2.2.1 < a))) Rp) := by
  unfold w_X7_takeEntries_93
  refine s_iinc (n := 1) C (by decide +kernel) (by decide) ?_
  exact s_goto (off := (-94)) (tgt := 2) C (by decide +kernel) (by decide) (fun _ _ _ _ _ _ h => h)
set_option maxRecDepth 20000 in
theorem b_X7_takeEntries_73 {Z : Zt} {d : Nat} {p : Program} {e : Env} {R : Room} {s : State} {m : MethodId} {args : Array Value} {below : List Frame} {meth : Method} {c : Code} {Rp : RT} (C : Cx Z (d + 2) jX7_takeEntries RX7 p R s m args meth c) : Sd Z jX7_takeEntries p e R s m args below meth c (MQ below (QcS Z Rp) args s 0 0 (fun a => Z.2.2.1 < a)) 73 (w_X7_takeEntries_73 (MS Z (d + 2)) (Gw Z 4 p e R s m args below meth c (MQ below (QcS Z Rp) args s 0 0 (fun a => Z.2.2.1 < a))) Rp) := by
  unfold w_X7_takeEntries_73
  refine s_iload_n (k := 3) C (by decide +kernel) ?_
  refine s_aload_n (k := 0) C (by decide +kernel) ?_
  refine s_getI C w_2_2 (by decide +kernel) rfl ?_
  refine s_iconst (n := 1) C (by decide +kernel) (by decide) ?_
  refine s_iadd C (by decide +kernel) ?_
  refine s_icmp_ne (off := 13) (tgt := 93) C (by decide +kernel) (by decide) (b_X7_takeEntries_93 C) ?_
  refine s_aload_n (k := 0) C (by decide +kernel) ?_
  refine s_aload_n (k := 1) C (by decide +kernel) ?_
  refine s_getR C w_1_94 (by decide +kernel) rfl ?_
  refine s_iload_n (k := 2) C (by decide +kernel) ?_
  refine s_iald C (by decide +kernel) ?_
  refine s_fnV C (j2 := jX7_append) (cl := 7) (nf := 18) rfl rfl (by decide +kernel) rfl w_4_104 w_3_155 w_3_156 w_1_5 w_3_157 (by decide +kernel) (fun _ _ _ _ _ h => f_X7_append h) (fun _ _ _ _ _ h => r_X7_append h) ?_
  exact (b_X7_takeEntries_93 C)
set_option maxRecDepth 20000 in
theorem b_X7_takeEntries_33 {Z : Zt} {d : Nat} {p : Program} {e : Env} {R : Room} {s : State} {m : MethodId} {args : Array Value} {below : List Frame} {meth : Method} {c : Code} {Rp : RT} (C : Cx Z (d + 2) jX7_takeEntries RX7 p R s m args meth c) : Sd Z jX7_takeEntries p e R s m args below meth c (MQ below (QcS Z Rp) args s 0 0 (fun a => Z.2.2.1 < a)) 33 (w_X7_takeEntries_33 (MS Z (d + 2)) (Gw Z 4 p e R s m args below meth c (MQ below (QcS Z Rp) args s 0 0 (fun a => Z.2.2.1 < a))) Rp) := by
  unfold w_X7_takeEntries_33
  refine s_iload_n (k := 3) C (by decide +kernel) ?_
  refine s_aload_n (k := 0) C (by decide +kernel) ?_
  refine s_getI C w_2_2 (by decide +kernel) rfl ?_
  refine s_icmp_gt (off := 35) (tgt := 73) C (by decide +kernel) (by decide) (b_X7_takeEntries_73 C) ?_
  refine s_aload_n (k := 0) C (by decide +kernel) ?_
  refine s_getR C w_2_20 (by decide +kernel) rfl ?_
  refine s_iload_n (k := 3) C (by decide +kernel) ?_
  refine s_iald C (by decide +kernel) ?_
  refine s_fnS C (j2 := jX0_termOf) (by decide +kernel) rfl w_4_103 w_3_175 w_1_9 w_3_176 (by decide +kernel) (fun _ _ _ _ _ h => f_X0_termOf h) ?_
  refine s_aload_n (k := 1) C (by decide +kernel) ?_
  refine s_getR C w_1_94 (by decide +kernel) rfl ?_
  refine s_iload_n (k := 2) C (by decide +kernel) ?_
  refine s_iald C (by decide +kernel) ?_
  refine s_fnS C (j2 := jX0_termOf) (by decide +kernel) rfl w_4_103 w_3_175 w_1_9 w_3_176 (by decide +kernel) (fun _ _ _ _ _ h => f_X0_termOf h) ?_
  refine s_icmp_eq (off := 14) (tgt := 73) C (by decide +kernel) (by decide) (b_X7_takeEntries_73 C) ?_
  refine s_aload_n (k := 0) C (by decide +kernel) ?_
  refine s_iload_n (k := 3) C (by decide +kernel) ?_
  refine s_iconst (n := 1) C (by decide +kernel) (by decide) ?_
  refine s_isub C (by decide +kernel) ?_
  refine s_putI C w_2_2 (by decide +kernel) rfl (Or.inl rfl) ?_
  refine s_aload_n (k := 0) C (by decide +kernel) ?_
  refine s_fnV C (j2 := jX7_findMembers) (cl := 7) (nf := 18) rfl rfl (by decide +kernel) rfl w_2_95 w_2_96 w_2_97 w_1_5 w_2_98 (by decide +kernel) (fun _ _ _ _ _ h => f_X7_findMembers h) (fun _ _ _ _ _ h => r_X7_findMembers h) ?_
  exact (b_X7_takeEntries_73 C)
set_option maxRecDepth 20000 in
theorem b_X7_takeEntries_2 {Z : Zt} {d : Nat} {p : Program} {e : Env} {R : Room} {s : State} {m : MethodId} {args : Array Value} {below : List Frame} {meth : Method} {c : Code} {Rp : RT} (C : Cx Z (d + 2) jX7_takeEntries RX7 p R s m args meth c) : Sd Z jX7_takeEntries p e R s m args below meth c (MQ below (QcS Z Rp) args s 0 0 (fun a => Z.2.2.1 < a)) 2 (w_X7_takeEntries_2 (MS Z (d + 2)) (Gw Z 4 p e R s m args below meth c (MQ below (QcS Z Rp) args s 0 0 (fun a => Z.2.2.1 < a))) Rp) := by
  unfold w_X7_takeEntries_2
  refine s_iload_n (k := 2) C (by decide +kernel) ?_
  refine s_aload_n (k := 1) C (by decide +kernel) ?_
  refine s_getI C w_1_83 (by decide +kernel) rfl ?_
  refine s_icmp_ge (off := 92) (tgt := 99) C (by decide +kernel) (by decide) (b_X7_takeEntries_99 C) ?_
  refine s_aload_n (k := 1) C (by decide +kernel) ?_
  refine s_getI C w_1_73 (by decide +kernel) rfl ?_
  refine s_iconst (n := 1) C (by decide +kernel) (by decide) ?_
  refine s_iadd C (by decide +kernel) ?_
  refine s_iload_n (k := 2) C (by decide +kernel) ?_
  refine s_iadd C (by decide +kernel) ?_
  refine s_istore_n (k := 3) C (by decide +kernel) ?_
  refine s_iload_n (k := 3) C (by decide +kernel) ?_
  refine s_aload_n (k := 0) C (by decide +kernel) ?_
  refine s_getR C w_2_32 (by decide +kernel) rfl ?_
  refine s_getI C w_1_162 (by decide +kernel) rfl ?_
  refine s_icmp_gt (off := 6) (tgt := 33) C (by decide +kernel) (by decide) (b_X7_takeEntries_33 C) ?_
  exact s_goto (off := 63) (tgt := 93) C (by decide +kernel) (by decide) (b_X7_takeEntries_93 C)
set_option maxRecDepth 20000 in
theorem b_X7_takeEntries_0 {Z : Zt} {d : Nat} {p : Program} {e : Env} {R : Room} {s : State} {m : MethodId} {args : Array Value} {below : List Frame} {meth : Method} {c : Code} {Rp : RT} (C : Cx Z (d + 2) jX7_takeEntries RX7 p R s m args meth c) : Sd Z jX7_takeEntries p e R s m args below meth c (MQ below (QcS Z Rp) args s 0 0 (fun a => Z.2.2.1 < a)) 0 (w_X7_takeEntries_0 (MS Z (d + 2)) (Gw Z 4 p e R s m args below meth c (MQ below (QcS Z Rp) args s 0 0 (fun a => Z.2.2.1 < a))) Rp) := by
  unfold w_X7_takeEntries_0
  refine s_iconst (n := 0) C (by decide +kernel) (by decide) ?_
  refine s_istore_n (k := 2) C (by decide +kernel) ?_
  exact (fun _ _ _ _ _ _ h => h)
theorem ms_X7_takeEntries {Z : Zt} {d : Nat} {S : Sh} {μ : Mi} {ρ : Mr} {Rp : RT} (a0 : Nat) (a1 : Nat) (h : ∀ G : Nat → PT, (∀ (L st : List Value) (S : Sh) (q : Nat × Nat) (μ : Mi) (ρ : Mr), w_X7_takeEntries_2 (MS Z (d + 2)) G Rp L st S q μ ρ → G 2 L st S q μ ρ) → w_X7_takeEntries_0 (MS Z (d + 2)) G Rp [.ref a0, .ref a1, .null, .null] [] S (0, 0) μ ρ) : MS Z (d + 3) jX7_takeEntries [.ref a0, .ref a1] S μ ρ Rp :=
  MS_of [.ref a0, .ref a1, .null, .null] (by decide +kernel) rfl rfl (Nat.le_of_ble_eq_true rfl) rfl (fun p e R s m args below meth c C => b_X7_takeEntries_0 C _ _ _ _ _ _ (h _ (b_X7_takeEntries_2 C)))
def F_X7_takeEntries : FT := fun As S μ ρ k => match As with
  | [.ref a, .ref q] => S.2 a = (7, 18) ∧ StS S ρ a ∧ S.2 q = (2, 10) ∧ S.2 (q + 1) = (20, 6) ∧ ρ q 9 = q + 1 ∧ apt q a ∧ ∃ (A g : Rw) (s b n : Nat) (f : Int32), s < 5 ∧ St A s a μ ∧ MsR g f q μ ∧ g 3 = 2 ∧ g 4 = nI b ∧ g 6 = nI n ∧ n ≤ 3 ∧ b + n ≤ 120 ∧ (b : Int) ≤ (A (514 * s + 4)).toInt ∧ ∀ μ', St (tksF g s n 0 A) s a μ' → kp2 a (a + 1) μ μ' → k none μ'
  | _ => False
theorem r_X7_takeEntries {As S μ ρ k} (h : F_X7_takeEntries As S μ ρ k) : ∃ a As', As = Value.ref a :: As' ∧ S.2 a = (7, 18) := by
  unfold F_X7_takeEntries at h
  split at h
  · exact ⟨_, _, rfl, h.1⟩
  · exact h.elim
set_option maxHeartbeats 1000000 in
theorem f_X7_takeEntries {Z : Zt} {d : Nat} {As : List Value} {S : Sh} {μ : Mi} {ρ : Mr} {Rp : RT} (h : F_X7_takeEntries As S μ ρ (fun r μ' => Rp r S μ' ρ)) : MS Z (d + 3) jX7_takeEntries As S μ ρ Rp := by
  unfold F_X7_takeEntries at h
  split at h
  · rename_i a q
    obtain ⟨a, hNa⟩ : ∃ n : Nat, n = a := ⟨a, rfl⟩
    subst hNa
    obtain ⟨q, hNq⟩ : ∃ n : Nat, n = q := ⟨q, rfl⟩
    subst hNq
    obtain ⟨h1, h2, h3, h4, h5, h6, A, g, s, b, n, f, hs, hSt, hM, k3, kb, kn, kn3, kbn, kl, h⟩ := h
    have h2' := h2
    unfold StS at h2
    have hq1 : q ≠ a ∧ q ≠ a + 1 ∧ q + 1 ≠ a ∧ q + 1 ≠ a + 1 := by
      unfold apt at h6
      omega
    refine ms_X7_takeEntries _ _ (fun G g2 => ?_)
    have loop : ∀ (j k : Nat) (B : Rw) (ν : Mi) (v : Value), j + k = n → St B s a ν → (∀ y : Nat, y ≠ a → y ≠ a + 1 → ν y = μ y) → ((b + k : Nat) : Int) ≤ (B (514 * s + 4)).toInt →
        (∀ ν', St (tksF g s j k B) s a ν' → (∀ y : Nat, y ≠ a → y ≠ a + 1 → ν' y = μ y) → Rp none S ν' ρ) → G 2 [.ref a, .ref q, .int (nI k), v] [] S (0, 0) ν ρ := by
      intro j
      induction j with
      | zero =>
        intro k B ν v hk hB hf hl hR
        have e6 : ν q 6 = nI n := by rw [hf q hq1.1 hq1.2.1, hM.1.2.2.2.2.2.2.1, kn]
        apply g2
        simp only [w_X7_takeEntries_2, w_X7_takeEntries_99, tAload, tIload, nth, tGetI, tGetR, tConst, tLconst, tBin, tUn, tI2l, tAld, tAldR, tAlen, tIast, tBast, tZast, tAast, tIret, tZret, tVret, tAret, tIf, tIf2, tGoto, tIstore, tAstore, sset, tIinc, tDup, tDup2, tPop, tPutI, tPutZ, tPutR, tCallV, tCallS, popN, tFn, tCopy, tMax, tMin, tSw, swc, tRem, tObjI, Option.toList, List.nil_append, List.cons_append, okR, true_and, and_true, true_or, or_true, Nat.zero_le, ne_eq, not_false_eq_true, Nat.reduceEqDiff, h1, h2, h3, e6]
        refine ⟨fun _ => hR ν hB hf, fun c => ?_⟩
        rw [nI_leI (by omega) (by omega)] at c
        omega
      | succ j ih =>
        intro k B ν v hk hB hf hl hR
        rw [tksF_s] at hR
        have e6 : ν q 6 = nI n := by rw [hf q hq1.1 hq1.2.1, hM.1.2.2.2.2.2.2.1, kn]
        have e4 : ν q 4 = nI b := by rw [hf q hq1.1 hq1.2.1, hM.1.2.2.2.2.1, kb]
        have pl : nI b + 1 + nI k = nI (b + 1 + k) := by rw [nI_s1, nI_add]
        obtain ⟨l, l1, l2, -, l3⟩ := rg_ex hB.2.1.2.1
        obtain ⟨sn, s1, s2, -, s3⟩ := rg_ex hB.2.1.2.2.1
        have hsl := hB.2.1.2.2.2.1
        rw [l1, nI_toInt l2, s1, nI_toInt s2] at hsl
        rw [l1, nI_toInt l2] at hl
        have f93 : ∀ (C : Rw) (ν' : Mi), St C s a ν' → (∀ y : Nat, y ≠ a → y ≠ a + 1 → ν' y = μ y) → ((b + k + 1 : Nat) : Int) ≤ (C (514 * s + 4)).toInt → (∀ ν'', St (tksF g s j (k + 1) C) s a ν'' → (∀ y : Nat, y ≠ a → y ≠ a + 1 → ν'' y = μ y) → Rp none S ν'' ρ) →
            w_X7_takeEntries_93 (MS Z (d + 2)) G Rp [.ref a, .ref q, .int (nI k), .int (nI (b + 1 + k))] [] S (0, 0) ν' ρ := by
          intro C ν' q1 q2 q3 q4
          simp only [w_X7_takeEntries_93, tAload, tIload, nth, tGetI, tGetR, tConst, tLconst, tBin, tUn, tI2l, tAld, tAldR, tAlen, tIast, tBast, tZast, tAast, tIret, tZret, tVret, tAret, tIf, tIf2, tGoto, tIstore, tAstore, sset, tIinc, tDup, tDup2, tPop, tPutI, tPutZ, tPutR, tCallV, tCallS, popN, tFn, tCopy, tMax, tMin, tSw, swc, tRem, tObjI, Option.toList, List.nil_append, List.cons_append, okR, true_and, and_true, true_or, or_true, Nat.zero_le, ne_eq, not_false_eq_true, Nat.reduceEqDiff, nI_s1]
          exact ih (k + 1) C ν' _ (by omega) q1 q2 (by omega) q4
        have f73 : ∀ (C : Rw) (ν' : Mi) (m : Nat), St C s a ν' → (∀ y : Nat, y ≠ a → y ≠ a + 1 → ν' y = μ y) → C (514 * s + 4) = nI m → b + k ≤ m → m ≤ 120 → (∀ ν'', St (tksF g s j (k + 1) (if C (514 * s + 4) < nI (b + 1 + k) then qPut C s (g (9 + 4 * k)) (g (9 + 4 * k + 1)) (g (9 + 4 * k + 2)) (g (9 + 4 * k + 3)) else C)) s a ν'' → (∀ y : Nat, y ≠ a → y ≠ a + 1 → ν'' y = μ y) → Rp none S ν'' ρ) →
            w_X7_takeEntries_73 (MS Z (d + 2)) G Rp [.ref a, .ref q, .int (nI k), .int (nI (b + 1 + k))] [] S (0, 0) ν' ρ := by
          intro C ν' m q1 q2 q3 q4 q5 q6
          have e7 : ν' a 7 = nI m := by rw [q1.1.2.2.2.2.2.2.2.1, q3]
          have en := hM.2.2.1 k3 k (by rw [kn, nI_clamp (by omega)]; omega) (by omega)
          have ev : ν' (q + 1) k = μ (q + 1) k := by rw [q2 (q + 1) hq1.2.2.1 hq1.2.2.2]
          rw [q3] at q6
          simp only [w_X7_takeEntries_73, tAload, tIload, nth, tGetI, tGetR, tConst, tLconst, tBin, tUn, tI2l, tAld, tAldR, tAlen, tIast, tBast, tZast, tAast, tIret, tZret, tVret, tAret, tIf, tIf2, tGoto, tIstore, tAstore, sset, tIinc, tDup, tDup2, tPop, tPutI, tPutZ, tPutR, tCallV, tCallS, popN, tFn, tCopy, tMax, tMin, tSw, swc, tRem, tObjI, Option.toList, List.nil_append, List.cons_append, okR, true_and, and_true, true_or, or_true, Nat.zero_le, ne_eq, not_false_eq_true, Nat.reduceEqDiff, F_X7_append, h1, h2, h2', h3, h4, h5, e7, nI_s1, true_and, Decidable.not_not]
          rw [nI_eq (by omega) (by omega)]
          refine ⟨fun c => ?_, fun c => ⟨inb_nI (by omega) (by decide), ?_, ?_⟩⟩
          · rw [if_neg (by rw [nI_ltI (by omega) (by omega)]; omega)] at q6
            exact f93 C ν' q1 q2 (by rw [q3, nI_toInt (by omega)]; omega) q6
          · exact (rg_nI (by omega)).mpr ⟨by omega, by omega⟩
          · rw [if_pos (by rw [nI_ltI (by omega) (by omega)]; omega)] at q6
            rw [nI_clamp (by omega), ev]
            refine f93 _ _ (St_put hs q1 q3 (by omega) ⟨en.1.1, en.1.2.1, en.1.2.2.1, en.1.2.2.2⟩ en.2) (fun y y1 y2 => by rw [cApp_ne y1 y2]; exact q2 y y1 y2) ?_ q6
            rw [qPut_4 q3, nI_toInt (by omega)]
            omega
        apply g2
        simp only [w_X7_takeEntries_2, w_X7_takeEntries_99, tAload, tIload, nth, tGetI, tGetR, tConst, tLconst, tBin, tUn, tI2l, tAld, tAldR, tAlen, tIast, tBast, tZast, tAast, tIret, tZret, tVret, tAret, tIf, tIf2, tGoto, tIstore, tAstore, sset, tIinc, tDup, tDup2, tPop, tPutI, tPutZ, tPutR, tCallV, tCallS, popN, tFn, tCopy, tMax, tMin, tSw, swc, tRem, tObjI, Option.toList, List.nil_append, List.cons_append, okR, true_and, and_true, true_or, or_true, Nat.zero_le, ne_eq, not_false_eq_true, Nat.reduceEqDiff, h1, h2, h3, e6, e4, pl]
        have e5 : ν (a + 5) 0 = nI sn := by rw [hB.1.2.2.2.2.2.2.2.2.2.1, s1]
        have e7 : ν a 7 = nI l := by rw [hB.1.2.2.2.2.2.2.2.1, l1]
        refine ⟨fun c => ?_, fun c => ⟨fun c1 => ?_, fun c1 => ?_⟩⟩
        · rw [nI_leI (by omega) (by omega)] at c; omega
        · rw [e5, nI_ltI (by omega) (by omega)] at c1
          have tk : qTk1 B g s k = (let A1 := if nI (b + 1 + k) ≤ B (514 * s + 4) ∧ ¬ B (514 * s + 30 + 4 * (b + 1 + k)) = g (9 + 4 * k) then up B (514 * s + 4) (nI (b + 1 + k - 1)) else B
              if A1 (514 * s + 4) < nI (b + 1 + k) then qPut A1 s (g (9 + 4 * k)) (g (9 + 4 * k + 1)) (g (9 + 4 * k + 2)) (g (9 + 4 * k + 3)) else A1) := by
            unfold qTk1
            rw [kb, nI_clamp (by omega)]
            simp only []
            rw [if_neg (by rw [s1, nI_leI (by omega) (by omega)]; omega)]
          rw [tk] at hR
          simp only [] at hR
          simp only [w_X7_takeEntries_33, tAload, tIload, nth, tGetI, tGetR, tConst, tLconst, tBin, tUn, tI2l, tAld, tAldR, tAlen, tIast, tBast, tZast, tAast, tIret, tZret, tVret, tAret, tIf, tIf2, tGoto, tIstore, tAstore, sset, tIinc, tDup, tDup2, tPop, tPutI, tPutZ, tPutR, tCallV, tCallS, popN, tFn, tCopy, tMax, tMin, tSw, swc, tRem, tObjI, Option.toList, List.nil_append, List.cons_append, okR, true_and, and_true, true_or, or_true, Nat.zero_le, ne_eq, not_false_eq_true, Nat.reduceEqDiff, F_X0_termOf, F_X7_findMembers, h1, h2, h2', h3, h4, h5, e7]
          rw [nI_ltI (by omega) (by omega)]
          refine ⟨fun c2 => ?_, fun c2 => ⟨inb_nI (by omega) (by decide), inb_nI (by omega) (by decide), fun c3 => ?_, fun c3 => ?_⟩⟩
          · rw [if_neg (show ¬ (nI (b + 1 + k) ≤ B (514 * s + 4) ∧ ¬ B (514 * s + 30 + 4 * (b + 1 + k)) = g (9 + 4 * k)) from fun z => absurd z.1 (by rw [l1, nI_leI (by omega) (by omega)]; omega))] at hR
            exact f73 B ν l hB hf l1 (by omega) (by omega) hR
          · have en := hM.2.2.1 k3 k (by rw [kn, nI_clamp (by omega)]; omega) (by omega)
            have el := hB.2.2.2.1 (b + 1 + k) (by rw [s1, nI_clamp (by omega)]; omega) (by rw [l1, nI_clamp (by omega)]; omega)
            rw [nI_clamp (by omega), nI_clamp (by omega), hf (q + 1) hq1.2.2.1 hq1.2.2.2, en.1.1, el.1.1] at c3
            rw [if_neg (show ¬ (nI (b + 1 + k) ≤ B (514 * s + 4) ∧ ¬ B (514 * s + 30 + 4 * (b + 1 + k)) = g (9 + 4 * k)) from fun z => z.2 c3)] at hR
            exact f73 B ν l hB hf l1 (by omega) (by omega) hR
          · have en := hM.2.2.1 k3 k (by rw [kn, nI_clamp (by omega)]; omega) (by omega)
            have el := hB.2.2.2.1 (b + 1 + k) (by rw [s1, nI_clamp (by omega)]; omega) (by rw [l1, nI_clamp (by omega)]; omega)
            rw [nI_clamp (by omega), nI_clamp (by omega), hf (q + 1) hq1.2.2.1 hq1.2.2.2, en.1.1, el.1.1] at c3
            rw [if_pos (show nI (b + 1 + k) ≤ B (514 * s + 4) ∧ ¬ B (514 * s + 30 + 4 * (b + 1 + k)) = g (9 + 4 * k) from ⟨by rw [l1, nI_leI (by omega) (by omega)]; omega, c3⟩)] at hR
            have em : nI (b + 1 + k) - 1 = nI (b + 1 + k - 1) := by rw [show (1 : Int32) = nI 1 from rfl, pk_sub (by omega)]
            rw [em, upI_at]
            simp (disch := omega) only [upI_ne]
            refine ⟨(rg_nI (by omega)).mpr ⟨by omega, by omega⟩, by rw [e5, nI_toInt (by omega)]; omega, ?_⟩
            rw [nI_clamp (by omega)]
            refine f73 _ _ (b + 1 + k - 1) (St_cut hs hB (n := b + 1 + k - 1) (by rw [s1, nI_toInt s2]; omega) (by rw [l1, nI_toInt l2]; omega) rfl) (fun y y1 y2 => by rw [cSet_ne y1, upI_ne y1]; exact hf y y1 y2) up_at (by omega) (by omega) hR
        · rw [e5, nI_ltI (by omega) (by omega)] at c1
          have tk : qTk1 B g s k = B := by
            unfold qTk1
            rw [kb, nI_clamp (by omega)]
            simp only []
            rw [if_pos (by rw [s1, nI_leI (by omega) (by omega)]; omega)]
          rw [tk] at hR
          exact f93 B ν hB hf (by rw [l1, nI_toInt l2]; omega) hR
    simp only [w_X7_takeEntries_0, tAload, tIload, nth, tGetI, tGetR, tConst, tLconst, tBin, tUn, tI2l, tAld, tAldR, tAlen, tIast, tBast, tZast, tAast, tIret, tZret, tVret, tAret, tIf, tIf2, tGoto, tIstore, tAstore, sset, tIinc, tDup, tDup2, tPop, tPutI, tPutZ, tPutR, tCallV, tCallS, popN, tFn, tCopy, tMax, tMin, tSw, swc, tRem, tObjI, Option.toList, List.nil_append, List.cons_append, okR, true_and, and_true, true_or, or_true, Nat.zero_le, ne_eq, not_false_eq_true, Nat.reduceEqDiff]
    exact loop n 0 A μ _ (by omega) hSt (fun _ _ _ => rfl) kl h
  · exact h.elim
