/-! ===== the class: a message is heard ===== -/
def Mg (A g : Rw) (w q : Nat) (μ : Mi) (ρ : Mr) (s f : Nat) : Prop := q = ρ (w + 3) 60 ∧ MsR g (A 4514) q μ ∧ g 0 = nI f ∧ f < 5 ∧ g 1 = nI s ∧ ¬ s = f
theorem Mg_at {A g : Rw} {w q s f : Nat} {S : Sh} {μ : Mi} {ρ : Mr} (h : Mg A g w q μ ρ s f) (hW : WOK w S ρ) : (∃ j, j ≤ 60 ∧ q = w + 6 + 2 * j) ∧ S.2 q = (2, 10) ∧ S.2 (q + 1) = (20, 6) ∧ ρ q 9 = q + 1 := by
  obtain ⟨j, j1, j2, j3, j4, j5⟩ := WOK_box hW (i := 60) (by omega)
  rw [← h.1] at j2 j3 j4 j5
  exact ⟨⟨j, j1, j2⟩, j3, j4, j5⟩
theorem post_keep {A : Rw} {w s t q q' : Nat} {S : Sh} {μ μ1 : Mi} {ρ : Mr} (h : R0 A w S μ ρ) (hp : PostD A w μ ρ s t q' μ1) (hq' : msgAt w q' S ρ) (hq : q = ρ (w + 3) 60) : q ≠ q' ∧ q + 1 ≠ q' ∧ q ≠ q' + 1 ∧ μ1 q = μ q ∧ μ1 (q + 1) = μ (q + 1) := by
  obtain ⟨j, j1, j2, -⟩ := hq'
  obtain ⟨i, i1, i2, -⟩ := WOK_box h.1 (i := 60) (by omega)
  obtain ⟨wn, w1, w2, -, w3⟩ := rg_ex h.2.2.1.2.1.1
  have hne : q ≠ q' := by
    rcases hp.2 with ⟨ok, q1, -⟩ | ⟨-, q1, -⟩
    · have hwn : wn < 60 := by
        have := ok.2.1
        rw [w1, show (60 : Int32) = nI 60 from rfl, nI_eq w2 (by decide)] at this
        omega
      rw [q1, hq, w1, nI_clamp w2]
      intro z
      have := h.1.2.2.2.2.2.2 60 wn (by omega) (by omega) z
      omega
    · rw [q1, hq, i2]; omega
  have hq2 : q = w + 6 + 2 * i := hq.trans i2
  exact ⟨hne, by omega, by omega, hp.1 q (by omega) hne, hp.1 (q + 1) (by omega) (by omega)⟩
theorem fresh_eq {A : Rw} {s x : Nat} {μ : Mi} {l t : Int32} (h : St A s x μ) : (cTermAt μ x (μ x 7) < t ∨ (t = cTermAt μ x (μ x 7) ∧ ¬ l < μ x 7)) ↔ (qTermAt A s (A (514 * s + 4)) < t ∨ (t = qTermAt A s (A (514 * s + 4)) ∧ ¬ l < A (514 * s + 4))) := by
  rw [St_termAt h, h.1.2.2.2.2.2.2.2.1]
def w_X10_hearAsk_105 (M : CT) (G : Nat → PT) (Rp : RT) : PT := tPutI 2 10 4 <| tVret Rp
def w_X10_hearAsk_104 (M : CT) (G : Nat → PT) (Rp : RT) : PT := tConst 0 <| w_X10_hearAsk_105 M G Rp
def w_X10_hearAsk_75 (M : CT) (G : Nat → PT) (Rp : RT) : PT := tAload 0 <| tGetR 10 6 1 <| tAload 1 <| tGetI 7 18 0 <| tAload 2 <| tGetI 2 10 0 <| tConst 1 <| tAload 1 <| tGetI 7 18 2 <| tFn 5 F_X1_post <| tIload 4 <| tIf (fun x => x = 0) (w_X10_hearAsk_104 M G Rp) <| tConst 1 <| tGoto (w_X10_hearAsk_105 M G Rp)
def w_X10_hearAsk_60 (M : CT) (G : Nat → PT) (Rp : RT) : PT := tIstore 4 <| tIload 4 <| tIf (fun x => x = 0) (w_X10_hearAsk_75 M G Rp) <| tAload 1 <| tAload 2 <| tGetI 2 10 0 <| tPutI 7 18 3 <| w_X10_hearAsk_75 M G Rp
def w_X10_hearAsk_59 (M : CT) (G : Nat → PT) (Rp : RT) : PT := tConst 0 <| w_X10_hearAsk_60 M G Rp
def w_X10_hearAsk_24 (M : CT) (G : Nat → PT) (Rp : RT) : PT := tIstore 3 <| tAload 2 <| tGetI 2 10 3 <| tAload 1 <| tGetI 7 18 2 <| tIf2 (fun x y => x < y) (w_X10_hearAsk_59 M G Rp) <| tIload 3 <| tIf (fun x => x = 0) (w_X10_hearAsk_59 M G Rp) <| tAload 1 <| tAload 2 <| tGetI 2 10 5 <| tAload 2 <| tGetI 2 10 4 <| tFn 3 F_X7_findsFresh <| tIf (fun x => x = 0) (w_X10_hearAsk_59 M G Rp) <| tConst 1 <| tGoto (w_X10_hearAsk_60 M G Rp)
def w_X10_hearAsk_23 (M : CT) (G : Nat → PT) (Rp : RT) : PT := tConst 0 <| w_X10_hearAsk_24 M G Rp
def w_X10_hearAsk_19 (M : CT) (G : Nat → PT) (Rp : RT) : PT := tConst 1 <| tGoto (w_X10_hearAsk_24 M G Rp)
def w_X10_hearAsk_0 (M : CT) (G : Nat → PT) (Rp : RT) : PT := tAload 1 <| tGetI 7 18 3 <| tConst (-1) <| tIf2 (fun x y => x = y) (w_X10_hearAsk_19 M G Rp) <| tAload 1 <| tGetI 7 18 3 <| tAload 2 <| tGetI 2 10 0 <| tIf2 (fun x y => x ≠ y) (w_X10_hearAsk_23 M G Rp) <| w_X10_hearAsk_19 M G Rp
set_option maxRecDepth 20000 in
theorem b_X10_hearAsk_105 {Z : Zt} {d : Nat} {p : Program} {e : Env} {R : Room} {s : State} {m : MethodId} {args : Array Value} {below : List Frame} {meth : Method} {c : Code} {Rp : RT} (C : Cx Z (d + 2) jX10_hearAsk RX10 p R s m args meth c) : Sd Z jX10_hearAsk p e R s m args below meth c (MQ below (QcS Z Rp) args s 0 0 (fun a => Z.2.2.1 < a)) 105 (w_X10_hearAsk_105 (MS Z (d + 2)) (Gw Z 5 p e R s m args below meth c (MQ below (QcS Z Rp) args s 0 0 (fun a => Z.2.2.1 < a))) Rp) := by
  unfold w_X10_hearAsk_105
  refine s_putI C w_1_74 (by decide +kernel) rfl (Or.inl rfl) ?_
  exact s_vret C rfl (by decide +kernel)
set_option maxRecDepth 20000 in
theorem b_X10_hearAsk_104 {Z : Zt} {d : Nat} {p : Program} {e : Env} {R : Room} {s : State} {m : MethodId} {args : Array Value} {below : List Frame} {meth : Method} {c : Code} {Rp : RT} (C : Cx Z (d + 2) jX10_hearAsk RX10 p R s m args meth c) : Sd Z jX10_hearAsk p e R s m args below meth c (MQ below (QcS Z Rp) args s 0 0 (fun a => Z.2.2.1 < a)) 104 (w_X10_hearAsk_104 (MS Z (d + 2)) (Gw Z 5 p e R s m args below meth c (MQ below (QcS Z Rp) args s 0 0 (fun a => Z.2.2.1 < a))) Rp) := by
  unfold w_X10_hearAsk_104
  refine s_iconst (n := 0) C (by decide +kernel) (by decide) ?_
  exact (b_X10_hearAsk_105 C)
set_option maxRecDepth 20000 in
theorem b_X10_hearAsk_75 {Z : Zt} {d : Nat} {p : Program} {e : Env} {R : Room} {s : State} {m : MethodId} {args : Array Value} {below : List Frame} {meth : Method} {c : Code} {Rp : RT} (C : Cx Z (d + 2) jX10_hearAsk RX10 p R s m args meth c) : Sd Z jX10_hearAsk p e R s m args below meth c (MQ below (QcS Z Rp) args s 0 0 (fun a => Z.2.2.1 < a)) 75 (w_X10_hearAsk_75 (MS Z (d + 2)) (Gw Z 5 p e R s m args below meth c (MQ below (QcS Z Rp) args s 0 0 (fun a => Z.2.2.1 < a))) Rp) := by
  unfold w_X10_hearAsk_75
  refine s_aload_n (k := 0) C (by decide +kernel) ?_
  refine s_getR C w_2_117 (by decide +kernel) rfl ?_
  refine s_aload_n (k := 1) C (by decide +kernel) ?_
  refine s_getI C w_1_221 (by decide +kernel) rfl ?_
  refine s_aload_n (k := 2) C (by decide +kernel) ?_
  refine s_getI C w_1_55 (by decide +kernel) rfl ?_
  refine s_iconst (n := 1) C (by decide +kernel) (by decide) ?_
  refine s_aload_n (k := 1) C (by decide +kernel) ?_
  refine s_getI C w_1_227 (by decide +kernel) rfl ?_
  refine s_fnV C (j2 := jX1_post) (cl := 1) (nf := 6) rfl rfl (by decide +kernel) rfl w_3_125 w_3_126 w_3_127 w_1_3 w_3_128 (by decide +kernel) (fun _ _ _ _ _ h => f_X1_post h) (fun _ _ _ _ _ h => r_X1_post h) ?_
  refine s_iload (k := 4) C (by decide +kernel) ?_
  refine s_if_eq (off := 7) (tgt := 104) C (by decide +kernel) (by decide) (b_X10_hearAsk_104 C) ?_
  refine s_iconst (n := 1) C (by decide +kernel) (by decide) ?_
  exact s_goto (off := 4) (tgt := 105) C (by decide +kernel) (by decide) (b_X10_hearAsk_105 C)
set_option maxRecDepth 20000 in
theorem b_X10_hearAsk_60 {Z : Zt} {d : Nat} {p : Program} {e : Env} {R : Room} {s : State} {m : MethodId} {args : Array Value} {below : List Frame} {meth : Method} {c : Code} {Rp : RT} (C : Cx Z (d + 2) jX10_hearAsk RX10 p R s m args meth c) : Sd Z jX10_hearAsk p e R s m args below meth c (MQ below (QcS Z Rp) args s 0 0 (fun a => Z.2.2.1 < a)) 60 (w_X10_hearAsk_60 (MS Z (d + 2)) (Gw Z 5 p e R s m args below meth c (MQ below (QcS Z Rp) args s 0 0 (fun a => Z.2.2.1 < a))) Rp) := by
  unfold w_X10_hearAsk_60
  refine s_istore (k := 4) C (by decide +kernel) ?_
  refine s_iload (k := 4) C (by decide +kernel) ?_
  refine s_if_eq (off := 11) (tgt := 75) C (by decide +kernel) (by decide) (b_X10_hearAsk_75 C) ?_
  refine s_aload_n (k := 1) C (by decide +kernel) ?_
  refine s_aload_n (k := 2) C (by decide +kernel) ?_
  refine s_getI C w_1_55 (by decide +kernel) rfl ?_
  refine s_putI C w_1_230 (by decide +kernel) rfl (Or.inl rfl) ?_
  exact (b_X10_hearAsk_75 C)
set_option maxRecDepth 20000 in
theorem b_X10_hearAsk_59 {Z : Zt} {d : Nat} {p : Program} {e : Env} {R : Room} {s : State} {m : MethodId} {args : Array Value} {below : List Frame} {meth : Method} {c : Code} {Rp : RT} (C : Cx Z (d + 2) jX10_hearAsk RX10 p R s m args meth c) : Sd Z jX10_hearAsk p e R s m args below meth c (MQ below (QcS Z Rp) args s 0 0 (fun a => Z.2.2.1 < a)) 59 (w_X10_hearAsk_59 (MS Z (d + 2)) (Gw Z 5 p e R s m args below meth c (MQ below (QcS Z Rp) args s 0 0 (fun a => Z.2.2.1 < a))) Rp) := by
  unfold w_X10_hearAsk_59
  refine s_iconst (n := 0) C (by decide +kernel) (by decide) ?_
  exact (b_X10_hearAsk_60 C)
set_option maxRecDepth 20000 in
theorem b_X10_hearAsk_24 {Z : Zt} {d : Nat} {p : Program} {e : Env} {R : Room} {s : State} {m : MethodId} {args : Array Value} {below : List Frame} {meth : Method} {c : Code} {Rp : RT} (C : Cx Z (d + 2) jX10_hearAsk RX10 p R s m args meth c) : Sd Z jX10_hearAsk p e R s m args below meth c (MQ below (QcS Z Rp) args s 0 0 (fun a => Z.2.2.1 < a)) 24 (w_X10_hearAsk_24 (MS Z (d + 2)) (Gw Z 5 p e R s m args below meth c (MQ below (QcS Z Rp) args s 0 0 (fun a => Z.2.2.1 < a))) Rp) := by
  unfold w_X10_hearAsk_24
  refine s_istore_n (k := 3) C (by decide +kernel) ?_
  refine s_aload_n (k := 2) C (by decide +kernel) ?_
  refine s_getI C w_1_69 (by decide +kernel) rfl ?_
  refine s_aload_n (k := 1) C (by decide +kernel) ?_
  refine s_getI C w_1_227 (by decide +kernel) rfl ?_
  refine s_icmp_lt (off := 26) (tgt := 59) C (by decide +kernel) (by decide) (b_X10_hearAsk_59 C) ?_
  refine s_iload_n (k := 3) C (by decide +kernel) ?_
  refine s_if_eq (off := 22) (tgt := 59) C (by decide +kernel) (by decide) (b_X10_hearAsk_59 C) ?_
  refine s_aload_n (k := 1) C (by decide +kernel) ?_
  refine s_aload_n (k := 2) C (by decide +kernel) ?_
  refine s_getI C w_1_79 (by decide +kernel) rfl ?_
  refine s_aload_n (k := 2) C (by decide +kernel) ?_
  refine s_getI C w_1_74 (by decide +kernel) rfl ?_
  refine s_fnV C (j2 := jX7_findsFresh) (cl := 7) (nf := 18) rfl rfl (by decide +kernel) rfl w_4_87 w_4_88 w_4_89 w_1_5 w_4_90 (by decide +kernel) (fun _ _ _ _ _ h => f_X7_findsFresh h) (fun _ _ _ _ _ h => r_X7_findsFresh h) ?_
  refine s_if_eq (off := 7) (tgt := 59) C (by decide +kernel) (by decide) (b_X10_hearAsk_59 C) ?_
  refine s_iconst (n := 1) C (by decide +kernel) (by decide) ?_
  exact s_goto (off := 4) (tgt := 60) C (by decide +kernel) (by decide) (b_X10_hearAsk_60 C)
set_option maxRecDepth 20000 in
theorem b_X10_hearAsk_23 {Z : Zt} {d : Nat} {p : Program} {e : Env} {R : Room} {s : State} {m : MethodId} {args : Array Value} {below : List Frame} {meth : Method} {c : Code} {Rp : RT} (C : Cx Z (d + 2) jX10_hearAsk RX10 p R s m args meth c) : Sd Z jX10_hearAsk p e R s m args below meth c (MQ below (QcS Z Rp) args s 0 0 (fun a => Z.2.2.1 < a)) 23 (w_X10_hearAsk_23 (MS Z (d + 2)) (Gw Z 5 p e R s m args below meth c (MQ below (QcS Z Rp) args s 0 0 (fun a => Z.2.2.1 < a))) Rp) := by
  unfold w_X10_hearAsk_23
  refine s_iconst (n := 0) C (by decide +kernel) (by decide) ?_
  exact (b_X10_hearAsk_24 C)
set_option maxRecDepth 20000 in
theorem b_X10_hearAsk_19 {Z : Zt} {d : Nat} {p : Program} {e : Env} {R : Room} {s : State} {m : MethodId} {args : Array Value} {below : List Frame} {meth : Method} {c : Code} {Rp : RT} (C : Cx Z (d + 2) jX10_hearAsk RX10 p R s m args meth c) : Sd Z jX10_hearAsk p e R s m args below meth c (MQ below (QcS Z Rp) args s 0 0 (fun a => Z.2.2.1 < a)) 19 (w_X10_hearAsk_19 (MS Z (d + 2)) (Gw Z 5 p e R s m args below meth c (MQ below (QcS Z Rp) args s 0 0 (fun a => Z.2.2.1 < a))) Rp) := by
  unfold w_X10_hearAsk_19
  refine s_iconst (n := 1) C (by decide +kernel) (by decide) ?_
  exact s_goto (off := 4) (tgt := 24) C (by decide +kernel) (by decide) (b_X10_hearAsk_24 C)
set_option maxRecDepth 20000 in
theorem b_X10_hearAsk_0 {Z : Zt} {d : Nat} {p : Program} {e : Env} {R : Room} {s : State} {m : MethodId} {args : Array Value} {below : List Frame} {meth : Method} {c : Code} {Rp : RT} (C : Cx Z (d + 2) jX10_hearAsk RX10 p R s m args meth c) : Sd Z jX10_hearAsk p e R s m args below meth c (MQ below (QcS Z Rp) args s 0 0 (fun a => Z.2.2.1 < a)) 0 (w_X10_hearAsk_0 (MS Z (d + 2)) (Gw Z 5 p e R s m args below meth c (MQ below (QcS Z Rp) args s 0 0 (fun a => Z.2.2.1 < a))) Rp) := by
  unfold w_X10_hearAsk_0
  refine s_aload_n (k := 1) C (by decide +kernel) ?_
  refine s_getI C w_1_230 (by decide +kernel) rfl ?_
  refine s_iconst (n := (-1)) C (by decide +kernel) (by decide) ?_
  refine s_icmp_eq (off := 14) (tgt := 19) C (by decide +kernel) (by decide) (b_X10_hearAsk_19 C) ?_
  refine s_aload_n (k := 1) C (by decide +kernel) ?_
  refine s_getI C w_1_230 (by decide +kernel) rfl ?_
  refine s_aload_n (k := 2) C (by decide +kernel) ?_
  refine s_getI C w_1_55 (by decide +kernel) rfl ?_
  refine s_icmp_ne (off := 7) (tgt := 23) C (by decide +kernel) (by decide) (b_X10_hearAsk_23 C) ?_
  exact (b_X10_hearAsk_19 C)
theorem ms_X10_hearAsk {Z : Zt} {d : Nat} {S : Sh} {μ : Mi} {ρ : Mr} {Rp : RT} (a0 : Nat) (a1 : Nat) (a2 : Nat) (h : ∀ G : Nat → PT, w_X10_hearAsk_0 (MS Z (d + 2)) G Rp [.ref a0, .ref a1, .ref a2, .null, .null] [] S (0, 0) μ ρ) : MS Z (d + 3) jX10_hearAsk [.ref a0, .ref a1, .ref a2] S μ ρ Rp :=
  MS_of [.ref a0, .ref a1, .ref a2, .null, .null] (by decide +kernel) rfl rfl (Nat.le_of_ble_eq_true rfl) rfl (fun p e R s m args below meth c C => b_X10_hearAsk_0 C _ _ _ _ _ _ (h _ ))
def F_X10_hearAsk : FT := fun As S μ ρ k => match As with
  | [.ref a, .ref x, .ref q] => S.2 a = (10, 6) ∧ ∃ (s f : Nat) (A g : Rw), s < 5 ∧ x = a + 130 + 8 * s ∧ RR A a S μ ρ ∧ Mg A g a q μ ρ s f ∧ ¬ A (514 * s + 1) < g 2 ∧ ∀ μ', RR (qAsked A s f (g 2 = A (514 * s + 1)) (g 4) (g 5)) a S μ' ρ → Ot a μ μ' → k none μ'
  | _ => False
theorem r_X10_hearAsk {As S μ ρ k} (h : F_X10_hearAsk As S μ ρ k) : ∃ a As', As = Value.ref a :: As' ∧ S.2 a = (10, 6) := by
  unfold F_X10_hearAsk at h
  split at h
  · exact ⟨_, _, rfl, h.1⟩
  · exact h.elim
set_option maxHeartbeats 1000000 in
theorem f_X10_hearAsk {Z : Zt} {d : Nat} {As : List Value} {S : Sh} {μ : Mi} {ρ : Mr} {Rp : RT} (h : F_X10_hearAsk As S μ ρ (fun r μ' => Rp r S μ' ρ)) : MS Z (d + 3) jX10_hearAsk As S μ ρ Rp := by
  unfold F_X10_hearAsk at h
  split at h
  · rename_i a x q
    obtain ⟨a, hNa⟩ : ∃ n : Nat, n = a := ⟨a, rfl⟩
    subst hNa
    obtain ⟨q, hNq⟩ : ∃ n : Nat, n = q := ⟨q, rfl⟩
    subst hNq
    obtain ⟨h1, s, f, A, g, hs, rfl, hR, hM, hle, h⟩ := h
    refine ms_X10_hearAsk _ _ _ (fun G => ?_)
    have hW := RR_W hR
    obtain ⟨x1, x2, -⟩ := W_st hW hs
    obtain ⟨⟨jq, jq1, jq2⟩, m1, m2, m3⟩ := Mg_at hM hW
    obtain ⟨hq60, hMs, hg0, hf, hg1, hsf⟩ := hM
    have hSt := RR_st hR hs
    have hA := hSt.1
    unfold StA at hA
    have hrs : rg (nI s) 0 4 := (rg_nI (by omega)).mpr ⟨by omega, by omega⟩
    have hrf : rg (nI f) 0 4 := (rg_nI (by omega)).mpr ⟨by omega, by omega⟩
    have hrn : ¬ nI s = nI f := by rw [nI_eq (by omega) (by omega)]; exact hsf
    have f75 : ∀ (B : Rw) (ν : Mi) (gr : Int32) (v3 : Value), (gr = 0 ∨ gr = 1) → RR B a S ν ρ → Ot a μ ν → ν q = μ q → B (514 * s + 1) = A (514 * s + 1) → (∀ μ', RR (qPost B s f (rowS (nI s) (nI f) (A (514 * s + 1)) 1 gr 0 0)) a S μ' ρ → Ot a μ μ' → Rp none S μ' ρ) → w_X10_hearAsk_75 (MS Z (d + 2)) G Rp [.ref a, .ref (a + 130 + 8 * s), .ref q, v3, .int gr] [] S (0, 0) ν ρ := by
      intro B ν gr v3 hgr r o eq e1 hh
      have hB := (RR_st r hs).1
      unfold StA at hB
      have fin : ∀ (q' : Nat) (μ1 : Mi), PostD B a ν ρ s f q' μ1 → msgAt a q' S ρ → (μ1 q' 0 = nI s ∧ μ1 q' 1 = nI f ∧ μ1 q' 2 = 1 ∧ μ1 q' 3 = A (514 * s + 1) ∧ ∀ i, 4 ≤ i → i < 9 → μ1 q' i = 0) → Rp none S (upI μ1 q' 4 gr) ρ := by
        intro q' μ1 p1 p2 p3
        have r2 := RR_sent (μ' := upI μ1 q' 4 gr) r hs hf hsf p1 p2 (fun y y1 y2 => upI_ne y1) (MsR_S (f := nI s) (t := nI f) (tm := A (514 * s + 1)) (kd := 1) (x := gr) (y := 0) (rd := 0) (by simp (disch := omega) only [upI_k, upI_at, p3, and_self]) hrs hrf hrn (by decide))
        exact hh _ r2.1 (ot_trans o (Fm_Ot r2.2))
      simp only [w_X10_hearAsk_75, w_X10_hearAsk_104, w_X10_hearAsk_105, tAload, tIload, nth, tGetI, tGetR, tConst, tLconst, tBin, tUn, tI2l, tAld, tAldR, tAlen, tIast, tBast, tZast, tAast, tIret, tZret, tVret, tAret, tIf, tIf2, tGoto, tIstore, tAstore, sset, tIinc, tDup, tDup2, tPop, tPutI, tPutZ, tPutR, tCallV, tCallS, popN, tFn, tCopy, tMax, tMin, tSw, swc, tRem, tObjI, Option.toList, List.nil_append, List.cons_append, okR, true_and, and_true, true_or, or_true, Nat.zero_le, ne_eq, not_false_eq_true, Nat.reduceEqDiff, F_X1_post, h1, x1, m1, hW.2.2.2.2.1, hW.2.1, hB, e1, eq, hMs.1, hg0]
      refine ⟨a, s, f, B, rfl, r.1, rfl, rfl, hs, hf, hsf, fun q' μ1 p1 p2 p3 => ?_⟩
      have p2' := p2
      obtain ⟨j, -, -, j3, -⟩ := p2
      simp only [j3]
      rcases hgr with z | z
      · subst z
        exact ⟨fun _ => ⟨trivial, fin q' μ1 p1 p2' p3⟩, fun z => absurd rfl z⟩
      · subst z
        exact ⟨fun z => absurd z (by decide), fun _ => ⟨trivial, fin q' μ1 p1 p2' p3⟩⟩
    have no : ¬ gives A s (nI f) (g 2 = A (514 * s + 1)) (g 4) (g 5) → ∀ v3 : Value, w_X10_hearAsk_59 (MS Z (d + 2)) G Rp [.ref a, .ref (a + 130 + 8 * s), .ref q, v3, .null] [] S (0, 0) μ ρ := by
      intro c v3
      simp only [w_X10_hearAsk_59, w_X10_hearAsk_60, tAload, tIload, nth, tGetI, tGetR, tConst, tLconst, tBin, tUn, tI2l, tAld, tAldR, tAlen, tIast, tBast, tZast, tAast, tIret, tZret, tVret, tAret, tIf, tIf2, tGoto, tIstore, tAstore, sset, tIinc, tDup, tDup2, tPop, tPutI, tPutZ, tPutR, tCallV, tCallS, popN, tFn, tCopy, tMax, tMin, tSw, swc, tRem, tObjI, Option.toList, List.nil_append, List.cons_append, okR, true_and, and_true, true_or, or_true, Nat.zero_le, ne_eq, not_false_eq_true, Nat.reduceEqDiff]
      refine ⟨fun _ => f75 A μ 0 v3 (Or.inl rfl) hR (fun _ _ => rfl) rfl rfl ?_, fun z => absurd trivial z⟩
      unfold qAsked at h
      rw [if_neg c] at h
      exact h
    have mem := hSt.2.1
    have f24 : ∀ (v : Int32), (v = 0 ∨ v = 1) → (v = 1 ↔ (A (514 * s + 2) = -1 ∨ A (514 * s + 2) = nI f)) → w_X10_hearAsk_24 (MS Z (d + 2)) G Rp [.ref a, .ref (a + 130 + 8 * s), .ref q, .null, .null] [.int v] S (0, 0) μ ρ := by
      intro v hv hiff
      simp only [w_X10_hearAsk_24, tAload, tIload, nth, tGetI, tGetR, tConst, tLconst, tBin, tUn, tI2l, tAld, tAldR, tAlen, tIast, tBast, tZast, tAast, tIret, tZret, tVret, tAret, tIf, tIf2, tGoto, tIstore, tAstore, sset, tIinc, tDup, tDup2, tPop, tPutI, tPutZ, tPutR, tCallV, tCallS, popN, tFn, tCopy, tMax, tMin, tSw, swc, tRem, tObjI, Option.toList, List.nil_append, List.cons_append, okR, true_and, and_true, true_or, or_true, Nat.zero_le, ne_eq, not_false_eq_true, Nat.reduceEqDiff, F_X7_findsFresh, b2_z, x1, x2, m1, hA, hMs.1]
      refine ⟨fun c => no (fun z => ?_) _, fun c => ⟨fun c2 => no (fun z => ?_) _, fun c2 => ⟨mem.2.2.1.1, mem.2.1.2, fun c3 => no (fun z => c3 ?_) _, fun c3 => ?_⟩⟩⟩
      · rw [z.1] at c; exact absurd c (Int32.lt_irrefl)
      · rw [hiff.mpr z.2.1] at c2; exact absurd c2 (by decide)
      · have := z.2.2
        rw [← St_termAt hSt] at this
        exact this
      · have gv : gives A s (nI f) (g 2 = A (514 * s + 1)) (g 4) (g 5) := by
          refine ⟨?_, hiff.mp (hv.elim (fun z => absurd z c2) id), ?_⟩
          · exact Int32.le_antisymm (Int32.not_lt.mp hle) (Int32.not_lt.mp c)
          · rw [← St_termAt hSt]
            exact Decidable.not_not.mp c3
        unfold qAsked at h
        rw [if_pos gv] at h
        simp only [w_X10_hearAsk_60, tAload, tIload, nth, tGetI, tGetR, tConst, tLconst, tBin, tUn, tI2l, tAld, tAldR, tAlen, tIast, tBast, tZast, tAast, tIret, tZret, tVret, tAret, tIf, tIf2, tGoto, tIstore, tAstore, sset, tIinc, tDup, tDup2, tPop, tPutI, tPutZ, tPutR, tCallV, tCallS, popN, tFn, tCopy, tMax, tMin, tSw, swc, tRem, tObjI, Option.toList, List.nil_append, List.cons_append, okR, true_and, and_true, true_or, or_true, Nat.zero_le, ne_eq, not_false_eq_true, Nat.reduceEqDiff, x1, m1, hMs.1, hg0]
        refine ⟨fun z => absurd z (by decide), fun _ => f75 _ _ 1 _ (Or.inr rfl) (RR_v hs hR) (fun y hy => upI_ne (by omega)) (upI_ne (by omega)) (up_ne (by omega)) h⟩
    simp only [w_X10_hearAsk_0, w_X10_hearAsk_19, w_X10_hearAsk_23, tAload, tIload, nth, tGetI, tGetR, tConst, tLconst, tBin, tUn, tI2l, tAld, tAldR, tAlen, tIast, tBast, tZast, tAast, tIret, tZret, tVret, tAret, tIf, tIf2, tGoto, tIstore, tAstore, sset, tIinc, tDup, tDup2, tPop, tPutI, tPutZ, tPutR, tCallV, tCallS, popN, tFn, tCopy, tMax, tMin, tSw, swc, tRem, tObjI, Option.toList, List.nil_append, List.cons_append, okR, true_and, and_true, true_or, or_true, Nat.zero_le, ne_eq, not_false_eq_true, Nat.reduceEqDiff, x1, m1, hA, hMs.1, hg0, Decidable.not_not]
    refine ⟨fun c => f24 1 (Or.inr rfl) ⟨fun _ => Or.inl c, fun _ => rfl⟩, fun c => ⟨fun c2 => f24 0 (Or.inl rfl) ⟨fun z => absurd z (by decide), fun z => (z.elim c c2).elim⟩, fun c2 => f24 1 (Or.inr rfl) ⟨fun _ => Or.inr c2, fun _ => rfl⟩⟩⟩
  · exact h.elim
