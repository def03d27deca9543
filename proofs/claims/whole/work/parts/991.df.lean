/-! ===== the class: links, entries are put ===== -/
theorem shl_bv {k : Nat} (hk : k < 25) : ((1 : Int32) <<< (nI k &&& 31)).toBitVec = 1#32 <<< k := by
  match k, hk with
  | 0, _ => rfl
  | 1, _ => rfl
  | 2, _ => rfl
  | 3, _ => rfl
  | 4, _ => rfl
  | 5, _ => rfl
  | 6, _ => rfl
  | 7, _ => rfl
  | 8, _ => rfl
  | 9, _ => rfl
  | 10, _ => rfl
  | 11, _ => rfl
  | 12, _ => rfl
  | 13, _ => rfl
  | 14, _ => rfl
  | 15, _ => rfl
  | 16, _ => rfl
  | 17, _ => rfl
  | 18, _ => rfl
  | 19, _ => rfl
  | 20, _ => rfl
  | 21, _ => rfl
  | 22, _ => rfl
  | 23, _ => rfl
  | 24, _ => rfl
  | k + 25, h => omega
theorem one_lsb {k i : Nat} (hk : k < 25) (hi : i < 32) : ((1 : Int32) <<< (nI k &&& 31)).toBitVec.getLsbD i = decide (i = k) := by
  rw [shl_bv hk, BitVec.getLsbD_shiftLeft, BitVec.getLsbD_one]
  by_cases c : i = k
  · subst c; simp [hi]
  · by_cases c2 : i < k
    · simp [c, c2]
    · have : ¬ i - k = 0 := by omega
      simp [c, this]
theorem lnk_bv {a b i : Nat} (ha : a < 5) (hb : b < 5) (hi : i < 32) : (lnk (nI a) (nI b)).toBitVec.getLsbD i = (decide (i = 5 * a + b) || decide (i = 5 * b + a)) := by
  unfold lnk
  rw [ix5, ix5, Int32.toBitVec_or, BitVec.getLsbD_or, one_lsb (by omega) hi, one_lsb (by omega) hi]
theorem neg_lsb {i : Nat} (hi : i < 32) : ((-1 : Int32)).toBitVec.getLsbD i = true := by
  have : ∀ i : Fin 32, ((-1 : Int32)).toBitVec.getLsbD i.val = true := by decide +kernel
  exact this ⟨i, hi⟩
theorem i32_ext {x y : Int32} (h : ∀ i, i < 32 → x.toBitVec.getLsbD i = y.toBitVec.getLsbD i) : x = y := Int32.toBitVec_inj.mp (BitVec.eq_of_getLsbD_eq h)
theorem lk_and {L : Int32} {a b i : Nat} (ha : a < 5) (hb : b < 5) (hi : i < 32) : (L &&& (lnk (nI a) (nI b) ^^^ (-1))).toBitVec.getLsbD i = (L.toBitVec.getLsbD i && !(decide (i = 5 * a + b) || decide (i = 5 * b + a))) := by
  rw [Int32.toBitVec_and, BitVec.getLsbD_and, Int32.toBitVec_xor, BitVec.getLsbD_xor, lnk_bv ha hb hi, neg_lsb hi, Bool.xor_true]
theorem lk_or {L : Int32} {a b i : Nat} (ha : a < 5) (hb : b < 5) (hi : i < 32) : (L ||| lnk (nI a) (nI b)).toBitVec.getLsbD i = (L.toBitVec.getLsbD i || (decide (i = 5 * a + b) || decide (i = 5 * b + a))) := by
  rw [Int32.toBitVec_or, BitVec.getLsbD_or, lnk_bv ha hb hi]
theorem lk_xor {L : Int32} {a b i : Nat} (ha : a < 5) (hb : b < 5) (hi : i < 32) : (L ^^^ lnk (nI a) (nI b)).toBitVec.getLsbD i = (L.toBitVec.getLsbD i ^^ (decide (i = 5 * a + b) || decide (i = 5 * b + a))) := by
  rw [Int32.toBitVec_xor, BitVec.getLsbD_xor, lnk_bv ha hb hi]
/-- what a link's turn makes of the links -/
theorem lk_turn {L : Int32} {a b : Nat} {how : Int32} (ha : a < 5) (hb : b < 5) (hL : lkS L) (h01 : how = 0 ∨ how = 1) (L' : Int32) (hL' : L' = if how = 0 then L &&& (lnk (nI a) (nI b) ^^^ (-1)) else L ||| lnk (nI a) (nI b)) :
    lkS L' ∧ ((¬ (L >>> ((5 * nI a + nI b) &&& 31)) &&& 1 = 1 ↔ how = 0) → L' = L) ∧ (¬ (¬ (L >>> ((5 * nI a + nI b) &&& 31)) &&& 1 = 1 ↔ how = 0) → L' = L ^^^ lnk (nI a) (nI b) ∧ ¬ L' = L) := by
  have hs : ∀ c d, c < 5 → d < 5 → (L.toBitVec.getLsbD (5 * c + d) = true ↔ L.toBitVec.getLsbD (5 * d + c) = true) := by
    intro c d hc hd
    have := hL c d hc hd
    rw [ix5, ix5, bit_lsb (by omega), bit_lsb (by omega)] at this
    exact this
  have h0 := hs a b ha hb
  rw [ix5, bit_lsb (by omega)]
  have hbit : ∀ i, i < 32 → L'.toBitVec.getLsbD i = if how = 0 then (L.toBitVec.getLsbD i && !(decide (i = 5 * a + b) || decide (i = 5 * b + a))) else (L.toBitVec.getLsbD i || (decide (i = 5 * a + b) || decide (i = 5 * b + a))) := by
    intro i hi
    rw [hL']
    split
    · exact lk_and ha hb hi
    · exact lk_or ha hb hi
  refine ⟨fun c d hc hd => ?_, fun h => i32_ext (fun i hi => ?_), fun h => ⟨i32_ext (fun i hi => ?_), fun z => ?_⟩⟩
  · rw [ix5, ix5, bit_lsb (by omega), bit_lsb (by omega), hbit _ (by omega), hbit _ (by omega)]
    have h1 := hs c d hc hd
    have h2 : (decide (5 * c + d = 5 * a + b) || decide (5 * c + d = 5 * b + a)) = (decide (5 * d + c = 5 * a + b) || decide (5 * d + c = 5 * b + a)) := by
      rw [← Bool.decide_or, ← Bool.decide_or]
      exact decide_eq_decide.mpr (by omega)
    rw [h2]
    generalize (decide (5 * d + c = 5 * a + b) || decide (5 * d + c = 5 * b + a)) = p
    cases p <;> split <;> simp [h1]
  · rw [hbit i hi]
    by_cases c : how = 0
    · rw [if_pos c]
      have h3 := h.mpr c
      by_cases c1 : i = 5 * a + b
      · subst c1; simp [h3]
      · by_cases c2 : i = 5 * b + a
        · subst c2
          have : ¬ L.toBitVec.getLsbD (5 * b + a) = true := fun z => h3 (h0.mpr z)
          simp [this]
        · simp [c1, c2]
    · rw [if_neg c]
      have h3 : L.toBitVec.getLsbD (5 * a + b) = true := Classical.not_not.mp (fun z => c (h.mp z))
      by_cases c1 : i = 5 * a + b
      · subst c1; simp [h3]
      · by_cases c2 : i = 5 * b + a
        · subst c2; simp [h0.mp h3]
        · simp [c1, c2]
  · rw [hbit i hi, lk_xor ha hb hi]
    by_cases c : how = 0
    · rw [if_pos c]
      have h3 : L.toBitVec.getLsbD (5 * a + b) = true := Classical.not_not.mp (fun z => h ⟨fun _ => c, fun _ => z⟩)
      by_cases c1 : i = 5 * a + b
      · subst c1; simp [h3]
      · by_cases c2 : i = 5 * b + a
        · subst c2; simp [h0.mp h3]
        · simp [c1, c2]
    · rw [if_neg c]
      have h3 : ¬ L.toBitVec.getLsbD (5 * a + b) = true := fun z => h ⟨fun y => absurd z y, fun y => absurd y c⟩
      by_cases c1 : i = 5 * a + b
      · subst c1; simp [h3]
      · by_cases c2 : i = 5 * b + a
        · subst c2
          have : ¬ L.toBitVec.getLsbD (5 * b + a) = true := fun z => h3 (h0.mpr z)
          simp [this]
        · simp [c1, c2]
  · have := hbit (5 * a + b) (by omega)
    rw [z] at this
    by_cases c : how = 0
    · rw [if_pos c] at this
      simp at this
      exact h ⟨fun _ => c, fun _ => by simp [this]⟩
    · rw [if_neg c] at this
      simp at this
      exact h ⟨fun y => absurd this y, fun y => absurd y c⟩
theorem RR_link {A : Rw} {w : Nat} {S : Sh} {μ : Mi} {ρ : Mr} {v : Int32} (h : RR A w S μ ρ) (hv : lkS v) : RR (up A 4513 v) w S (upI μ (w + 2) 5 (v ^^^ 33554431)) ρ := by
  obtain ⟨⟨h1, h2, h3, h4, h5⟩, h6⟩ := h
  have o : ∀ i, i ≠ 4513 → up A 4513 v i = A i := fun i hi => up_ne hi
  refine ⟨⟨h1, fun s hs => ?_, ⟨?_, ?_, fun i hi => ?_⟩, ⟨fun q q1 q2 => ?_, fun r r1 r2 => ?_⟩, ?_⟩, Nx_keep h6 (fun r i hr hi => o _ (by omega)) (fun r hr => ⟨upI_ne (by omega), upI_ne (by omega)⟩)⟩
  · exact St_congr hs (h2 s hs) (fun i i1 i2 => o i (by omega)) (o _ (by omega)) (fun y y1 y2 => upI_ne (by omega))
  · simp (disch := omega) only [upI_k, upI_at, o, up_at]
    exact ⟨h3.1.1, h3.1.2.1, h3.1.2.2.1, trivial⟩
  · simp (disch := omega) only [o, up_at]
    exact ⟨h3.2.1.1, hv⟩
  · rw [o _ (by omega)] at hi
    obtain ⟨n, e1, e2, -, e3⟩ := rg_ex h3.2.1.1
    have hi' := hi
    rw [e1, nI_clamp e2] at hi'
    obtain ⟨j, j1, j2, -⟩ := WOK_box h1 (i := i) (by omega)
    exact MsR_congr (h3.2.2 i hi) (fun k hk => o _ (by omega)) (o _ (by omega)) (upI_ne (by omega)) (upI_ne (by omega))
  · rw [upI_ne (by omega)]
    rcases h4.1 q q1 q2 with z | z
    · exact Or.inl ⟨z.1, by rw [o _ (by omega)]; exact z.2⟩
    · exact Or.inr (enR_congr z (o _ (by omega)) (o _ (by omega)) (o _ (by omega)) (o _ (by omega)))
  · rw [upI_ne (by omega), o _ (by omega)]
    exact h4.2 r r1 r2
  · unfold Wd at *
    rw [upI_ne (by omega), o _ (by omega), o _ (by omega)]
    exact h5
def w_X1_turnLink_0 (M : CT) (G : Nat → PT) (Rp : RT) : PT := tAload 0 <| tDup <| tGetI 1 6 5 <| tConst 1 <| tIload 1 <| tConst 5 <| tBin (fun x y => x * y) <| tIload 2 <| tBin (fun x y => x + y) <| tBin (fun x y => x <<< (y &&& 31)) <| tConst 1 <| tIload 2 <| tConst 5 <| tBin (fun x y => x * y) <| tIload 1 <| tBin (fun x y => x + y) <| tBin (fun x y => x <<< (y &&& 31)) <| tBin (fun x y => x ||| y) <| tBin (fun x y => x ^^^ y) <| tPutI 1 6 5 <| tVret Rp
set_option maxRecDepth 20000 in
theorem b_X1_turnLink_0 {Z : Zt} {d : Nat} {p : Program} {e : Env} {R : Room} {s : State} {m : MethodId} {args : Array Value} {below : List Frame} {meth : Method} {c : Code} {Rp : RT} (C : Cx Z d jX1_turnLink RX1 p R s m args meth c) : Sd Z jX1_turnLink p e R s m args below meth c (MQ below (QcS Z Rp) args s 0 0 (fun a => Z.2.2.1 < a)) 0 (w_X1_turnLink_0 (MS Z d) (Gw Z 3 p e R s m args below meth c (MQ below (QcS Z Rp) args s 0 0 (fun a => Z.2.2.1 < a))) Rp) := by
  unfold w_X1_turnLink_0
  refine s_aload_n (k := 0) C (by decide +kernel) ?_
  refine s_dup C (by decide +kernel) ?_
  refine s_getI C w_1_135 (by decide +kernel) rfl ?_
  refine s_iconst (n := 1) C (by decide +kernel) (by decide) ?_
  refine s_iload_n (k := 1) C (by decide +kernel) ?_
  refine s_iconst (n := 5) C (by decide +kernel) (by decide) ?_
  refine s_imul C (by decide +kernel) ?_
  refine s_iload_n (k := 2) C (by decide +kernel) ?_
  refine s_iadd C (by decide +kernel) ?_
  refine s_ishl C (by decide +kernel) ?_
  refine s_iconst (n := 1) C (by decide +kernel) (by decide) ?_
  refine s_iload_n (k := 2) C (by decide +kernel) ?_
  refine s_iconst (n := 5) C (by decide +kernel) (by decide) ?_
  refine s_imul C (by decide +kernel) ?_
  refine s_iload_n (k := 1) C (by decide +kernel) ?_
  refine s_iadd C (by decide +kernel) ?_
  refine s_ishl C (by decide +kernel) ?_
  refine s_ior C (by decide +kernel) ?_
  refine s_ixor C (by decide +kernel) ?_
  refine s_putI C w_1_135 (by decide +kernel) rfl (Or.inl rfl) ?_
  exact s_vret C rfl (by decide +kernel)
theorem ms_X1_turnLink {Z : Zt} {d : Nat} {S : Sh} {μ : Mi} {ρ : Mr} {Rp : RT} (a0 : Nat) (x1 : Int32) (x2 : Int32) (h : ∀ G : Nat → PT, w_X1_turnLink_0 (MS Z d) G Rp [.ref a0, .int x1, .int x2] [] S (0, 0) μ ρ) : MS Z (d + 1) jX1_turnLink [.ref a0, .int x1, .int x2] S μ ρ Rp :=
  MS_of [.ref a0, .int x1, .int x2] (by decide +kernel) rfl rfl (Nat.le_of_ble_eq_true rfl) rfl (fun p e R s m args below meth c C => b_X1_turnLink_0 C _ _ _ _ _ _ (h _ ))
def F_X1_turnLink : FT := fun As S μ ρ k => match As with
  | [.ref a, .int x, .int y] => S.2 a = (1, 6) ∧ k none (upI μ a 5 (μ a 5 ^^^ ((1 : Int32) <<< ((x * 5 + y) &&& 31) ||| (1 : Int32) <<< ((y * 5 + x) &&& 31))))
  | _ => False
theorem r_X1_turnLink {As S μ ρ k} (h : F_X1_turnLink As S μ ρ k) : ∃ a As', As = Value.ref a :: As' ∧ S.2 a = (1, 6) := by
  unfold F_X1_turnLink at h
  split at h
  · exact ⟨_, _, rfl, h.1⟩
  · exact h.elim
set_option maxHeartbeats 1000000 in
theorem f_X1_turnLink {Z : Zt} {d : Nat} {As : List Value} {S : Sh} {μ : Mi} {ρ : Mr} {Rp : RT} (h : F_X1_turnLink As S μ ρ (fun r μ' => Rp r S μ' ρ)) : MS Z (d + 1) jX1_turnLink As S μ ρ Rp := by
  unfold F_X1_turnLink at h
  split at h
  · rename_i a x y
    obtain ⟨h1, h⟩ := h
    refine ms_X1_turnLink _ _ _ (fun G => ?_)
    simp only [w_X1_turnLink_0, tAload, tIload, nth, tGetI, tGetR, tConst, tLconst, tBin, tUn, tI2l, tAld, tAldR, tAlen, tIast, tBast, tZast, tAast, tIret, tZret, tVret, tAret, tIf, tIf2, tGoto, tIstore, tAstore, sset, tIinc, tDup, tDup2, tPop, tPutI, tPutZ, tPutR, tCallV, tCallS, popN, tFn, tCopy, tMax, tMin, tSw, swc, tRem, tObjI, Option.toList, List.nil_append, List.cons_append, okR, true_and, and_true, true_or, or_true, Nat.zero_le, ne_eq, not_false_eq_true, Nat.reduceEqDiff, h1]
    exact h
  · exact h.elim
def w_X10_links_57 (M : CT) (G : Nat → PT) (Rp : RT) : PT := tAload 0 <| tGetR 10 6 1 <| tIload 1 <| tIload 2 <| tFn 3 F_X1_turnLink <| tConst 1 <| tIret Rp
def w_X10_links_52 (M : CT) (G : Nat → PT) (Rp : RT) : PT := tIf2 (fun x y => x ≠ y) (w_X10_links_57 M G Rp) <| tConst 0 <| tIret Rp
def w_X10_links_51 (M : CT) (G : Nat → PT) (Rp : RT) : PT := tConst 0 <| w_X10_links_52 M G Rp
def w_X10_links_34 (M : CT) (G : Nat → PT) (Rp : RT) : PT := tAload 0 <| tGetR 10 6 1 <| tIload 1 <| tIload 2 <| tFn 3 F_X1_isCut <| tIload 3 <| tIf (fun x => x ≠ 0) (w_X10_links_51 M G Rp) <| tConst 1 <| tGoto (w_X10_links_52 M G Rp)
def w_X10_links_31 (M : CT) (G : Nat → PT) (Rp : RT) : PT := tConst (-3) <| tIret Rp
def w_X10_links_17 (M : CT) (G : Nat → PT) (Rp : RT) : PT := tIload 3 <| tIf (fun x => x < 0) (w_X10_links_31 M G Rp) <| tIload 3 <| tConst 1 <| tIf2 (fun x y => y < x) (w_X10_links_31 M G Rp) <| tIload 1 <| tIload 2 <| tIf2 (fun x y => x ≠ y) (w_X10_links_34 M G Rp) <| w_X10_links_31 M G Rp
def w_X10_links_14 (M : CT) (G : Nat → PT) (Rp : RT) : PT := tConst (-2) <| tIret Rp
def w_X10_links_0 (M : CT) (G : Nat → PT) (Rp : RT) : PT := tIload 1 <| tFn 1 F_X11_isNoStore <| tIf (fun x => x ≠ 0) (w_X10_links_14 M G Rp) <| tIload 2 <| tFn 1 F_X11_isNoStore <| tIf (fun x => x = 0) (w_X10_links_17 M G Rp) <| w_X10_links_14 M G Rp
set_option maxRecDepth 20000 in
theorem b_X10_links_57 {Z : Zt} {d : Nat} {p : Program} {e : Env} {R : Room} {s : State} {m : MethodId} {args : Array Value} {below : List Frame} {meth : Method} {c : Code} {Rp : RT} (C : Cx Z (d + 1) jX10_links RX10 p R s m args meth c) : Sd Z jX10_links p e R s m args below meth c (MQ below (QcS Z Rp) args s 0 0 (fun a => Z.2.2.1 < a)) 57 (w_X10_links_57 (MS Z (d + 1)) (Gw Z 4 p e R s m args below meth c (MQ below (QcS Z Rp) args s 0 0 (fun a => Z.2.2.1 < a))) Rp) := by
  unfold w_X10_links_57
  refine s_aload_n (k := 0) C (by decide +kernel) ?_
  refine s_getR C w_2_117 (by decide +kernel) rfl ?_
  refine s_iload_n (k := 1) C (by decide +kernel) ?_
  refine s_iload_n (k := 2) C (by decide +kernel) ?_
  refine s_fnV C (j2 := jX1_turnLink) (cl := 1) (nf := 6) rfl rfl (by decide +kernel) rfl w_4_51 w_4_52 w_4_53 w_1_3 w_4_54 (by decide +kernel) (fun _ _ _ _ _ h => f_X1_turnLink h) (fun _ _ _ _ _ h => r_X1_turnLink h) ?_
  refine s_iconst (n := 1) C (by decide +kernel) (by decide) ?_
  exact s_iret C rfl (by decide +kernel)
set_option maxRecDepth 20000 in
theorem b_X10_links_52 {Z : Zt} {d : Nat} {p : Program} {e : Env} {R : Room} {s : State} {m : MethodId} {args : Array Value} {below : List Frame} {meth : Method} {c : Code} {Rp : RT} (C : Cx Z (d + 1) jX10_links RX10 p R s m args meth c) : Sd Z jX10_links p e R s m args below meth c (MQ below (QcS Z Rp) args s 0 0 (fun a => Z.2.2.1 < a)) 52 (w_X10_links_52 (MS Z (d + 1)) (Gw Z 4 p e R s m args below meth c (MQ below (QcS Z Rp) args s 0 0 (fun a => Z.2.2.1 < a))) Rp) := by
  unfold w_X10_links_52
  refine s_icmp_ne (off := 5) (tgt := 57) C (by decide +kernel) (by decide) (b_X10_links_57 C) ?_
  refine s_iconst (n := 0) C (by decide +kernel) (by decide) ?_
  exact s_iret C rfl (by decide +kernel)
set_option maxRecDepth 20000 in
theorem b_X10_links_51 {Z : Zt} {d : Nat} {p : Program} {e : Env} {R : Room} {s : State} {m : MethodId} {args : Array Value} {below : List Frame} {meth : Method} {c : Code} {Rp : RT} (C : Cx Z (d + 1) jX10_links RX10 p R s m args meth c) : Sd Z jX10_links p e R s m args below meth c (MQ below (QcS Z Rp) args s 0 0 (fun a => Z.2.2.1 < a)) 51 (w_X10_links_51 (MS Z (d + 1)) (Gw Z 4 p e R s m args below meth c (MQ below (QcS Z Rp) args s 0 0 (fun a => Z.2.2.1 < a))) Rp) := by
  unfold w_X10_links_51
  refine s_iconst (n := 0) C (by decide +kernel) (by decide) ?_
  exact (b_X10_links_52 C)
set_option maxRecDepth 20000 in
theorem b_X10_links_34 {Z : Zt} {d : Nat} {p : Program} {e : Env} {R : Room} {s : State} {m : MethodId} {args : Array Value} {below : List Frame} {meth : Method} {c : Code} {Rp : RT} (C : Cx Z (d + 1) jX10_links RX10 p R s m args meth c) : Sd Z jX10_links p e R s m args below meth c (MQ below (QcS Z Rp) args s 0 0 (fun a => Z.2.2.1 < a)) 34 (w_X10_links_34 (MS Z (d + 1)) (Gw Z 4 p e R s m args below meth c (MQ below (QcS Z Rp) args s 0 0 (fun a => Z.2.2.1 < a))) Rp) := by
  unfold w_X10_links_34
  refine s_aload_n (k := 0) C (by decide +kernel) ?_
  refine s_getR C w_2_117 (by decide +kernel) rfl ?_
  refine s_iload_n (k := 1) C (by decide +kernel) ?_
  refine s_iload_n (k := 2) C (by decide +kernel) ?_
  refine s_fnV C (j2 := jX1_isCut) (cl := 1) (nf := 6) rfl rfl (by decide +kernel) rfl w_4_47 w_4_48 w_4_49 w_1_3 w_4_50 (by decide +kernel) (fun _ _ _ _ _ h => f_X1_isCut h) (fun _ _ _ _ _ h => r_X1_isCut h) ?_
  refine s_iload_n (k := 3) C (by decide +kernel) ?_
  refine s_if_ne (off := 7) (tgt := 51) C (by decide +kernel) (by decide) (b_X10_links_51 C) ?_
  refine s_iconst (n := 1) C (by decide +kernel) (by decide) ?_
  exact s_goto (off := 4) (tgt := 52) C (by decide +kernel) (by decide) (b_X10_links_52 C)
set_option maxRecDepth 20000 in
theorem b_X10_links_31 {Z : Zt} {d : Nat} {p : Program} {e : Env} {R : Room} {s : State} {m : MethodId} {args : Array Value} {below : List Frame} {meth : Method} {c : Code} {Rp : RT} (C : Cx Z (d + 1) jX10_links RX10 p R s m args meth c) : Sd Z jX10_links p e R s m args below meth c (MQ below (QcS Z Rp) args s 0 0 (fun a => Z.2.2.1 < a)) 31 (w_X10_links_31 (MS Z (d + 1)) (Gw Z 4 p e R s m args below meth c (MQ below (QcS Z Rp) args s 0 0 (fun a => Z.2.2.1 < a))) Rp) := by
  unfold w_X10_links_31
  refine s_bipush (n := (-3)) C (by decide +kernel) (by decide) ?_
  exact s_iret C rfl (by decide +kernel)
set_option maxRecDepth 20000 in
theorem b_X10_links_17 {Z : Zt} {d : Nat} {p : Program} {e : Env} {R : Room} {s : State} {m : MethodId} {args : Array Value} {below : List Frame} {meth : Method} {c : Code} {Rp : RT} (C : Cx Z (d + 1) jX10_links RX10 p R s m args meth c) : Sd Z jX10_links p e R s m args below meth c (MQ below (QcS Z Rp) args s 0 0 (fun a => Z.2.2.1 < a)) 17 (w_X10_links_17 (MS Z (d + 1)) (Gw Z 4 p e R s m args below meth c (MQ below (QcS Z Rp) args s 0 0 (fun a => Z.2.2.1 < a))) Rp) := by
  unfold w_X10_links_17
  refine s_iload_n (k := 3) C (by decide +kernel) ?_
  refine s_if_lt (off := 13) (tgt := 31) C (by decide +kernel) (by decide) (b_X10_links_31 C) ?_
  refine s_iload_n (k := 3) C (by decide +kernel) ?_
  refine s_iconst (n := 1) C (by decide +kernel) (by decide) ?_
  refine s_icmp_gt (off := 8) (tgt := 31) C (by decide +kernel) (by decide) (b_X10_links_31 C) ?_
  refine s_iload_n (k := 1) C (by decide +kernel) ?_
  refine s_iload_n (k := 2) C (by decide +kernel) ?_
  refine s_icmp_ne (off := 6) (tgt := 34) C (by decide +kernel) (by decide) (b_X10_links_34 C) ?_
  exact (b_X10_links_31 C)
set_option maxRecDepth 20000 in
theorem b_X10_links_14 {Z : Zt} {d : Nat} {p : Program} {e : Env} {R : Room} {s : State} {m : MethodId} {args : Array Value} {below : List Frame} {meth : Method} {c : Code} {Rp : RT} (C : Cx Z (d + 1) jX10_links RX10 p R s m args meth c) : Sd Z jX10_links p e R s m args below meth c (MQ below (QcS Z Rp) args s 0 0 (fun a => Z.2.2.1 < a)) 14 (w_X10_links_14 (MS Z (d + 1)) (Gw Z 4 p e R s m args below meth c (MQ below (QcS Z Rp) args s 0 0 (fun a => Z.2.2.1 < a))) Rp) := by
  unfold w_X10_links_14
  refine s_bipush (n := (-2)) C (by decide +kernel) (by decide) ?_
  exact s_iret C rfl (by decide +kernel)
set_option maxRecDepth 20000 in
theorem b_X10_links_0 {Z : Zt} {d : Nat} {p : Program} {e : Env} {R : Room} {s : State} {m : MethodId} {args : Array Value} {below : List Frame} {meth : Method} {c : Code} {Rp : RT} (C : Cx Z (d + 1) jX10_links RX10 p R s m args meth c) : Sd Z jX10_links p e R s m args below meth c (MQ below (QcS Z Rp) args s 0 0 (fun a => Z.2.2.1 < a)) 0 (w_X10_links_0 (MS Z (d + 1)) (Gw Z 4 p e R s m args below meth c (MQ below (QcS Z Rp) args s 0 0 (fun a => Z.2.2.1 < a))) Rp) := by
  unfold w_X10_links_0
  refine s_iload_n (k := 1) C (by decide +kernel) ?_
  refine s_fnSN C (j2 := jX11_isNoStore) (by decide +kernel) rfl w_3_102 w_3_103 w_1_1 w_3_104 (by decide +kernel) (fun _ _ _ _ _ h => f_X11_isNoStore h) ?_
  refine s_if_ne (off := 10) (tgt := 14) C (by decide +kernel) (by decide) (b_X10_links_14 C) ?_
  refine s_iload_n (k := 2) C (by decide +kernel) ?_
  refine s_fnSN C (j2 := jX11_isNoStore) (by decide +kernel) rfl w_3_102 w_3_103 w_1_1 w_3_104 (by decide +kernel) (fun _ _ _ _ _ h => f_X11_isNoStore h) ?_
  refine s_if_eq (off := 6) (tgt := 17) C (by decide +kernel) (by decide) (b_X10_links_17 C) ?_
  exact (b_X10_links_14 C)
theorem ms_X10_links {Z : Zt} {d : Nat} {S : Sh} {μ : Mi} {ρ : Mr} {Rp : RT} (a0 : Nat) (x1 : Int32) (x2 : Int32) (x3 : Int32) (h : ∀ G : Nat → PT, w_X10_links_0 (MS Z (d + 1)) G Rp [.ref a0, .int x1, .int x2, .int x3] [] S (0, 0) μ ρ) : MS Z (d + 2) jX10_links [.ref a0, .int x1, .int x2, .int x3] S μ ρ Rp :=
  MS_of [.ref a0, .int x1, .int x2, .int x3] (by decide +kernel) rfl rfl (Nat.le_of_ble_eq_true rfl) rfl (fun p e R s m args below meth c C => b_X10_links_0 C _ _ _ _ _ _ (h _ ))
def F_X10_links : FT := fun As S μ ρ k => match As with
  | [.ref a, .int x, .int y, .int how] => S.2 a = (10, 6) ∧ ∃ (A : Rw), RR A a S μ ρ ∧ Gd A ∧ ∀ μ', RR (aLink A x y how).2 a S μ' ρ → Ot a μ μ' → k (some (.int (aLink A x y how).1)) μ'
  | _ => False
theorem r_X10_links {As S μ ρ k} (h : F_X10_links As S μ ρ k) : ∃ a As', As = Value.ref a :: As' ∧ S.2 a = (10, 6) := by
  unfold F_X10_links at h
  split at h
  · exact ⟨_, _, rfl, h.1⟩
  · exact h.elim
set_option maxHeartbeats 1000000 in
theorem f_X10_links {Z : Zt} {d : Nat} {As : List Value} {S : Sh} {μ : Mi} {ρ : Mr} {Rp : RT} (h : F_X10_links As S μ ρ (fun r μ' => Rp r S μ' ρ)) : MS Z (d + 2) jX10_links As S μ ρ Rp := by
  unfold F_X10_links at h
  split at h
  · rename_i a x y how
    obtain ⟨a, hNa⟩ : ∃ n : Nat, n = a := ⟨a, rfl⟩
    subst hNa
    obtain ⟨h1, A, hR, hG, h⟩ := h
    refine ms_X10_links _ _ _ _ (fun G => ?_)
    have hW := RR_W hR
    have hcm := good_cm (Gd_good hG)
    have hext := Gd_ext hG
    unfold aLink at h
    have bad : ¬ (rgd x 0 4 ∧ rgd y 0 4) → Rp (some (.int (-2))) S μ ρ := by
      intro c
      rw [if_pos c] at h
      exact h μ hR (fun _ _ => rfl)
    have e := rg_05 (x := how) (lo := 0) (hi := 1) (l := 0) (h := 1) (by decide) (by decide)
    simp only [w_X10_links_0, w_X10_links_14, w_X10_links_17, w_X10_links_31, tAload, tIload, nth, tGetI, tGetR, tConst, tLconst, tBin, tUn, tI2l, tAld, tAldR, tAlen, tIast, tBast, tZast, tAast, tIret, tZret, tVret, tAret, tIf, tIf2, tGoto, tIstore, tAstore, sset, tIinc, tDup, tDup2, tPop, tPutI, tPutZ, tPutR, tCallV, tCallS, popN, tFn, tCopy, tMax, tMin, tSw, swc, tRem, tObjI, Option.toList, List.nil_append, List.cons_append, okR, true_and, and_true, true_or, or_true, Nat.zero_le, ne_eq, not_false_eq_true, Nat.reduceEqDiff, F_X11_isNoStore, b2_z, h1, Decidable.not_not]
    refine ⟨fun c => bad (fun z => c z.1), fun c => ⟨fun cy => ?_, fun cy => bad (fun z => cy z.2)⟩⟩
    rw [if_neg (not_not_intro ⟨c, cy⟩)] at h
    have bad2 : ¬ (rgd how 0 1 ∧ x ≠ y) → Rp (some (.int (-3))) S μ ρ := by
      intro c
      rw [if_pos c] at h
      exact h μ hR (fun _ _ => rfl)
    refine ⟨fun c1 => bad2 (fun z => (e.mpr z.1).1 c1), fun c1 => ⟨fun c2 => bad2 (fun z => absurd (e.mpr z.1).2 (Int32.not_le.mpr c2)), fun c2 => ⟨fun c3 => ?_, fun c3 => bad2 (fun z => z.2 c3)⟩⟩⟩
    have ch := e.mp ⟨c1, Int32.not_lt.mp c2⟩
    rw [if_neg (not_not_intro ⟨ch, c3⟩)] at h
    obtain ⟨p, rfl, p0, -, p5⟩ := rg_ex (lo := 0) (hi := 4) c
    obtain ⟨q, rfl, q0, -, q5⟩ := rg_ex (lo := 0) (hi := 4) cy
    have h01 : how = 0 ∨ how = 1 := by
      obtain ⟨m, m1, m2, -, m3⟩ := rg_ex (lo := 0) (hi := 1) ch
      rw [m1]
      rcases (by omega : m = 0 ∨ m = 1) with z | z <;> subst z
      · exact Or.inl rfl
      · exact Or.inr rfl
    have lt := lk_turn (L := A 4513) (a := p) (b := q) (how := how) (by omega) (by omega) hR.1.2.2.1.2.1.2 h01 _ rfl
    have e5 : μ (a + 2) 5 = A 4513 ^^^ 33554431 := hR.1.2.2.1.1.2.2.2
    have cc : ((μ (a + 2) 5 >>> ((nI p * 5 + nI q) &&& 31)) &&& 1 = 1) ↔ ¬ (A 4513 >>> ((5 * nI p + nI q) &&& 31)) &&& 1 = 1 := by
      rw [ix5', ix5, e5]
      exact cut_bit (by omega)
    have hq : qLink A (nI p) (nI q) how = up A 4513 (if how = 0 then A 4513 &&& (lnk (nI p) (nI q) ^^^ (-1)) else A 4513 ||| lnk (nI p) (nI q)) := rfl
    rw [hq, up_at] at h
    generalize (if how = 0 then A 4513 &&& (lnk (nI p) (nI q) ^^^ (-1)) else A 4513 ||| lnk (nI p) (nI q)) = L' at *
    have same : (¬ (A 4513 >>> ((5 * nI p + nI q) &&& 31)) &&& 1 = 1 ↔ how = 0) → Rp (some (.int 0)) S μ ρ := by
      intro z
      have e1 := lt.2.1 z
      rw [e1] at h
      have e2 : up A 4513 (A 4513) = A := by funext i; unfold up; split <;> simp_all
      rw [e2, if_pos rfl] at h
      exact h μ hR (fun _ _ => rfl)
    have turn : ¬ (¬ (A 4513 >>> ((5 * nI p + nI q) &&& 31)) &&& 1 = 1 ↔ how = 0) → Rp (some (.int 1)) S (upI μ (a + 2) 5 (μ (a + 2) 5 ^^^ ((1 : Int32) <<< ((nI p * 5 + nI q) &&& 31) ||| (1 : Int32) <<< ((nI q * 5 + nI p) &&& 31)))) ρ := by
      intro z
      obtain ⟨e1, e2⟩ := lt.2.2 z
      have e3 : μ (a + 2) 5 ^^^ ((1 : Int32) <<< ((nI p * 5 + nI q) &&& 31) ||| (1 : Int32) <<< ((nI q * 5 + nI p) &&& 31)) = L' ^^^ 33554431 := by
        rw [e5, e1, ix5', ix5']
        unfold lnk
        rw [ix5, ix5, Int32.xor_assoc, Int32.xor_comm 33554431, ← Int32.xor_assoc]
      rw [e3]
      rw [if_neg (fun z => e2 z.symm)] at h
      exact h _ (RR_link hR lt.1) (fun y hy => upI_ne (by omega))
    simp only [w_X10_links_34, w_X10_links_51, w_X10_links_52, w_X10_links_57, tAload, tIload, nth, tGetI, tGetR, tConst, tLconst, tBin, tUn, tI2l, tAld, tAldR, tAlen, tIast, tBast, tZast, tAast, tIret, tZret, tVret, tAret, tIf, tIf2, tGoto, tIstore, tAstore, sset, tIinc, tDup, tDup2, tPop, tPutI, tPutZ, tPutR, tCallV, tCallS, popN, tFn, tCopy, tMax, tMin, tSw, swc, tRem, tObjI, Option.toList, List.nil_append, List.cons_append, okR, true_and, and_true, true_or, or_true, Nat.zero_le, ne_eq, not_false_eq_true, Nat.reduceEqDiff, F_X1_isCut, F_X1_turnLink, h1, hW.2.2.2.2.1, hW.2.1]
    have hb : ∀ P : Prop, [Decidable P] → (b2 P = 0 ↔ ¬ P) ∧ (b2 P = 1 ↔ P) := fun P _ => by unfold b2; split <;> simp_all
    have hb2 := hb ((μ (a + 2) 5 >>> ((nI p * 5 + nI q) &&& 31)) &&& 1 = 1)
    refine ⟨fun c4 => ⟨fun c5 => turn (fun z => ?_), fun c5 => same ⟨fun z => ?_, fun z => absurd z c4⟩⟩, fun c4 => ⟨fun c5 => turn (fun z => ?_), fun c5 => same ⟨fun _ => ?_, fun _ => ?_⟩⟩⟩
    · exact c5 (hb2.1.mpr (fun y => c4 (z.mp (cc.mp y))))
    · exact absurd (cc.mpr z) (hb2.1.mp (Classical.not_not.mp c5))
    · exact c5 (hb2.2.mpr (cc.mpr (z.mpr (Classical.not_not.mp c4))))
    · exact Classical.not_not.mp c4
    · exact cc.mp (hb2.2.mp (Classical.not_not.mp c5))
  · exact h.elim
def w_X10_putEntry_12 (M : CT) (G : Nat → PT) (Rp : RT) : PT := tAload 1 <| tAload 1 <| tGetI 7 18 2 <| tIload 2 <| tIload 3 <| tIload 4 <| tFn 4 F_X0_of <| tFn 2 F_X7_append <| tAload 1 <| tGetI 7 18 7 <| tIstore 5 <| tAload 0 <| tAload 1 <| tConst 12 <| tAload 1 <| tGetI 7 18 0 <| tFn 4 F_X10_finish <| tIload 5 <| tIret Rp
def w_X10_putEntry_0 (M : CT) (G : Nat → PT) (Rp : RT) : PT := tAload 1 <| tGetI 7 18 7 <| tConst 100 <| tIf2 (fun x y => x < y) (w_X10_putEntry_12 M G Rp) <| tConst (-4) <| tIret Rp
set_option maxRecDepth 20000 in
theorem b_X10_putEntry_12 {Z : Zt} {d : Nat} {p : Program} {e : Env} {R : Room} {s : State} {m : MethodId} {args : Array Value} {below : List Frame} {meth : Method} {c : Code} {Rp : RT} (C : Cx Z (d + 4) jX10_putEntry RX10 p R s m args meth c) : Sd Z jX10_putEntry p e R s m args below meth c (MQ below (QcS Z Rp) args s 0 0 (fun a => Z.2.2.1 < a)) 12 (w_X10_putEntry_12 (MS Z (d + 4)) (Gw Z 6 p e R s m args below meth c (MQ below (QcS Z Rp) args s 0 0 (fun a => Z.2.2.1 < a))) Rp) := by
  unfold w_X10_putEntry_12
  refine s_aload_n (k := 1) C (by decide +kernel) ?_
  refine s_aload_n (k := 1) C (by decide +kernel) ?_
  refine s_getI C w_1_227 (by decide +kernel) rfl ?_
  refine s_iload_n (k := 2) C (by decide +kernel) ?_
  refine s_iload_n (k := 3) C (by decide +kernel) ?_
  refine s_iload (k := 4) C (by decide +kernel) ?_
  refine s_fnS C (j2 := jX0_of) (by decide +kernel) rfl w_3_151 w_3_152 w_1_9 w_3_153 (by decide +kernel) (fun _ _ _ _ _ h => f_X0_of h) ?_
  refine s_fnV C (j2 := jX7_append) (cl := 7) (nf := 18) rfl rfl (by decide +kernel) rfl w_3_154 w_3_155 w_3_156 w_1_5 w_3_157 (by decide +kernel) (fun _ _ _ _ _ h => f_X7_append h) (fun _ _ _ _ _ h => r_X7_append h) ?_
  refine s_aload_n (k := 1) C (by decide +kernel) ?_
  refine s_getI C w_2_5 (by decide +kernel) rfl ?_
  refine s_istore (k := 5) C (by decide +kernel) ?_
  refine s_aload_n (k := 0) C (by decide +kernel) ?_
  refine s_aload_n (k := 1) C (by decide +kernel) ?_
  refine s_bipush (n := 12) C (by decide +kernel) (by decide) ?_
  refine s_aload_n (k := 1) C (by decide +kernel) ?_
  refine s_getI C w_1_221 (by decide +kernel) rfl ?_
  refine s_fnV C (j2 := jX10_finish) (cl := 10) (nf := 6) rfl rfl (by decide +kernel) rfl w_3_138 w_3_140 w_p1_5 w_1_2 w_3_141 (by decide +kernel) (fun _ _ _ _ _ h => f_X10_finish h) (fun _ _ _ _ _ h => r_X10_finish h) ?_
  refine s_iload (k := 5) C (by decide +kernel) ?_
  exact s_iret C rfl (by decide +kernel)
set_option maxRecDepth 20000 in
theorem b_X10_putEntry_0 {Z : Zt} {d : Nat} {p : Program} {e : Env} {R : Room} {s : State} {m : MethodId} {args : Array Value} {below : List Frame} {meth : Method} {c : Code} {Rp : RT} (C : Cx Z (d + 4) jX10_putEntry RX10 p R s m args meth c) : Sd Z jX10_putEntry p e R s m args below meth c (MQ below (QcS Z Rp) args s 0 0 (fun a => Z.2.2.1 < a)) 0 (w_X10_putEntry_0 (MS Z (d + 4)) (Gw Z 6 p e R s m args below meth c (MQ below (QcS Z Rp) args s 0 0 (fun a => Z.2.2.1 < a))) Rp) := by
  unfold w_X10_putEntry_0
  refine s_aload_n (k := 1) C (by decide +kernel) ?_
  refine s_getI C w_2_5 (by decide +kernel) rfl ?_
  refine s_bipush (n := 100) C (by decide +kernel) (by decide) ?_
  refine s_icmp_lt (off := 6) (tgt := 12) C (by decide +kernel) (by decide) (b_X10_putEntry_12 C) ?_
  refine s_bipush (n := (-4)) C (by decide +kernel) (by decide) ?_
  exact s_iret C rfl (by decide +kernel)
theorem ms_X10_putEntry {Z : Zt} {d : Nat} {S : Sh} {μ : Mi} {ρ : Mr} {Rp : RT} (a0 : Nat) (a1 : Nat) (x2 : Int32) (x3 : Int32) (x4 : Int32) (h : ∀ G : Nat → PT, w_X10_putEntry_0 (MS Z (d + 4)) G Rp [.ref a0, .ref a1, .int x2, .int x3, .int x4, .null] [] S (0, 0) μ ρ) : MS Z (d + 5) jX10_putEntry [.ref a0, .ref a1, .int x2, .int x3, .int x4] S μ ρ Rp :=
  MS_of [.ref a0, .ref a1, .int x2, .int x3, .int x4, .null] (by decide +kernel) rfl rfl (Nat.le_of_ble_eq_true rfl) rfl (fun p e R s m args below meth c C => b_X10_putEntry_0 C _ _ _ _ _ _ (h _ ))
def F_X10_putEntry : FT := fun As S μ ρ k => match As with
  | [.ref a, .ref x, .int kd, .int c, .int v] => S.2 a = (10, 6) ∧ ∃ (s : Nat) (A : Rw), s < 5 ∧ x = a + 130 + 8 * s ∧ RR A a S μ ρ ∧ fnK A s ∧ (rg kd 0 4 ∧ rg c 0 31 ∧ rg v (-999) 999 ∧ (kd = 4 → v = 0) ∧ (kd = 3 → rg v 1 31) ∧ ((kd = 3 ∨ kd = 4) → ¬ c = 0) ∧ ((kd = 1 ∨ kd = 2) → rg c 0 3)) ∧ (¬ A (514 * s + 4) < 100 → k (some (.int (-4))) μ) ∧ (A (514 * s + 4) < 100 → ∀ μ', RR (qProp A s kd c v) a S μ' ρ → Ot a μ μ' → k (some (.int (A (514 * s + 4) + 1))) μ')
  | _ => False
theorem r_X10_putEntry {As S μ ρ k} (h : F_X10_putEntry As S μ ρ k) : ∃ a As', As = Value.ref a :: As' ∧ S.2 a = (10, 6) := by
  unfold F_X10_putEntry at h
  split at h
  · exact ⟨_, _, rfl, h.1⟩
  · exact h.elim
set_option maxHeartbeats 1000000 in
theorem f_X10_putEntry {Z : Zt} {d : Nat} {As : List Value} {S : Sh} {μ : Mi} {ρ : Mr} {Rp : RT} (h : F_X10_putEntry As S μ ρ (fun r μ' => Rp r S μ' ρ)) : MS Z (d + 5) jX10_putEntry As S μ ρ Rp := by
  unfold F_X10_putEntry at h
  split at h
  · rename_i a x kd c v
    obtain ⟨a, hNa⟩ : ∃ n : Nat, n = a := ⟨a, rfl⟩
    subst hNa
    obtain ⟨h1, s, A, hs, rfl, hR, hk, ⟨e1, e2, e3, e4, e5, e6, e7⟩, hn, hy⟩ := h
    refine ms_X10_putEntry _ _ _ _ _ (fun G => ?_)
    have hW := RR_W hR
    obtain ⟨x1, x2, x3⟩ := W_st hW hs
    have hSt := RR_st hR hs
    have hA := hSt.1
    unfold StA at hA
    have pk := ent_pk hk.2.2.2 e1 e2 e3 e4 e5 e6 e7
    obtain ⟨l, l1, l2, -, l3⟩ := rg_ex hSt.2.1.2.1
    simp only [w_X10_putEntry_0, w_X10_putEntry_12, tAload, tIload, nth, tGetI, tGetR, tConst, tLconst, tBin, tUn, tI2l, tAld, tAldR, tAlen, tIast, tBast, tZast, tAast, tIret, tZret, tVret, tAret, tIf, tIf2, tGoto, tIstore, tAstore, sset, tIinc, tDup, tDup2, tPop, tPutI, tPutZ, tPutR, tCallV, tCallS, popN, tFn, tCopy, tMax, tMin, tSw, swc, tRem, tObjI, Option.toList, List.nil_append, List.cons_append, okR, true_and, and_true, true_or, or_true, Nat.zero_le, ne_eq, not_false_eq_true, Nat.reduceEqDiff, F_X0_of, F_X7_append, F_X10_finish, h1, x1, x2, hA, hSt.2.1.2.1]
    refine ⟨fun cl => ?_, fun cl => hn cl⟩
    have hl : l < 100 := by
      rw [l1, show (100 : Int32) = nI 100 from rfl, nI_ltI l2 (by decide)] at cl
      exact cl
    have r1 := RR_put hs hR l1 (by omega) pk.1 pk.2
    have e7' : cApp μ (a + 130 + 8 * s) (ePk (A (514 * s + 1)) kd c v) (a + 130 + 8 * s) 7 = nI (l + 1) := by rw [(RR_st r1 hs).1.2.2.2.2.2.2.2.1, qPut_4 l1]
    have e0' : cApp μ (a + 130 + 8 * s) (ePk (A (514 * s + 1)) kd c v) (a + 130 + 8 * s) 0 = nI s := (RR_st r1 hs).1.1
    refine ⟨s, s, _, _, hs, rfl, r1, Or.inr (Or.inr (Or.inr (Or.inl ⟨rfl, rfl, fnK_put hs hk l1 (by omega) e7⟩))), fun μ' r' o' => ?_⟩
    rw [e7']
    have := hy cl μ' r' (ot_trans (fun y hy => cApp_ne (by omega) (by omega)) o')
    rw [l1, nI_s1] at this
    exact this
  · exact h.elim
