/-! ===== the class: the whole object ===== -/
def anyW (w : Nat) (S : Sh) (μ : Mi) (ρ : Mr) : Prop := ∃ B : Rw, RR B w S μ ρ
def TW (S : Sh) (μ : Mi) (ρ : Mr) : Prop := S.2 1 = (11, 11) ∧ (ρ 1 0 = 2 ∧ ρ 1 1 = 172 ∧ ρ 1 2 = 173 ∧ ρ 1 3 = 174 ∧ ρ 1 4 = 856 ∧ ρ 1 5 = 859) ∧ (S.2 172 = (40, 9) ∧ S.2 173 = (40, 2)) ∧ ((∀ i, i < 9 → ρ 172 i = 867 + 170 * i) ∧ ∀ i, i < 2 → ρ 173 i = 2397 + 170 * i) ∧ PapOK 174 S ρ ∧ anyW 176 S μ ρ ∧ (∀ i, i < 3 → anyW (346 + 170 * i) S μ ρ) ∧ (∀ i, i < 9 → anyW (867 + 170 * i) S μ ρ) ∧ ∀ i, i < 2 → anyW (2397 + 170 * i) S μ ρ
/-- what was, by its number: the last is what can be undone first -/
def PD (sp u : Nat) (D : Nat → Rw) (S : Sh) (μ : Mi) (ρ : Mr) : Prop := ∀ j, j < u → RR (D j) (867 + 170 * ((sp + 9 - u + j) % 9)) S μ ρ
def TC (A : Rw) (u : Nat) (D : Nat → Rw) (S : Sh) (μ : Mi) (ρ : Mr) : Prop := TW S μ ρ ∧ RR A 2 S μ ρ ∧ ∃ sp, μ 1 6 = nI sp ∧ sp < 9 ∧ μ 1 7 = nI u ∧ u ≤ 8 ∧ PD sp u D S μ ρ
theorem any_far {w v : Nat} {S : Sh} {μ μ' : Mi} {ρ ρ' : Mr} (h : anyW w S μ ρ) (ha : apW v w) (ho : Ot v μ μ') (hr : Orf v ρ ρ') : anyW w S μ' ρ' := by
  obtain ⟨B, hB⟩ := h
  exact ⟨B, RR_far hB ha ho hr⟩
theorem any_I {w : Nat} {S : Sh} {μ : Mi} {ρ : Mr} (h : anyW w S μ ρ) : S.2 w = (10, 6) ∧ WOK w S ρ ∧ WI w μ := by
  obtain ⟨B, hB⟩ := h
  exact ⟨hB.1.1.2.1.1, hB.1.1, fun s hs => (RR_st hB hs).1.1⟩
/-- a world at v changes: the others stay -/
theorem TW_v {v : Nat} {S : Sh} {μ μ' : Mi} {ρ ρ' : Mr} (h : TW S μ ρ) (hv : v = 2 ∨ v = 176 ∨ (∃ i, i < 3 ∧ v = 346 + 170 * i) ∨ (∃ i, i < 9 ∧ v = 867 + 170 * i) ∨ ∃ i, i < 2 ∧ v = 2397 + 170 * i) (hn : anyW v S μ' ρ') (ho : Ot v μ μ') (hr : Orf v ρ ρ') : TW S μ' ρ' := by
  obtain ⟨h0, h1, h2, h3, h4, h5, h6, h7, h8⟩ := h
  have hb : v = 2 ∨ 176 ≤ v := by
    rcases hv with z | z | ⟨i, i1, z⟩ | ⟨i, i1, z⟩ | ⟨i, i1, z⟩ <;> omega
  have r : ∀ y, y = 1 ∨ y = 172 ∨ y = 173 ∨ y = 174 ∨ y = 175 → ρ' y = ρ y := fun y hy => hr y (by
    rcases hv with z | z | ⟨i, i1, z⟩ | ⟨i, i1, z⟩ | ⟨i, i1, z⟩ <;> omega)
  refine ⟨h0, ?_, h2, ⟨fun i hi => ?_, fun i hi => ?_⟩, ?_, ?_, fun i hi => ?_, fun i hi => ?_, fun i hi => ?_⟩
  · rw [r 1 (by omega)]; exact h1
  · rw [r 172 (by omega)]; exact h3.1 i hi
  · rw [r 173 (by omega)]; exact h3.2 i hi
  · unfold PapOK at *
    rw [r 174 (by omega), r (174 + 1) (by omega)]
    exact h4
  · by_cases c : v = 176
    · subst c; exact hn
    · exact any_far h5 (by unfold apW; rcases hv with z | z | ⟨i, i1, z⟩ | ⟨i, i1, z⟩ | ⟨i, i1, z⟩ <;> omega) ho hr
  · by_cases c : v = 346 + 170 * i
    · subst c; exact hn
    · exact any_far (h6 i hi) (by unfold apW; rcases hv with z | z | ⟨i, i1, z⟩ | ⟨i, i1, z⟩ | ⟨i, i1, z⟩ <;> omega) ho hr
  · by_cases c : v = 867 + 170 * i
    · subst c; exact hn
    · exact any_far (h7 i hi) (by unfold apW; rcases hv with z | z | ⟨i, i1, z⟩ | ⟨i, i1, z⟩ | ⟨i, i1, z⟩ <;> omega) ho hr
  · by_cases c : v = 2397 + 170 * i
    · subst c; exact hn
    · exact any_far (h8 i hi) (by unfold apW; rcases hv with z | z | ⟨i, i1, z⟩ | ⟨i, i1, z⟩ | ⟨i, i1, z⟩ <;> omega) ho hr
theorem RR_in {A : Rw} {w : Nat} {S : Sh} {μ μ' : Mi} {ρ : Mr} (h : RR A w S μ ρ) (o : ∀ y, w ≤ y → y < w + 170 → μ' y = μ y) : RR A w S μ' ρ := by
  obtain ⟨⟨h1, h2, h3, h4, h5⟩, h6⟩ := h
  refine ⟨⟨h1, fun s hs => ?_, ⟨?_, h3.2.1, fun i hi => ?_⟩, ⟨fun p p1 p2 => ?_, fun t t1 t2 => ?_⟩, ?_⟩, Nx_keep h6 (fun _ _ _ _ => rfl) (fun s hs => ⟨o _ (by omega) (by omega), o _ (by omega) (by omega)⟩)⟩
  · exact St_congr hs (h2 s hs) (fun _ _ _ => rfl) rfl (fun y y1 y2 => o y (by omega) (by omega))
  · rw [o _ (by omega) (by omega)]; exact h3.1
  · obtain ⟨n, e1, e2, -, e3⟩ := rg_ex h3.2.1.1
    have hi' := hi
    rw [e1, nI_clamp e2] at hi'
    obtain ⟨j, j1, j2, -⟩ := WOK_box h1 (i := i) (by omega)
    exact MsR_congr (h3.2.2 i hi) (fun _ _ => rfl) rfl (o _ (by omega) (by omega)) (o _ (by omega) (by omega))
  · rw [o _ (by omega) (by omega)]; exact h4.1 p p1 p2
  · rw [o _ (by omega) (by omega)]; exact h4.2 t t1 t2
  · unfold Wd at *
    rw [o _ (by omega) (by omega)]; exact h5
/-- what the object notes of itself changes -/
theorem TW_1 {S : Sh} {μ : Mi} {ρ : Mr} {k : Nat} {v : Int32} (h : TW S μ ρ) : TW S (upI μ 1 k v) ρ := by
  have any : ∀ w, 2 ≤ w → anyW w S μ ρ → anyW w S (upI μ 1 k v) ρ := by
    intro w hw ⟨B, hB⟩
    have h1 : ∀ y, 2 ≤ y → upI μ 1 k v y = μ y := fun y hy => upI_ne (by omega)
    refine ⟨B, RR_in hB (fun y y1 y2 => h1 y (by omega))⟩
  obtain ⟨h0, h1, h2, h3, h4, h5, h6, h7, h8⟩ := h
  exact ⟨h0, h1, h2, h3, h4, any _ (by omega) h5, fun i hi => any _ (by omega) (h6 i hi), fun i hi => any _ (by omega) (h7 i hi), fun i hi => any _ (by omega) (h8 i hi)⟩
/-- what acts leave alone -/
def KT (μ μ' : Mi) : Prop := (∀ y, (856 ≤ y ∧ y < 867) ∨ 2397 ≤ y → μ' y = μ y) ∧ ∀ i, i ≠ 6 → i ≠ 7 → μ' 1 i = μ 1 i
def KR (ρ ρ' : Mr) : Prop := ∀ y, (856 ≤ y ∧ y < 867) ∨ 2397 ≤ y ∨ y = 1 → ρ' y = ρ y
def w_X11_remember_0 (M : CT) (G : Nat → PT) (Rp : RT) : PT := tAload 0 <| tGetR 11 11 1 <| tAload 0 <| tGetI 11 11 6 <| tAldR 40 <| tAload 0 <| tGetR 11 11 0 <| tFn 2 F_X10_copyFrom <| tVret Rp
set_option maxRecDepth 20000 in
theorem b_X11_remember_0 {Z : Zt} {d : Nat} {p : Program} {e : Env} {R : Room} {s : State} {m : MethodId} {args : Array Value} {below : List Frame} {meth : Method} {c : Code} {Rp : RT} (C : Cx Z (d + 3) jX11_remember RX11 p R s m args meth c) : Sd Z jX11_remember p e R s m args below meth c (MQ below (QcS Z Rp) args s 0 0 (fun a => Z.2.2.1 < a)) 0 (w_X11_remember_0 (MS Z (d + 3)) (Gw Z 1 p e R s m args below meth c (MQ below (QcS Z Rp) args s 0 0 (fun a => Z.2.2.1 < a))) Rp) := by
  unfold w_X11_remember_0
  refine s_aload_n (k := 0) C (by decide +kernel) ?_
  refine s_getR C w_2_235 (by decide +kernel) rfl ?_
  refine s_aload_n (k := 0) C (by decide +kernel) ?_
  refine s_getI C w_3_0 (by decide +kernel) rfl ?_
  refine s_aald C rfl (by decide +kernel) ?_
  refine s_aload_n (k := 0) C (by decide +kernel) ?_
  refine s_getR C w_2_234 (by decide +kernel) rfl ?_
  refine s_fnV C (j2 := jX10_copyFrom) (cl := 10) (nf := 6) rfl rfl (by decide +kernel) rfl w_3_36 w_3_37 w_3_38 w_1_2 w_3_39 (by decide +kernel) (fun _ _ _ _ _ h => f_X10_copyFrom h) (fun _ _ _ _ _ h => r_X10_copyFrom h) ?_
  exact s_vret C rfl (by decide +kernel)
theorem ms_X11_remember {Z : Zt} {d : Nat} {S : Sh} {μ : Mi} {ρ : Mr} {Rp : RT} (a0 : Nat) (h : ∀ G : Nat → PT, w_X11_remember_0 (MS Z (d + 3)) G Rp [.ref a0] [] S (0, 0) μ ρ) : MS Z (d + 4) jX11_remember [.ref a0] S μ ρ Rp :=
  MS_of [.ref a0] (by decide +kernel) rfl rfl (Nat.le_of_ble_eq_true rfl) rfl (fun p e R s m args below meth c C => b_X11_remember_0 C _ _ _ _ _ _ (h _ ))
def F_X11_remember : FT := fun As S μ ρ k => match As with
  | [.ref a] => S.2 a = (11, 11) ∧ a = 1 ∧ ∃ (A : Rw) (u : Nat) (D : Nat → Rw), TC A u D S μ ρ ∧ ∀ μ' sp, TW S μ' ρ → RR A 2 S μ' ρ → RR A (867 + 170 * sp) S μ' ρ → PD sp u D S μ' ρ → μ 1 6 = nI sp → sp < 9 → μ 1 7 = nI u → u ≤ 8 → Ot (867 + 170 * sp) μ μ' → k none μ'
  | _ => False
theorem r_X11_remember {As S μ ρ k} (h : F_X11_remember As S μ ρ k) : ∃ a As', As = Value.ref a :: As' ∧ S.2 a = (11, 11) := by
  unfold F_X11_remember at h
  split at h
  · exact ⟨_, _, rfl, h.1⟩
  · exact h.elim
set_option maxHeartbeats 1000000 in
theorem f_X11_remember {Z : Zt} {d : Nat} {As : List Value} {S : Sh} {μ : Mi} {ρ : Mr} {Rp : RT} (h : F_X11_remember As S μ ρ (fun r μ' => Rp r S μ' ρ)) : MS Z (d + 4) jX11_remember As S μ ρ Rp := by
  unfold F_X11_remember at h
  split at h
  · rename_i a
    obtain ⟨h1, rfl, A, u, D, ⟨hT, hR, sp, e6, hsp, e7, hu, hD⟩, h⟩ := h
    refine ms_X11_remember _ (fun G => ?_)
    have hT' := hT
    obtain ⟨h0, r, s2, r3, hP, w5, w6, w7, w8⟩ := hT
    obtain ⟨j1, j2, j3⟩ := any_I (w7 sp hsp)
    have i1 := (RR_W hR).2.1.1
    simp only [w_X11_remember_0, tAload, tIload, nth, tGetI, tGetR, tConst, tLconst, tBin, tUn, tI2l, tAld, tAldR, tAlen, tIast, tBast, tZast, tAast, tIret, tZret, tVret, tAret, tIf, tIf2, tGoto, tIstore, tAstore, sset, tIinc, tDup, tDup2, tPop, tPutI, tPutZ, tPutR, tCallV, tCallS, popN, tFn, tCopy, tMax, tMin, tSw, swc, tRem, tObjI, Option.toList, List.nil_append, List.cons_append, okR, true_and, and_true, true_or, or_true, Nat.zero_le, ne_eq, not_false_eq_true, Nat.reduceEqDiff, F_X10_copyFrom, h0, r, s2, e6, nI_clamp (show sp < 2 ^ 31 by omega), r3.1 sp hsp, j1, i1]
    refine ⟨inb_nI hsp (by decide), by omega, j2, j3, by unfold apW; omega, A, hR, fun μ' q o => ?_⟩
    refine h μ' sp (TW_v hT' (Or.inr (Or.inr (Or.inr (Or.inl ⟨sp, hsp, rfl⟩)))) ⟨_, q⟩ o (fun _ _ => rfl)) (RR_far hR (by unfold apW; omega) o (fun _ _ => rfl)) q (fun j hj => RR_far (hD j hj) ?_ o (fun _ _ => rfl)) e6 hsp e7 hu o
    unfold apW
    have : (sp + 9 - u + j) % 9 ≠ sp := by omega
    omega
  · exact h.elim
