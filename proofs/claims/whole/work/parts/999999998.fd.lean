/-! ===== what is made: the whole object ===== -/
section Mk6
variable {Z : Zt} {d : Nat} {S : Sh} {μ : Mi} {ρ : Mr} {Rp : RT}
set_option maxHeartbeats 2000000 in
theorem f_X11_init (h1 : S.1 = 2) (hS : S.2 1 = (11, 11)) (h : ∀ S' μ' ρ', AK 9 2 S' μ' ρ' → Rp none S' μ' ρ') : MS Z (d + 7) jX11_init [.ref 1] S μ ρ Rp := by
  obtain ⟨n, K⟩ := S
  dsimp only at h1 hS
  subst h1
  refine ms_X11_init _ (fun G g92 g119 => ?_)
  have loop := x11_loop1 (Z := Z) (d := d) (Rp := Rp) (G := G) g92 g119 h
  simp only [w_X11_init_0, tAload, tIload, nth, tGetI, tGetR, tConst, tLconst, tBin, tUn, tI2l, tAld, tAldR, tAlen, tIast, tBast, tZast, tAast, tIret, tZret, tVret, tAret, tIf, tIf2, tGoto, tIstore, tAstore, sset, tIinc, tDup, tDup2, tPop, tPutI, tPutZ, tPutR, tCallV, tCallS, popN, tFn, tCopy, tMax, tMin, tSw, swc, tRem, tObjI, Option.toList, List.nil_append, List.cons_append, okR, true_and, and_true, true_or, or_true, Nat.zero_le, ne_eq, not_false_eq_true, Nat.reduceEqDiff, tNew, tNewa, tAnew, tCallI, show Int32.toNatClampNeg 9 = 9 from by decide, show Int32.toNatClampNeg 2 = 2 from by decide]
  refine ⟨by decide, by decide, by decide, by decide, ?_⟩
  refine f_X10_init (by omega) rfl (by simp [upK]) (fun S1 μ1 ρ1 B gg e1 => ?_)
  obtain ⟨t1, t2, t3, t4⟩ := gg
  obtain ⟨n1, K1⟩ := S1
  dsimp only at t1 t2 t3 t4
  obtain rfl : n1 = 172 := by omega
  have a1 : K1 1 = (11, 11) := by rw [t2 1 (by omega), upK_ne (by omega)]; exact hS
  simp only [tAload, tIload, nth, tGetI, tGetR, tConst, tLconst, tBin, tUn, tI2l, tAld, tAldR, tAlen, tIast, tBast, tZast, tAast, tIret, tZret, tVret, tAret, tIf, tIf2, tGoto, tIstore, tAstore, sset, tIinc, tDup, tDup2, tPop, tPutI, tPutZ, tPutR, tCallV, tCallS, popN, tFn, tCopy, tMax, tMin, tSw, swc, tRem, tObjI, Option.toList, List.nil_append, List.cons_append, okR, true_and, and_true, true_or, or_true, Nat.zero_le, ne_eq, not_false_eq_true, Nat.reduceEqDiff, tNew, tNewa, tAnew, tCallI, show Int32.toNatClampNeg 9 = 9 from by decide, show Int32.toNatClampNeg 2 = 2 from by decide]
  refine ⟨a1, by decide, by decide, by decide, by decide, by rw [upK_ne (by omega)]; exact a1, by decide, by decide, by decide, by decide, by rw [upK_ne (by omega), upK_ne (by omega)]; exact a1, by decide, by decide, by decide, by decide, ?_⟩
  refine f_X3_init (a := 174) (by omega) rfl (by simp [upK]) (fun S2 μ2 ρ2 gg k2 => ?_)
  obtain ⟨u1, u2, u3, u4⟩ := gg
  obtain ⟨n2, K2⟩ := S2
  dsimp only at u1 u2 u3 u4
  obtain rfl : n2 = 856 := by omega
  have a2 : K2 1 = (11, 11) := by rw [u2 1 (by omega), upK_ne (by omega), upK_ne (by omega), upK_ne (by omega)]; exact a1
  simp only [tAload, tIload, nth, tGetI, tGetR, tConst, tLconst, tBin, tUn, tI2l, tAld, tAldR, tAlen, tIast, tBast, tZast, tAast, tIret, tZret, tVret, tAret, tIf, tIf2, tGoto, tIstore, tAstore, sset, tIinc, tDup, tDup2, tPop, tPutI, tPutZ, tPutR, tCallV, tCallS, popN, tFn, tCopy, tMax, tMin, tSw, swc, tRem, tObjI, Option.toList, List.nil_append, List.cons_append, okR, true_and, and_true, true_or, or_true, Nat.zero_le, ne_eq, not_false_eq_true, Nat.reduceEqDiff, tNew, tNewa, tAnew, tCallI]
  refine ⟨a2, by decide, by decide, by decide, by decide, ?_⟩
  refine f_X9_init (a := 856) rfl (by simp [upK]) (fun S3 μ3 ρ3 gg k3 r3 m3 => ?_)
  obtain ⟨v1, v2, v3, v4⟩ := gg
  obtain ⟨n3, K3⟩ := S3
  dsimp only at v1 v2 v3 v4 k3
  obtain rfl : n3 = 859 := by omega
  have a3 : K3 1 = (11, 11) := by rw [v2 1 (by omega), upK_ne (by omega)]; exact a2
  simp only [tAload, tIload, nth, tGetI, tGetR, tConst, tLconst, tBin, tUn, tI2l, tAld, tAldR, tAlen, tIast, tBast, tZast, tAast, tIret, tZret, tVret, tAret, tIf, tIf2, tGoto, tIstore, tAstore, sset, tIinc, tDup, tDup2, tPop, tPutI, tPutZ, tPutR, tCallV, tCallS, popN, tFn, tCopy, tMax, tMin, tSw, swc, tRem, tObjI, Option.toList, List.nil_append, List.cons_append, okR, true_and, and_true, true_or, or_true, Nat.zero_le, ne_eq, not_false_eq_true, Nat.reduceEqDiff, tNew, tNewa, tAnew, tCallI]
  refine ⟨a3, by decide, by decide, by decide, by decide, ?_⟩
  refine f_X4_init (a := 859) rfl (by simp [upK]) (fun S4 μ4 ρ4 gg k4 r4 => ?_)
  obtain ⟨w1, w2, w3, w4⟩ := gg
  obtain ⟨n4, K4⟩ := S4
  dsimp only at w1 w2 w3 w4 k4
  obtain rfl : n4 = 867 := by omega
  have a4 : K4 1 = (11, 11) := by rw [w2 1 (by omega), upK_ne (by omega)]; exact a3
  simp only [tAload, tIload, nth, tGetI, tGetR, tConst, tLconst, tBin, tUn, tI2l, tAld, tAldR, tAlen, tIast, tBast, tZast, tAast, tIret, tZret, tVret, tAret, tIf, tIf2, tGoto, tIstore, tAstore, sset, tIinc, tDup, tDup2, tPop, tPutI, tPutZ, tPutR, tCallV, tCallS, popN, tFn, tCopy, tMax, tMin, tSw, swc, tRem, tObjI, Option.toList, List.nil_append, List.cons_append, okR, true_and, and_true, true_or, or_true, Nat.zero_le, ne_eq, not_false_eq_true, Nat.reduceEqDiff]
  refine ⟨a4, a4, a4, a4, a4, a4, ?_⟩
  have c43 : ∀ y, y < 859 → K4 y = K3 y := fun y hy => by rw [w2 y (by omega), upK_ne (by omega)]
  have c32 : ∀ y, y < 856 → K3 y = K2 y := fun y hy => by rw [v2 y (by omega), upK_ne (by omega)]
  have c21 : ∀ y, y < 172 → K2 y = K1 y := fun y hy => by rw [u2 y (by omega), upK_ne (by omega), upK_ne (by omega), upK_ne (by omega)]
  have m43 : ∀ y, y < 859 → μ4 y = μ3 y := fun y hy => by rw [w3 y (by omega) (by omega), upF_ne (by omega)]
  have m32 : ∀ y, y < 856 → μ3 y = μ2 y := fun y hy => by rw [v3 y (by omega) (by omega), upF_ne (by omega)]
  have m21 : ∀ y, y < 172 → μ2 y = μ1 y := fun y hy => by rw [u3 y (by omega) (by omega), upF_ne (by omega), upF_ne (by omega), upF_ne (by omega)]
  have p43 : ∀ y, y < 859 → y ≠ 1 → ρ4 y = ρ3 y := fun y hy h => by rw [w4 y (by omega) (by omega), upFr_ne (by omega), upR_ne h]
  have p32 : ∀ y, y < 856 → y ≠ 1 → ρ3 y = ρ2 y := fun y hy h => by rw [v4 y (by omega) (by omega), upFr_ne (by omega), upR_ne h]
  have p21 : ∀ y, y < 172 → y ≠ 1 → ρ2 y = ρ1 y := fun y hy h => by rw [u4 y (by omega) (by omega), upFr_ne (by omega), upR_ne h, upFr_ne (by omega), upR_ne h, upFr_ne (by omega), upR_ne h]
  have q4 : ρ4 1 4 = 856 ∧ ∀ k, k ≠ 4 → ρ4 1 k = ρ3 1 k := by
    have e : ρ4 1 = upR ρ3 1 4 856 1 := by rw [w4 1 (by omega) (by omega), upFr_ne (by omega)]
    exact ⟨by rw [e, upR_at], fun k hk => by rw [e, upR_k hk]⟩
  have q3 : ρ3 1 3 = 174 ∧ ∀ k, k ≠ 3 → ρ3 1 k = ρ2 1 k := by
    have e : ρ3 1 = upR ρ2 1 3 174 1 := by rw [v4 1 (by omega) (by omega), upFr_ne (by omega)]
    exact ⟨by rw [e, upR_at], fun k hk => by rw [e, upR_k hk]⟩
  have q2 : ρ2 1 0 = 2 ∧ ρ2 1 1 = 172 ∧ ρ2 1 2 = 173 := by
    have e := u4 1 (by omega) (by omega)
    refine ⟨?_, ?_, ?_⟩
    · rw [e, upFr_ne (by omega), upR_k (by omega), upFr_ne (by omega), upR_k (by omega), upFr_ne (by omega), upR_at]
    · rw [e, upFr_ne (by omega), upR_k (by omega), upFr_ne (by omega), upR_at]
    · rw [e, upFr_ne (by omega), upR_at]
  obtain ⟨j1, ⟨j2, j3⟩, j4, j5⟩ := k2
  have ms : ∀ (a b c d e : Int32) (y : Nat), y ≠ 1 → upI (upI (upI (upI (upI μ4 1 6 a) 1 7 b) 1 8 c) 1 9 d) 1 10 e y = μ4 y := fun a b c d e y hy => by rw [upI_ne hy, upI_ne hy, upI_ne hy, upI_ne hy, upI_ne hy]
  have := loop 9 0 (867, K4) (upI (upI (upI (upI (upI μ4 1 6 0) 1 7 0) 1 8 0) 1 9 0) 1 10 (-1)) (upR ρ4 1 5 859) rfl ⟨rfl, ⟨⟨a4, ?_, ?_⟩, ⟨?_, ?_, ?_, ?_, ?_, ?_⟩, ⟨B, RR_blk e1 (fun y y1 y2 => ?_) (fun y y1 y2 => ?_) (fun y y1 y2 => ?_)⟩, ?_, any_blk j4 (fun y y1 y2 => ?_) (fun y y1 y2 => ?_) (fun y y1 y2 => ?_), fun k hk => any_blk (j5 k hk).1 (fun y y1 y2 => ?_) (fun y y1 y2 => ?_) (fun y y1 y2 => ?_), ?_, ?_, ?_, ?_⟩, fun k hk => by omega, fun k hk => by omega⟩
  · exact this
  · rw [show ((867, K4) : Sh).2 172 = K4 172 from rfl, c43 _ (by omega), c32 _ (by omega), u2 _ (by omega), upK_ne (by omega), upK_ne (by omega)]; simp [upK]
  · rw [show ((867, K4) : Sh).2 173 = K4 173 from rfl, c43 _ (by omega), c32 _ (by omega), u2 _ (by omega), upK_ne (by omega)]; simp [upK]
  · rw [upR_k (by omega), q4.2 _ (by omega), q3.2 _ (by omega)]; exact q2.1
  · rw [upR_k (by omega), q4.2 _ (by omega), q3.2 _ (by omega)]; exact q2.2.1
  · rw [upR_k (by omega), q4.2 _ (by omega), q3.2 _ (by omega)]; exact q2.2.2
  · rw [upR_k (by omega), q4.2 _ (by omega)]; exact q3.1
  · rw [upR_k (by omega)]; exact q4.1
  · rw [upR_at]
  · exact (c43 y (by omega)).trans ((c32 y (by omega)).trans (c21 y (by omega)))
  · rw [ms _ _ _ _ _ y (by omega), m43 y (by omega), m32 y (by omega), m21 y (by omega)]
  · rw [upR_ne (by omega), p43 y (by omega) (by omega), p32 y (by omega) (by omega), p21 y (by omega) (by omega)]
  · have s4 : K2 174 = (3, 2) := by rw [u2 174 (by omega)]; simp [upK]
    refine ⟨?_, ?_, ?_, ?_, fun i hi => ?_, by omega⟩
    · exact (c43 _ (by omega)).trans ((c32 _ (by omega)).trans s4)
    · rw [upR_ne (by omega), p43 _ (by omega) (by omega), p32 _ (by omega) (by omega)]; exact j2
    · rw [upR_ne (by omega), p43 _ (by omega) (by omega), p32 _ (by omega) (by omega)]; exact j3
    · exact (c43 _ (by omega)).trans ((c32 _ (by omega)).trans j1)
    · rw [upR_ne (by omega), p43 _ (by omega) (by omega), p32 _ (by omega) (by omega)]; exact (j5 i hi).2
  · exact (c43 y (by omega)).trans (c32 y (by omega))
  · rw [ms _ _ _ _ _ y (by omega), m43 y (by omega), m32 y (by omega)]
  · rw [upR_ne (by omega), p43 y (by omega) (by omega), p32 y (by omega) (by omega)]
  · exact (c43 y (by omega)).trans (c32 y (by omega))
  · rw [ms _ _ _ _ _ y (by omega), m43 y (by omega), m32 y (by omega)]
  · rw [upR_ne (by omega), p43 y (by omega) (by omega), p32 y (by omega) (by omega)]
  · have s4 : K3 856 = (9, 7) := by rw [v2 856 (by omega)]; simp [upK]
    refine ⟨(c43 _ (by omega)).trans s4, (c43 _ (by omega)).trans k3.1, (c43 _ (by omega)).trans k3.2, ?_, ?_⟩
    · rw [upR_ne (by omega), p43 _ (by omega) (by omega)]; exact r3.1
    · rw [upR_ne (by omega), p43 _ (by omega) (by omega)]; exact r3.2
  · have s4 : K4 859 = (4, 10) := by rw [w2 859 (by omega)]; simp [upK]
    refine ⟨s4, k4, ?_⟩
    rw [upR_ne (by omega)]
    exact r4
  · simp (disch := omega) only [upI_k, upI_at, and_self]
  · rw [ms _ _ _ _ _ 856 (by omega), m43 _ (by omega)]; exact m3
end Mk6
