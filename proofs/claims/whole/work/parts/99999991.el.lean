/-! ===== the class: reading, as a whole ===== -/
/-- the fault of a script that was read -/
def cWr (n : Nat) (B : Cs × List In) : Int32 × Int32 := if ¬ B.1.1.2.1 = 0 ∨ n ≤ B.1.1.1 then B.1.1.2 else (1, nI B.1.1.1)
section Pa
variable {Z : Zt} {d : Nat} {S : Sh} {μ : Mi} {ρ : Mr} {Rp : RT} {T : Rw} {n : Nat}
theorem f_X9_parse (hZ : ZX Z) (hP : PgS S ρ) (hS : TpS S ρ) (hn : n ≤ 300) (hb : ∀ i, i < n → μ 857 i = T i &&& 255) (hby : byT T n) {B : Cs × List In} (hB : cActs T n 3 0 ((0, 0, -1), μ 858) = B)
    (hbad : ¬ (cWr n B).1 = 0 → ∀ ν', FrP μ ν' → ν' 856 3 = (cWr n B).1 → ν' 856 4 = (cWr n B).2 → Rp none S ν' ρ)
    (hok : (cWr n B).1 = 0 → B.1.1.2 = (0, -1) → ∀ ν', FrP μ ν' → ν' 856 3 = 0 → ν' 856 4 = -1 → ν' 859 7 = nI B.2.length → B.2.length ≤ 300 → cdA ν' B.2 0 → Rp none S ν' ρ) :
    MS Z (d + 9) jX9_parse [.ref 856, .int (nI n), .ref 859] S μ ρ Rp := by
  have hP0 := hP.1
  obtain ⟨t1, t2, t3, t4, t5⟩ := id hS
  refine ms_X9_parse _ _ _ (fun G g => ?_)
  have g32 : G32 Z d G Rp := fun L st S q μ ρ h => g L st S q μ ρ h
  obtain ⟨ν0, hν0⟩ : ∃ ν0, ν0 = upI (upI (upI (upI (upI (upI μ 856 3 0) 856 4 (-1)) 856 5 (nI n)) 856 6 0) 859 7 0) 859 8 0 := ⟨_, rfl⟩
  have q0 : ∀ a, a ≠ 856 → a ≠ 859 → ν0 a = μ a := fun a h1 h2 => by rw [hν0, upI_ne h2, upI_ne h2, upI_ne h1, upI_ne h1, upI_ne h1, upI_ne h1]
  have x3 : ν0 856 3 = 0 := by rw [hν0, upI_ne (by omega), upI_ne (by omega), upI_k (by omega), upI_k (by omega), upI_k (by omega), upI_at]
  have x4 : ν0 856 4 = -1 := by rw [hν0, upI_ne (by omega), upI_ne (by omega), upI_k (by omega), upI_k (by omega), upI_at]
  have x5 : ν0 856 5 = nI n := by rw [hν0, upI_ne (by omega), upI_ne (by omega), upI_k (by omega), upI_at]
  have x6 : ν0 856 6 = nI 0 := by rw [hν0, upI_ne (by omega), upI_ne (by omega), upI_at]; rfl
  have x7 : ν0 859 7 = nI 0 := by rw [hν0, upI_k (by omega), upI_at]; rfl
  have x8 : ν0 859 8 = nI 0 := by rw [hν0, upI_at]; rfl
  have fr0 : FrP μ ν0 := ⟨fun a h1 h2 h3 => q0 a h1 (by omega), fun i i1 i2 i3 i4 => by rw [hν0, upI_ne (by omega), upI_ne (by omega), upI_k i4, upI_k i3, upI_k i2, upI_k i1]⟩
  have hH0 : Hd0 T n S ρ μ ν0 0 (μ 858) 0 0 := ⟨⟨hS, x5, hn, x6, by omega, fun i hi => by rw [q0 _ (by omega) (by omega)]; exact hb i hi⟩, ⟨x3, x4⟩, q0 _ (by omega) (by omega), ⟨x7, x8⟩, fr0, by omega, by omega, by omega⟩
  have hm : (if (300 : Int32) < nI n then 300 else nI n) = nI n := if_neg (by rw [show (300 : Int32) = nI 300 from rfl, nI_ltI (by decide) (by omega)]; omega)
  simp only [w_X9_parse_0, tAload, tIload, nth, tGetI, tGetR, tConst, tLconst, tBin, tUn, tI2l, tAld, tAldR, tAlen, tIast, tBast, tZast, tAast, tIret, tZret, tVret, tAret, tIf, tIf2, tGoto, tIstore, tAstore, sset, tIinc, tDup, tDup2, tPop, tPutI, tPutZ, tPutR, tCallV, tCallS, popN, tFn, tCopy, tMax, tMin, tSw, swc, tRem, tObjI, Option.toList, List.nil_append, List.cons_append, okR, true_and, and_true, true_or, or_true, Nat.zero_le, ne_eq, not_false_eq_true, Nat.reduceEqDiff, F_X4_clear, t1, hP0, hm]
  rw [← hν0]
  obtain ⟨b1, b2⟩ := blk_n (T := T) (show 0 ≤ n by omega)
  have okB : okw B.1.1.2 := by rw [← hB]; exact cActs_ok 3 0 _ (Or.inl rfl)
  refine hd_af g32 (i := 0) hH0 (by omega) ?_
  have hH1 : Hd0 T n S ρ μ (tM ν0 (blk T n 0) (μ 858)) (blk T n 0) (μ 858) 0 (3 - 3) := by
    obtain ⟨y1, ⟨y2, y3⟩, y4, ⟨y5, y6⟩, y7, y8, y9, y10⟩ := hH0
    exact ⟨TpR_tM y1 (by omega), ⟨by rw [tM_k (by omega)]; exact y2, by rw [tM_k (by omega)]; exact y3⟩, tM_t, ⟨by rw [tM_o (by omega) (by omega)]; exact y5, by rw [tM_o (by omega) (by omega)]; exact y6⟩, FrP_tM y7, b2, by omega, by omega⟩
  refine rd_acts hZ hP hby g32 3 (by omega) 0 (μ 858) 0 _ B hB hH1 (fun w0 ν' f1 f2 f3 => ?_) (fun w0 ν' z1 z2 z3 z4 z5 z6 z9 => ?_)
  · have e : cWr n B = B.1.1.2 := by unfold cWr; rw [if_pos (Or.inl w0)]
    rw [e] at hbad
    exact hbad w0 ν' f1 f2 f3
  · obtain ⟨zT, ⟨zf1, zf2⟩, zt, ⟨z7, z8⟩, zf, zn, zk, zo⟩ := id z1
    rw [Nat.zero_add] at z7 zk
    intro i hi
    refine ⟨fun hlt => ?_, fun hge => ?_⟩
    · have e : cWr n B = (1, nI B.1.1.1) := by unfold cWr; rw [if_neg (fun y => y.elim (fun q => q w0) (fun q => by omega))]
      rw [e] at hbad
      have nw := no_word z6
      simp only [w_X9_parse_64, tAload, tIload, nth, tGetI, tGetR, tConst, tLconst, tBin, tUn, tI2l, tAld, tAldR, tAlen, tIast, tBast, tZast, tAast, tIret, tZret, tVret, tAret, tIf, tIf2, tGoto, tIstore, tAstore, sset, tIinc, tDup, tDup2, tPop, tPutI, tPutZ, tPutR, tCallV, tCallS, popN, tFn, tCopy, tMax, tMin, tSw, swc, tRem, tObjI, Option.toList, List.nil_append, List.cons_append, okR, true_and, and_true, true_or, or_true, Nat.zero_le, ne_eq, not_false_eq_true, Nat.reduceEqDiff, t1]
      refine f_X9_parseItem (d := d) hZ hP zT hby zn zf1 zf2 z7 (by omega) z8 zo (fun _ y => by omega) ?_ (fun _ y => absurd (nw.symm.trans y) (by decide)) (fun _ wi hwi y => absurd (nw.symm.trans y).symm (nI_nm1 (by omega)))
      intro _ _ μ' hft
      show G 32 [.ref 856, .int (nI n), .ref 859, .int (nI i + 1)] [] S (0, 0) μ' ρ
      rw [nI_s1]
      exact hd_bad g32 t1 (by omega) (by rw [hft.2.1]; decide) (hbad (nz1 _) μ' (FrP_ft zf hft) hft.2.1 hft.2.2.1)
    · have e : cWr n B = B.1.1.2 := by unfold cWr; rw [if_pos (Or.inr hge)]
      rw [e] at hok
      simp only [w_X9_parse_75, w_X9_parse_98, tAload, tIload, nth, tGetI, tGetR, tConst, tLconst, tBin, tUn, tI2l, tAld, tAldR, tAlen, tIast, tBast, tZast, tAast, tIret, tZret, tVret, tAret, tIf, tIf2, tGoto, tIstore, tAstore, sset, tIinc, tDup, tDup2, tPop, tPutI, tPutZ, tPutR, tCallV, tCallS, popN, tFn, tCopy, tMax, tMin, tSw, swc, tRem, tObjI, Option.toList, List.nil_append, List.cons_append, okR, true_and, and_true, true_or, or_true, Nat.zero_le, ne_eq, not_false_eq_true, Nat.reduceEqDiff, F_X9_fail, t1, hP0, zf1, z8]
      exact ⟨fun y => absurd trivial y, fun _ => ⟨fun _ => hok w0 (okw_0 okB w0) ν' zf zf1 zf2 z7 (by omega) z2, fun y => absurd (show nI (3 - 3) ≤ 0 by decide) y⟩⟩
end Pa
theorem mvP_mono {ops x : Rw} {sz : Nat} {k1 k1' : Nat → Nat → Rw → Prop} {k0 k0' : Prop} (h1 : ∀ pc o L, k1 pc o L → k1' pc o L) (h0 : k0 → k0') : ∀ (f pc o : Nat) (L : Rw), mvP ops x sz k1 k0 f pc o L → mvP ops x sz k1' k0' f pc o L := by
  intro f
  induction f with
  | zero => intro pc o L h; exact h0 h
  | succ f ih =>
    intro pc o L h
    rw [mvP_s] at h ⊢
    refine ⟨fun c => h0 (h.1 c), fun c => ?_⟩
    obtain ⟨a, b, e⟩ := h.2 c
    refine ⟨fun q => ⟨(a q).1, ih _ _ _ (a q).2⟩, fun q => ?_, fun q1 q2 => h1 _ _ _ (e q1 q2)⟩
    obtain ⟨b1, b2, b3, b4⟩ := b q
    refine ⟨b1, b2, fun z => ?_, fun z => ih _ _ _ (b4 z)⟩
    obtain ⟨j, j1, j2, j3⟩ := b3 z
    exact ⟨j, j1, j2, ih _ _ _ j3⟩
/-- worlds stay where they are the same -/
theorem TW_in {S : Sh} {μ μ' : Mi} {ρ : Mr} (h : TW S μ ρ) (o : ∀ y, (2 ≤ y ∧ y < 172) ∨ (176 ≤ y ∧ y < 856) ∨ (867 ≤ y ∧ y < 2737) → μ' y = μ y) : TW S μ' ρ := by
  have any : ∀ w, anyW w S μ ρ → (∀ y, w ≤ y → y < w + 170 → μ' y = μ y) → anyW w S μ' ρ := by
    intro w ⟨B, hB⟩ ho
    exact ⟨B, RR_in hB ho⟩
  obtain ⟨h0, h1, h2, h3, h4, h5, h6, h7, h8⟩ := h
  exact ⟨h0, h1, h2, h3, h4, any _ h5 (fun y y1 y2 => o y (by omega)), fun i hi => any _ (h6 i hi) (fun y y1 y2 => o y (by omega)), fun i hi => any _ (h7 i hi) (fun y y1 y2 => o y (by omega)), fun i hi => any _ (h8 i hi) (fun y y1 y2 => o y (by omega))⟩
