/-! ===== an entry, packed, tells its parts ===== -/
/-- an entry in range -/
def enOK (t kd x y : Int32) : Prop := rg t 1 200 ∧ rg kd 0 4 ∧ rg x 0 31 ∧ rg y (-999) 999
theorem ePk_bv (t kd x y : Int32) : (ePk t kd x y).toBitVec = y.toBitVec <<< 16 ||| x.toBitVec <<< 11 ||| kd.toBitVec <<< 8 ||| t.toBitVec := rfl
theorem bit_hi {x : Int32} {k i : Nat} (h : x.toBitVec.toNat < 2 ^ k) (hi : k ≤ i) : x.toBitVec.getLsbD i = false := by
  show x.toBitVec.toNat.testBit i = false
  exact Nat.testBit_lt_two_pow (Nat.lt_of_lt_of_le h (Nat.pow_le_pow_right (by decide) hi))
theorem rg_bv {x : Int32} {n : Nat} (h : rg x 0 n) : x.toBitVec.toNat ≤ n := by
  obtain ⟨m, rfl, m0, -, m1⟩ := rg_ex h
  show (BitVec.ofNat 32 m).toNat ≤ n
  rw [BitVec.toNat_ofNat]
  have := Nat.mod_le m (2 ^ 32)
  omega
theorem eTm_pk {t kd x y : Int32} (ht : rg t 0 255) : eTm (ePk t kd x y) = t := by
  refine Int32.toBitVec_inj.mp (BitVec.eq_of_getLsbD_eq (fun i hi => ?_))
  have h1 := rg_bv (n := 255) ht
  have h255 : ∀ i, (255#32).getLsbD i = decide (i < 8) := by
    intro i
    by_cases c : i < 8
    · have : i = 0 ∨ i = 1 ∨ i = 2 ∨ i = 3 ∨ i = 4 ∨ i = 5 ∨ i = 6 ∨ i = 7 := by omega
      rcases this with rfl | rfl | rfl | rfl | rfl | rfl | rfl | rfl <;> decide
    · rw [decide_eq_false c]
      show (255 : Nat).testBit i = false
      exact Nat.testBit_lt_two_pow (Nat.lt_of_lt_of_le (by decide : 255 < 2 ^ 8) (Nat.pow_le_pow_right (by decide) (by omega)))
  show ((y.toBitVec <<< 16 ||| x.toBitVec <<< 11 ||| kd.toBitVec <<< 8 ||| t.toBitVec) &&& 255#32).getLsbD i = _
  rw [BitVec.getLsbD_and, h255, BitVec.getLsbD_or, BitVec.getLsbD_or, BitVec.getLsbD_or, BitVec.getLsbD_shiftLeft, BitVec.getLsbD_shiftLeft, BitVec.getLsbD_shiftLeft]
  by_cases c : i < 8
  · have c1 : i < 16 := by omega
    have c2 : i < 11 := by omega
    simp [c, c1, c2]
  · have h2 : t.toBitVec.getLsbD i = false := bit_hi (k := 8) (by omega) (by omega)
    rw [h2]
    simp [c]
theorem eKd_bv (e : Int32) : (eKd e).toBitVec = e.toBitVec.sshiftRight 8 &&& 7#32 := rfl
theorem eX_bv (e : Int32) : (eX e).toBitVec = e.toBitVec.sshiftRight 11 &&& 31#32 := rfl
theorem eY_bv (e : Int32) : (eY e).toBitVec = e.toBitVec.sshiftRight 16 := rfl
theorem eKd_pk {t kd x y : Int32} (ht : rg t 0 255) (hk : rg kd 0 7) : eKd (ePk t kd x y) = kd := by
  refine Int32.toBitVec_inj.mp (BitVec.eq_of_getLsbD_eq (fun i hi => ?_))
  have h1 := rg_bv (n := 255) ht
  have h2 := rg_bv (n := 7) hk
  have h7 : ∀ i, (7#32).getLsbD i = decide (i < 3) := by
    intro i
    by_cases c : i < 3
    · have : i = 0 ∨ i = 1 ∨ i = 2 := by omega
      rcases this with rfl | rfl | rfl <;> decide
    · rw [decide_eq_false c]
      show (7 : Nat).testBit i = false
      exact Nat.testBit_lt_two_pow (Nat.lt_of_lt_of_le (by decide : 7 < 2 ^ 3) (Nat.pow_le_pow_right (by decide) (by omega)))
  rw [eKd_bv, ePk_bv, BitVec.getLsbD_and, h7]
  by_cases c : i < 3
  · have h3 : t.toBitVec.getLsbD (8 + i) = false := bit_hi (k := 8) (by omega) (by omega)
    rw [BitVec.getLsbD_sshiftRight, BitVec.getLsbD_or, BitVec.getLsbD_or, BitVec.getLsbD_or, BitVec.getLsbD_shiftLeft, BitVec.getLsbD_shiftLeft, BitVec.getLsbD_shiftLeft, h3]
    have c1 : 8 + i < 32 := by omega
    have c2 : 8 + i < 16 := by omega
    have c3 : 8 + i < 11 := by omega
    have c4 : ¬ 8 + i < 8 := by omega
    have c5 : 8 + i - 8 = i := by omega
    have c6 : ¬ 32 ≤ i := by omega
    simp [c, c1, c2, c3, c4, c5, c6]
  · have h3 : kd.toBitVec.getLsbD i = false := bit_hi (k := 3) (by omega) (by omega)
    rw [h3]
    simp [c]
theorem eX_pk {t kd x y : Int32} (ht : rg t 0 255) (hk : rg kd 0 7) (hx : rg x 0 31) : eX (ePk t kd x y) = x := by
  refine Int32.toBitVec_inj.mp (BitVec.eq_of_getLsbD_eq (fun i hi => ?_))
  have h1 := rg_bv (n := 255) ht
  have h2 := rg_bv (n := 7) hk
  have h4 := rg_bv (n := 31) hx
  have h31 : ∀ i, (31#32).getLsbD i = decide (i < 5) := by
    intro i
    by_cases c : i < 5
    · have : i = 0 ∨ i = 1 ∨ i = 2 ∨ i = 3 ∨ i = 4 := by omega
      rcases this with rfl | rfl | rfl | rfl | rfl <;> decide
    · rw [decide_eq_false c]
      show (31 : Nat).testBit i = false
      exact Nat.testBit_lt_two_pow (Nat.lt_of_lt_of_le (by decide : 31 < 2 ^ 5) (Nat.pow_le_pow_right (by decide) (by omega)))
  rw [eX_bv, ePk_bv, BitVec.getLsbD_and, h31]
  by_cases c : i < 5
  · have h3 : t.toBitVec.getLsbD (11 + i) = false := bit_hi (k := 8) (by omega) (by omega)
    have h5 : kd.toBitVec.getLsbD (11 + i - 8) = false := bit_hi (k := 3) (by omega) (by omega)
    rw [BitVec.getLsbD_sshiftRight, BitVec.getLsbD_or, BitVec.getLsbD_or, BitVec.getLsbD_or, BitVec.getLsbD_shiftLeft, BitVec.getLsbD_shiftLeft, BitVec.getLsbD_shiftLeft, h3, h5]
    have c1 : 11 + i < 32 := by omega
    have c2 : 11 + i < 16 := by omega
    have c4 : ¬ 11 + i < 11 := by omega
    have c5 : 11 + i - 11 = i := by omega
    have c6 : ¬ 32 ≤ i := by omega
    simp [c, c1, c2, c4, c5, c6]
  · have h3 : x.toBitVec.getLsbD i = false := bit_hi (k := 5) (by omega) (by omega)
    rw [h3]
    simp [c]
theorem bit_sg {y : Int32} (hy : rg y (-32768) 32767) {i : Nat} (h1 : 15 ≤ i) (h2 : i < 32) : y.toBitVec.getLsbD i = decide (y.toInt < 0) := by
  have e : y.toInt = y.toBitVec.toInt := rfl
  have hy1 := hy.1
  have hy2 := hy.2
  rw [e] at hy1 hy2 ⊢
  have ei := BitVec.toInt_eq_toNat_cond y.toBitVec
  have hl := y.toBitVec.isLt
  by_cases c : 2 * y.toBitVec.toNat < 2 ^ 32
  · rw [if_pos c] at ei
    rw [bit_hi (k := 15) (by omega) h1, decide_eq_false (by omega)]
  · rw [if_neg c] at ei
    rw [decide_eq_true (by omega)]
    have hn : (~~~ y.toBitVec).getLsbD i = false := by
      show (~~~ y.toBitVec).toNat.testBit i = false
      refine Nat.testBit_lt_two_pow (Nat.lt_of_lt_of_le ?_ (Nat.pow_le_pow_right (by decide) h1))
      rw [BitVec.toNat_not]
      omega
    rw [BitVec.getLsbD_not] at hn
    simpa [h2] using hn
theorem eY_pk {t kd x y : Int32} (ht : rg t 0 255) (hk : rg kd 0 7) (hx : rg x 0 31) (hy : rg y (-32768) 32767) : eY (ePk t kd x y) = y := by
  refine Int32.toBitVec_inj.mp (BitVec.eq_of_getLsbD_eq (fun i hi => ?_))
  have h1 := rg_bv (n := 255) ht
  have h2 := rg_bv (n := 7) hk
  have h4 := rg_bv (n := 31) hx
  have low : ∀ j, 16 ≤ j → j < 32 → (y.toBitVec <<< 16 ||| x.toBitVec <<< 11 ||| kd.toBitVec <<< 8 ||| t.toBitVec).getLsbD j = y.toBitVec.getLsbD (j - 16) := by
    intro j j1 j2
    have a1 : t.toBitVec.getLsbD j = false := bit_hi (k := 8) (by omega) (by omega)
    have a2 : kd.toBitVec.getLsbD (j - 8) = false := bit_hi (k := 3) (by omega) (by omega)
    have a3 : x.toBitVec.getLsbD (j - 11) = false := bit_hi (k := 5) (by omega) (by omega)
    rw [BitVec.getLsbD_or, BitVec.getLsbD_or, BitVec.getLsbD_or, BitVec.getLsbD_shiftLeft, BitVec.getLsbD_shiftLeft, BitVec.getLsbD_shiftLeft, a1, a2, a3]
    have c4 : ¬ j < 16 := by omega
    simp [j2, c4]
  rw [eY_bv, ePk_bv, BitVec.getLsbD_sshiftRight]
  have c6 : ¬ 32 ≤ i := by omega
  by_cases c : 16 + i < 32
  · rw [low _ (by omega) c, show 16 + i - 16 = i by omega]
    simp [c, c6]
  · have hm : (y.toBitVec <<< 16 ||| x.toBitVec <<< 11 ||| kd.toBitVec <<< 8 ||| t.toBitVec).msb = y.toBitVec.getLsbD 15 := by
      rw [BitVec.msb_eq_getLsbD_last]
      exact low 31 (by decide) (by decide)
    rw [hm, bit_sg hy (by decide) (by decide), bit_sg hy (by omega) hi]
    simp [c, c6]
