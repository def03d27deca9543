/-! ===== an entry, packed, tells its parts ===== -/
/-- an entry in range -/
def enOK (t kd x y : Int32) : Prop := rg t 1 200 ∧ rg kd 0 4 ∧ rg x 0 31 ∧ rg y (-999) 999
theorem ePk_bv (t kd x y : Int32) : (ePk t kd x y).toBitVec = y.toBitVec <<< 16 ||| x.toBitVec <<< 11 ||| kd.toBitVec <<< 8 ||| t.toBitVec := rfl
theorem bit_hi {x : Int32} {k i : Nat} (h : x.toBitVec.toNat < 2 ^ k) (hi : k ≤ i) : x.toBitVec.getLsbD i = false := by
  show x.toBitVec.toNat.testBit i = false
  exact Nat.testBit_lt_two_pow (Nat.lt_of_lt_of_le h (Nat.pow_le_pow_right (by decide) hi))
theorem rg_bv {x : Int32} {n : Nat} (h : rg x 0 n) : x.toBitVec.toNat ≤ n := by
  obtain ⟨m, rfl, m0, -, m1⟩ := rg_ex h
  show (BitVec.ofNat 32 m).toNat ≤ n
  rw [BitVec.toNat_ofNat]
  have := Nat.mod_le m (2 ^ 32)
  omega
