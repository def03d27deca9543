/-! ===== an entry, packed, tells its parts ===== -/
/-- an entry in range -/
def enOK (t kd x y : Int32) : Prop := rg t 1 200 ∧ rg kd 0 4 ∧ rg x 0 31 ∧ rg y (-999) 999
theorem ePk_bv (t kd x y : Int32) : (ePk t kd x y).toBitVec = y.toBitVec <<< 16 ||| x.toBitVec <<< 11 ||| kd.toBitVec <<< 8 ||| t.toBitVec := rfl
