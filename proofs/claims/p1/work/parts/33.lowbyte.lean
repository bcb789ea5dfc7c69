/-! ===== the bytes of a long ===== -/
def lbC (w : Int64) (x : Int32) : Int32 := (Int64.toInt32 ((Int64.toUInt64 w >>> ((Int32.toInt64 ((8 : Int32) * x)).toUInt64 &&& Int64.toUInt64 63)).toInt64)) &&& (255 : Int32)
def lbM (w : Int64) (x : Int32) : Int32 := Int64.toInt32 ((w >>> (Int32.toInt64 ((8 : Int32) * x) &&& 63)) &&& (255 : Int64))
theorem t255 (j : Nat) : Nat.testBit 255 j = decide (j < 8) := by
  have h := Nat.testBit_two_pow_sub_one 8 j
  simpa using h
theorem lb_core (b : BitVec 64) (s : Nat) (hs : s ≤ 56) : ((b >>> s).signExtend 32) &&& 255#32 = ((b.sshiftRight s) &&& 255#64).signExtend 32 := by
  apply BitVec.eq_of_getLsbD_eq
  intro j hj
  have h64 : j < 64 := by omega
  rw [BitVec.getLsbD_and, BitVec.getLsbD_signExtend, BitVec.getLsbD_signExtend, BitVec.getLsbD_and, BitVec.getLsbD_ushiftRight, BitVec.getLsbD_sshiftRight, BitVec.getLsbD_ofNat, BitVec.getLsbD_ofNat, t255]
  by_cases h8 : j < 8
  · have h1 : s + j < 64 := by omega
    simp [hj, h64, h8, h1]
  · simp [hj, h64, h8]
theorem lb_C (w : Int64) : ∀ i, i < 8 → (lbC w (nI i)).toBitVec = ((w.toBitVec >>> (8 * i)).signExtend 32) &&& 255#32
  | 0, _ => rfl
  | 1, _ => rfl
  | 2, _ => rfl
  | 3, _ => rfl
  | 4, _ => rfl
  | 5, _ => rfl
  | 6, _ => rfl
  | 7, _ => rfl
  | n + 8, h => absurd h (by omega)
theorem lb_M (w : Int64) : ∀ i, i < 8 → (lbM w (nI i)).toBitVec = ((w.toBitVec.sshiftRight (8 * i)) &&& 255#64).signExtend 32
  | 0, _ => rfl
  | 1, _ => rfl
  | 2, _ => rfl
  | 3, _ => rfl
  | 4, _ => rfl
  | 5, _ => rfl
  | 6, _ => rfl
  | 7, _ => rfl
  | n + 8, h => absurd h (by omega)
theorem lb_eq (w : Int64) {i : Nat} (hi : i < 8) : lbM w (nI i) = lbC w (nI i) := by
  apply Int32.toBitVec.inj
  rw [lb_C w i hi, lb_M w i hi, lb_core _ _ (by omega)]
