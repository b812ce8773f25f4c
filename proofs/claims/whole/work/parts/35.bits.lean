/-! ===== the bytes of a long ===== -/
theorem byte_b (x : Int) : 0 ≤ cm_l2i (cm_land x 255) ∧ cm_l2i (cm_land x 255) ≤ 255 := by
  unfold cm_l2i cm_land
  have h1 : (Int64.ofInt x &&& Int64.ofInt 255).toBitVec.toNat ≤ 255 := by
    have : (Int64.ofInt x &&& Int64.ofInt 255).toBitVec = (Int64.ofInt x).toBitVec &&& (Int64.ofInt 255).toBitVec := rfl
    rw [this, BitVec.toNat_and]
    exact Nat.and_le_right
  generalize Int64.ofInt x &&& Int64.ofInt 255 = y at *
  have h2 : y.toInt = (y.toBitVec.toNat : Int) := BitVec.toInt_eq_toNat_of_lt (by omega)
  rw [Int64.ofInt_toInt, Int64.toInt_toInt32, Int.bmod_eq_of_le (by omega) (by omega)]
  omega
/-- as a number without a sign -/
def lU (a : Int) : Nat := (Int64.ofInt a).toUInt64.toNat
theorem lU_s (a : Int) : lU (cm_lushr a 8) = lU a / 256 := by
  unfold lU cm_lushr
  rw [Int64.ofInt_toInt]
  have e : (Int32.ofInt 8).toInt64.toUInt64 &&& Int64.toUInt64 63 = 8 := by decide
  rw [e]
  have : ((Int64.ofInt a).toUInt64 >>> 8).toInt64.toUInt64 = (Int64.ofInt a).toUInt64 >>> 8 := rfl
  rw [this, UInt64.toNat_shiftRight]
  show _ >>> (8 % 64) = _
  rw [Nat.shiftRight_eq_div_pow]
theorem lU_b (a : Int) : lU a < 18446744073709551616 := (Int64.ofInt a).toUInt64.toBitVec.isLt
theorem lU_0 (a : Int) (h : lU (cm_lushr a 8) = 0) : cm_lushr a 8 = 0 := by
  unfold lU at h
  have e : Int64.ofInt (cm_lushr a 8) = ((Int64.ofInt a).toUInt64 >>> ((Int32.ofInt 8).toInt64.toUInt64 &&& Int64.toUInt64 63)).toInt64 := by unfold cm_lushr; rw [Int64.ofInt_toInt]
  have e2 : cm_lushr a 8 = (Int64.ofInt (cm_lushr a 8)).toInt := by rw [e]; rfl
  rw [e2]
  generalize Int64.ofInt (cm_lushr a 8) = y at h
  have h3 : y.toBitVec.toNat = 0 := h
  show y.toBitVec.toInt = 0
  rw [BitVec.toInt_eq_toNat_of_lt (by omega), h3]
  rfl
/-- shifted by k bytes, one after the other -/
def lS (c : Int) : Nat → Int
  | 0 => c
  | k + 1 => cm_lushr (lS c k) 8
theorem lS_u (c : Int) : ∀ k : Nat, lU (lS c k) = lU c / 256 ^ k
  | 0 => by show lU c = lU c / 256 ^ 0; rw [Nat.pow_zero, Nat.div_one]
  | k + 1 => by
    show lU (cm_lushr (lS c k) 8) = _
    rw [lU_s, lS_u c k, Nat.div_div_eq_div_mul, Nat.pow_succ]
theorem lS_8 (c : Int) : lS c 8 = 0 := by
  refine lU_0 (lS c 7) ?_
  show lU (lS c 8) = 0
  rw [lS_u]
  have := lU_b c
  exact Nat.div_eq_of_lt (by show _ < 256 ^ 8; omega)
/-- how many bytes -/
noncomputable def lNb (c : Int) : Int := fstOf (fun k : Int => cm_lcmp (lS c k.toNat) 0 = 0) 9
theorem lNb_is (c : Int) : (0 ≤ lNb c ∧ lNb c ≤ 8) ∧ cm_lcmp (lS c (lNb c).toNat) 0 = 0 ∧ ∀ j, 0 ≤ j → j < lNb c → ¬ cm_lcmp (lS c j.toNat) 0 = 0 := by
  rcases fstOf_is (fun k : Int => cm_lcmp (lS c k.toNat) 0 = 0) 9 with ⟨a1, a2, a3, a4⟩ | ⟨-, a2⟩
  · have a2 : lNb c < 9 := a2
    have a1 : 0 ≤ lNb c := a1
    exact ⟨⟨a1, by omega⟩, a3, a4⟩
  · exact absurd (show cm_lcmp (lS c (8 : Int).toNat) 0 = 0 by
      rw [show (8 : Int).toNat = 8 by decide, lS_8]
      decide) (a2 8 (by decide) (by decide))
theorem lcmp_in (a b : Int) : cm_in (cm_lcmp a b) := by
  unfold cm_lcmp lg_cmp
  constructor <;> (repeat' split) <;> decide
def lG (c : Int) (k : Int) : Prop := 33 ≤ cm_l2i (cm_land (lS c k.toNat) 255) ∧ cm_l2i (cm_land (lS c k.toNat) 255) ≤ 126
/-- it may be put -/
def okL (c : Int) : Prop := ¬ lNb c = 0 ∧ ∀ k, 0 ≤ k → k < lNb c → lG c k
def lB (c i : Int) : Int := cm_l2i (cm_land (cm_lushr c (8 * i)) 255)
/-- the characters then: the first k of them -/
noncomputable def pC (A : sA) (c k : Int) : Int → Int := fun j => if aN A ≤ j ∧ j < aN A + k then lB c (lNb c - 1 - (j - aN A)) else aC A j
noncomputable def rPut (A : sA) (c : Int) : Int × sA := ite' (okL c) (ite' (60 < aN A + lNb c) (-4, A) (aN A + lNb c, (aS A, aH A, aP A, aF A, aL A, aN A + lNb c, pC A c (lNb c)))) (-2, A)
noncomputable def rWipe (A : sA) : Int × sA := (aN A, (aS A, aH A, aP A, aF A, aL A, 0, aC A))
