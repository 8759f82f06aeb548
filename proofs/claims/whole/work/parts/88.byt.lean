/-! bytes, with a sign and without -/
def sbv (v s : Int) : Int := ((Int32.ofInt ((Int32.ofInt v >>> (Int32.ofInt s &&& 31)).toInt)).toInt8.toInt32).toInt
def ubv (v s : Int) : Int := (Int32.ofInt ((Int32.ofInt v >>> (Int32.ofInt s &&& 31)).toInt) &&& Int32.ofInt 255).toInt
theorem byt (X : Int32) : (X.toInt8.toInt32).toInt = (X &&& 255).toInt ∨ ((X.toInt8.toInt32).toInt < 0 ∧ 128 ≤ (X &&& 255).toInt) := by
  have h1 : X &&& 255 = Int32.ofNat (X.toBitVec.toNat % 2 ^ 8) := pk_and X 8 (by decide)
  have h2 : (X.toInt8.toInt32).toInt = (X.toBitVec.toNat : Int).bmod 256 := by
    rw [Int8.toInt_toInt32, Int32.toInt_toInt8]
    show (X.toBitVec.toInt).bmod (2 ^ 8) = _
    rw [BitVec.toInt_eq_toNat_bmod, Int.bmod_bmod_of_dvd (by decide)]
  have h3 : (Int32.ofNat (X.toBitVec.toNat % 2 ^ 8)).toInt = ((X.toBitVec.toNat % 2 ^ 8 : Nat) : Int) := by
    have : X.toBitVec.toNat % 2 ^ 8 < 256 := Nat.mod_lt _ (by decide)
    rw [Int32.toInt_ofNat', Int.bmod_eq_of_le] <;> simp only [Int32.size] at * <;> omega
  rw [h1, h2, h3]
  have h4 : ((X.toBitVec.toNat % 2 ^ 8 : Nat) : Int) = (X.toBitVec.toNat : Int) % 256 := by simp
  rw [h4]
  unfold Int.bmod
  simp only []
  split <;> omega
theorem sbv_b (v s : Int) : -128 ≤ sbv v s ∧ sbv v s ≤ 127 := by
  unfold sbv
  rw [Int8.toInt_toInt32]
  have h1 := Int8.le_toInt (Int32.ofInt ((Int32.ofInt v >>> (Int32.ofInt s &&& 31)).toInt)).toInt8
  have h2 := Int8.toInt_lt (Int32.ofInt ((Int32.ofInt v >>> (Int32.ofInt s &&& 31)).toInt)).toInt8
  omega
/-- a byte with a sign, the same without -/
def bq (x y : Int) : Prop := y = x ∨ (x < 0 ∧ 128 ≤ y)
theorem bq_v (v s : Int) : bq (sbv v s) (ubv v s) := by
  rcases byt (Int32.ofInt ((Int32.ofInt v >>> (Int32.ofInt s &&& 31)).toInt)) with h | h
  · exact Or.inl h.symm
  · exact Or.inr h
