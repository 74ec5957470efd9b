/-! BITS of ints that are not below 0 -/
theorem i32_nat {a : Nat} (h : a < 2147483648) : (Int32.ofInt (a : Int)).toBitVec.toNat = a := by
  rw [Int32.toBitVec_ofInt, BitVec.toNat_ofInt]; omega
theorem i32_tn {x : Int32} (h : x.toBitVec.toNat < 2147483648) : x.toInt = (x.toBitVec.toNat : Int) := by
  rw [← Int32.toInt_toBitVec, BitVec.toInt_eq_toNat_cond, if_pos (by omega)]
theorem o32_or {a b : Nat} (ha : a < 2147483648) (hb : b < 2147483648) : o32 (fun x y => x ||| y) (a : Int) (b : Int) = ((a ||| b : Nat) : Int) := by
  unfold o32
  have h1 : (Int32.ofInt (a : Int) ||| Int32.ofInt (b : Int)).toBitVec.toNat = a ||| b := by
    rw [Int32.toBitVec_or, BitVec.toNat_or, i32_nat ha, i32_nat hb]
  have h2 : a ||| b < 2147483648 := Nat.or_lt_two_pow (n := 31) ha hb
  rw [i32_tn (by rw [h1]; exact h2), h1]
theorem o32_and {a b : Nat} (ha : a < 2147483648) (hb : b < 2147483648) : o32 (fun x y => x &&& y) (a : Int) (b : Int) = ((a &&& b : Nat) : Int) := by
  unfold o32
  have h1 : (Int32.ofInt (a : Int) &&& Int32.ofInt (b : Int)).toBitVec.toNat = a &&& b := by
    rw [Int32.toBitVec_and, BitVec.toNat_and, i32_nat ha, i32_nat hb]
  have h2 : a &&& b < 2147483648 := Nat.and_lt_two_pow (n := 31) a hb
  rw [i32_tn (by rw [h1]; exact h2), h1]
theorem o32_shl1 {x : Nat} (h : x < 31) : o32 (fun x y => x <<< (y &&& 31)) 1 (x : Int) = ((2 ^ x : Nat) : Int) := by
  have : ∀ x, x < 31 → o32 (fun x y => x <<< (y &&& 31)) 1 ((x : Nat) : Int) = ((2 ^ x : Nat) : Int) := by decide +kernel
  exact this x h
theorem o32_shr {a x : Nat} (ha : a < 2147483648) (hx : x < 31) : o32 (fun x y => x >>> (y &&& 31)) (a : Int) (x : Int) = ((a >>> x : Nat) : Int) := by
  unfold o32
  have hs : ∀ x, x < 31 → (Int32.ofInt ((x : Nat) : Int) &&& 31) = Int32.ofInt ((x : Nat) : Int) := by decide +kernel
  dsimp only
  have hm : ∀ x, x < 31 → (Int32.ofInt ((x : Nat) : Int)).toBitVec.smod 32 = BitVec.ofNat 32 x := by decide +kernel
  rw [hs x hx, ← Int32.toInt_toBitVec, Int32.toBitVec_shiftRight, hm x hx, BitVec.sshiftRight_eq', BitVec.toInt_sshiftRight, Int32.toInt_toBitVec, i32_tn (by rw [i32_nat ha]; exact ha), i32_nat ha, BitVec.toNat_ofNat, Nat.mod_eq_of_lt (by omega)]
  rfl
theorem o32_bit {a x : Nat} (ha : a < 2147483648) (hx : x < 31) : o32 (fun x y => x &&& y) (o32 (fun x y => x >>> (y &&& 31)) (a : Int) (x : Int)) 1 = bB (a.testBit x) := by
  rw [o32_shr ha hx]
  have h1 : a >>> x < 2147483648 := Nat.lt_of_le_of_lt (Nat.shiftRight_le a x) ha
  have h2 := o32_and (a := a >>> x) (b := 1) h1 (by omega)
  rw [show ((1 : Nat) : Int) = 1 from rfl] at h2
  rw [h2]
  unfold Nat.testBit bB
  rw [Nat.and_comm, Nat.one_and_eq_mod_two]
  have : (a >>> x) % 2 = 0 ∨ (a >>> x) % 2 = 1 := by omega
  rcases this with h | h <;> simp [h]
