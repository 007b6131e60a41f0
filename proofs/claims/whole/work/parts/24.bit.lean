/-! NUMBERS: bits -/
theorem n_and (a b : Nat) : Int32.ofNat a &&& Int32.ofNat b = Int32.ofNat (a &&& b) := Int32.toBitVec.inj (by show BitVec.ofNat 32 a &&& BitVec.ofNat 32 b = BitVec.ofNat 32 (a &&& b); exact BitVec.ofNat_and.symm)
theorem n_or (a b : Nat) : Int32.ofNat a ||| Int32.ofNat b = Int32.ofNat (a ||| b) := Int32.toBitVec.inj (by show BitVec.ofNat 32 a ||| BitVec.ofNat 32 b = BitVec.ofNat 32 (a ||| b); exact BitVec.ofNat_or.symm)
theorem n_xor (a b : Nat) : Int32.ofNat a ^^^ Int32.ofNat b = Int32.ofNat (a ^^^ b) := Int32.toBitVec.inj (by show BitVec.ofNat 32 a ^^^ BitVec.ofNat 32 b = BitVec.ofNat 32 (a ^^^ b); exact BitVec.ofNat_xor.symm)
theorem n_and6 (a b : Nat) : Int64.ofNat a &&& Int64.ofNat b = Int64.ofNat (a &&& b) := Int64.toBitVec.inj (by show BitVec.ofNat 64 a &&& BitVec.ofNat 64 b = BitVec.ofNat 64 (a &&& b); exact BitVec.ofNat_and.symm)
theorem n_or6 (a b : Nat) : Int64.ofNat a ||| Int64.ofNat b = Int64.ofNat (a ||| b) := Int64.toBitVec.inj (by show BitVec.ofNat 64 a ||| BitVec.ofNat 64 b = BitVec.ofNat 64 (a ||| b); exact BitVec.ofNat_or.symm)
theorem n_31 : ∀ k, k < 32 → (Int32.ofNat k &&& Int32.ofNat 31).toBitVec.smod 32 = BitVec.ofNat 32 k := by decide
theorem n_shl (a k : Nat) (h : k < 32) : Int32.ofNat a <<< (Int32.ofNat k &&& Int32.ofNat 31) = Int32.ofNat (a <<< k) := Int32.toBitVec.inj (by
  show BitVec.ofNat 32 a <<< ((Int32.ofNat k &&& Int32.ofNat 31).toBitVec.smod 32) = BitVec.ofNat 32 (a <<< k)
  rw [n_31 k h]
  apply BitVec.eq_of_toNat_eq
  simp [Nat.shiftLeft_eq, Nat.mod_eq_of_lt (show k < 4294967296 by omega)])
theorem n_shr (a k : Nat) (ha : a < 2147483648) (h : k < 32) : Int32.ofNat a >>> (Int32.ofNat k &&& Int32.ofNat 31) = Int32.ofNat (a >>> k) := Int32.toBitVec.inj (by
  show (BitVec.ofNat 32 a).sshiftRight' ((Int32.ofNat k &&& Int32.ofNat 31).toBitVec.smod 32) = BitVec.ofNat 32 (a >>> k)
  rw [n_31 k h]
  have hm : (BitVec.ofNat 32 a).msb = false := by
    rw [BitVec.msb_eq_decide]
    simp only [BitVec.toNat_ofNat, decide_eq_false_iff_not]
    omega
  rw [BitVec.sshiftRight', BitVec.sshiftRight_eq_of_msb_false hm]
  apply BitVec.eq_of_toNat_eq
  simp only [BitVec.toNat_ushiftRight, BitVec.toNat_ofNat]
  have h1 : a % 2 ^ 32 = a := Nat.mod_eq_of_lt (by omega)
  have h2 : k % 2 ^ 32 = k := Nat.mod_eq_of_lt (by omega)
  rw [h1, h2]
  have h3 : a >>> k ≤ a := Nat.shiftRight_le a k
  rw [Nat.mod_eq_of_lt (by omega)])
theorem n_63 : ∀ k, k < 64 → ((Int32.ofNat k).toInt64 &&& Int64.ofNat 63).toBitVec.smod 64 = BitVec.ofNat 64 k := by decide
theorem n_shl6 (a k : Nat) (h : k < 64) : Int64.ofNat a <<< ((Int32.ofNat k).toInt64 &&& Int64.ofNat 63) = Int64.ofNat (a <<< k) := Int64.toBitVec.inj (by
  show BitVec.ofNat 64 a <<< (((Int32.ofNat k).toInt64 &&& Int64.ofNat 63).toBitVec.smod 64) = BitVec.ofNat 64 (a <<< k)
  rw [n_63 k h]
  apply BitVec.eq_of_toNat_eq
  simp [Nat.shiftLeft_eq, Nat.mod_eq_of_lt (show k < 18446744073709551616 by omega)])
def pop (n : Nat) : Nat := n % 2 + n / 2 % 2 + n / 4 % 2 + n / 8 % 2 + n / 16 % 2 + n / 32 % 2 + n / 64 % 2 + n / 128 % 2
set_option maxRecDepth 100000 in
theorem pop_step : ∀ v, v < 256 → v ≠ 0 → (v &&& (v - 1)) < v ∧ pop (v &&& (v - 1)) + 1 = pop v := by decide
theorem pop_le (v : Nat) : pop v ≤ 8 := by unfold pop; omega
theorem n_w : (∀ a b : Nat, Int32.ofNat a &&& Int32.ofNat b = Int32.ofNat (a &&& b)) ∧ (∀ a b : Nat, Int32.ofNat a ||| Int32.ofNat b = Int32.ofNat (a ||| b)) ∧ (∀ a b : Nat, Int64.ofNat a &&& Int64.ofNat b = Int64.ofNat (a &&& b)) ∧ (∀ a b : Nat, Int64.ofNat a ||| Int64.ofNat b = Int64.ofNat (a ||| b)) ∧ (∀ a k : Nat, k < 32 → Int32.ofNat a <<< Int32.ofNat (k &&& 31) = Int32.ofNat (a <<< k)) ∧ (∀ a k : Nat, a < 2147483648 → k < 32 → Int32.ofNat a >>> Int32.ofNat (k &&& 31) = Int32.ofNat (a >>> k)) ∧ (∀ a k : Nat, k < 64 → Int64.ofNat a <<< Int64.ofNat (k &&& 63) = Int64.ofNat (a <<< k)) :=
  ⟨n_and, n_or, n_and6, n_or6, fun a k h => by rw [← n_and, n_shl a k h], fun a k ha h => by rw [← n_and, n_shr a k ha h], fun a k h => by rw [← n_and6, ← n_s.2.2.1 k (by omega), n_shl6 a k h]⟩
