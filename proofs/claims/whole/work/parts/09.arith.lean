/-! NUMBERS: bits of Ints -/
theorem ga_n (n : Nat) : Int32.ofInt (n : Int) = nI n := by
  unfold nI
  exact Int32.ofInt_eq_ofNat
theorem ga_sm {y : Nat} (h : y < 32) : ((Int32.ofInt (y : Int) &&& 31).toBitVec.smod 32).toNat = y := by
  have : ∀ y : Nat, y < 32 → ((Int32.ofInt (y : Int) &&& 31).toBitVec.smod 32).toNat = y := by decide +kernel
  exact this y h
theorem ga_shrN {a y : Nat} (ha : a < 2147483648) (hy : y < 32) : Int32.ofInt (a : Int) >>> (Int32.ofInt (y : Int) &&& 31) = Int32.ofInt ((a / 2 ^ y : Nat) : Int) := by
  rw [ga_n a, ga_n (a / 2 ^ y), pk_shrN ha _ y (ga_sm hy)]
theorem ga_shlN {a y : Nat} (hy : y < 32) (h : a * 2 ^ y < 4294967296) : Int32.ofInt (a : Int) <<< (Int32.ofInt (y : Int) &&& 31) = Int32.ofInt ((a * 2 ^ y : Nat) : Int) := by
  rw [ga_n a, ga_n (a * 2 ^ y), pk_shlN _ y (ga_sm hy) h]
theorem ga_tb (n : Nat) : (Int32.ofInt (n : Int)).toBitVec = BitVec.ofNat 32 n := by
  rw [ga_n]
  rfl
theorem ga_andN (a b : Nat) : Int32.ofInt (a : Int) &&& Int32.ofInt (b : Int) = Int32.ofInt ((a &&& b : Nat) : Int) := by
  apply Int32.toBitVec_inj.mp
  rw [Int32.toBitVec_and, ga_tb, ga_tb, ga_tb, BitVec.ofNat_and]
theorem ga_orN (a b : Nat) : Int32.ofInt (a : Int) ||| Int32.ofInt (b : Int) = Int32.ofInt ((a ||| b : Nat) : Int) := by
  apply Int32.toBitVec_inj.mp
  rw [Int32.toBitVec_or, ga_tb, ga_tb, ga_tb, BitVec.ofNat_or]
theorem ga_xorN (a b : Nat) : Int32.ofInt (a : Int) ^^^ Int32.ofInt (b : Int) = Int32.ofInt ((a ^^^ b : Nat) : Int) := by
  apply Int32.toBitVec_inj.mp
  rw [Int32.toBitVec_xor, ga_tb, ga_tb, ga_tb, BitVec.ofNat_xor]
theorem ga_shr {x y : Int} (hx : 0 ≤ x) (hx2 : x < 2147483648) (hy : 0 ≤ y) (hy2 : y < 32) : Int32.ofInt x >>> (Int32.ofInt y &&& 31) = Int32.ofInt (x / 2 ^ y.toNat) := by
  obtain ⟨a, rfl⟩ := Int.eq_ofNat_of_zero_le hx
  obtain ⟨b, rfl⟩ := Int.eq_ofNat_of_zero_le hy
  rw [ga_shrN (by omega) (by omega)]
  congr 1
theorem ga_and1 {x : Int} (hx : 0 ≤ x) : Int32.ofInt x &&& Int32.ofInt 1 = Int32.ofInt (x % 2) := by
  obtain ⟨a, rfl⟩ := Int.eq_ofNat_of_zero_le hx
  have h := ga_andN a 1
  rw [Nat.and_one_is_mod] at h
  exact h
theorem ga_and7 {x : Int} (hx : 0 ≤ x) : Int32.ofInt x &&& Int32.ofInt 7 = Int32.ofInt (x % 8) := by
  obtain ⟨a, rfl⟩ := Int.eq_ofNat_of_zero_le hx
  have h := ga_andN a 7
  rw [show (7 : Nat) = 2 ^ 3 - 1 from rfl, Nat.and_two_pow_sub_one_eq_mod] at h
  exact h
theorem ga_and255 {x : Int} (hx : 0 ≤ x) : Int32.ofInt x &&& Int32.ofInt 255 = Int32.ofInt (x % 256) := by
  obtain ⟨a, rfl⟩ := Int.eq_ofNat_of_zero_le hx
  have h := ga_andN a 255
  rw [show (255 : Nat) = 2 ^ 8 - 1 from rfl, Nat.and_two_pow_sub_one_eq_mod] at h
  exact h
theorem ga_and31 (x : Int32) : x &&& Int32.ofInt 31 = Int32.ofInt ((x.toBitVec.toNat % 32 : Nat) : Int) := by
  rw [ga_n, pk_and x 5 (by decide +kernel)]
theorem ga_shl1 {y : Int} (hy : 0 ≤ y) (hy2 : y < 31) : Int32.ofInt 1 <<< (Int32.ofInt y &&& 31) = Int32.ofInt (2 ^ y.toNat) := by
  obtain ⟨b, rfl⟩ := Int.eq_ofNat_of_zero_le hy
  have hb : b < 31 := by omega
  have h2 : 2 ^ b < 2 ^ 31 := Nat.pow_lt_pow_right (by decide) hb
  have h := ga_shlN (a := 1) (y := b) (by omega) (by omega)
  rw [Nat.one_mul] at h
  refine h.trans ?_
  congr 1
