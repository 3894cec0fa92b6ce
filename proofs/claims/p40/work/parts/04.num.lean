/-! Machine numbers as whole numbers: Int32.ofInt, Int64.ofInt carry the arithmetic over. -/
abbrev i32 (x : Int) : Prop := -2147483648 ≤ x ∧ x ≤ 2147483647
abbrev i64 (x : Int) : Prop := -9223372036854775808 ≤ x ∧ x ≤ 9223372036854775807
theorem n32_toInt {x : Int} (h : i32 x) : (Int32.ofInt x).toInt = x := Int32.toInt_ofInt_of_le (by have := h.1; omega) (by have := h.2; omega)
theorem n64_toInt {x : Int} (h : i64 x) : (Int64.ofInt x).toInt = x := Int64.toInt_ofInt_of_le (by have := h.1; omega) (by have := h.2; omega)
theorem n32_of (z : Int32) : ∃ x : Int, i32 x ∧ z = Int32.ofInt x := ⟨z.toInt, ⟨by have := Int32.le_toInt z; omega, by have := Int32.toInt_lt z; omega⟩, (Int32.ofInt_toInt z).symm⟩
theorem n32_lt {x y : Int} (hx : i32 x) (hy : i32 y) : Int32.ofInt x < Int32.ofInt y ↔ x < y := by rw [Int32.lt_iff_toInt_lt, n32_toInt hx, n32_toInt hy]
theorem n32_le {x y : Int} (hx : i32 x) (hy : i32 y) : Int32.ofInt x ≤ Int32.ofInt y ↔ x ≤ y := by rw [Int32.le_iff_toInt_le, n32_toInt hx, n32_toInt hy]
theorem n32_eq {x y : Int} (hx : i32 x) (hy : i32 y) : Int32.ofInt x = Int32.ofInt y ↔ x = y := by rw [← Int32.toInt_inj, n32_toInt hx, n32_toInt hy]
theorem n64_lt {x y : Int} (hx : i64 x) (hy : i64 y) : Int64.ofInt x < Int64.ofInt y ↔ x < y := by rw [Int64.lt_iff_toInt_lt, n64_toInt hx, n64_toInt hy]
theorem n64_le {x y : Int} (hx : i64 x) (hy : i64 y) : Int64.ofInt x ≤ Int64.ofInt y ↔ x ≤ y := by rw [Int64.le_iff_toInt_le, n64_toInt hx, n64_toInt hy]
theorem n64_eq {x y : Int} (hx : i64 x) (hy : i64 y) : Int64.ofInt x = Int64.ofInt y ↔ x = y := by rw [← Int64.toInt_inj, n64_toInt hx, n64_toInt hy]
theorem n32_z : (0 : Int32) = Int32.ofInt 0 := by decide
theorem n64_z : (0 : Int64) = Int64.ofInt 0 := by decide
theorem i32_0 : i32 0 := by decide
theorem n32_cl {x : Int} (h : i32 x) : (Int32.ofInt x).toNatClampNeg = x.toNat := by
  show ((Int32.ofInt x).toInt).toNat = x.toNat
  rw [n32_toInt h]
theorem n32_in {x : Int} {n : Nat} (h : i32 x) (h0 : 0 ≤ x) (h1 : x < n) : ¬ (Int32.ofInt x < 0 ∨ n ≤ (Int32.ofInt x).toNatClampNeg) := by
  rw [n32_cl h, n32_z, n32_lt h i32_0]
  omega
theorem n32_M : Int32.maxValue.toInt = 2147483647 := by decide
theorem n64_M : Int64.maxValue.toInt = 9223372036854775807 := by decide
theorem n32_div {x y : Int} (hx : i32 x) (hy : i32 y) : Int32.ofInt x / Int32.ofInt y = Int32.ofInt (x.tdiv y) := (Int32.ofInt_tdiv (by simpa using hx.1) (by rw [n32_M]; exact hx.2) (by simpa using hy.1) (by rw [n32_M]; exact hy.2)).symm
theorem n64_div {x y : Int} (hx : i64 x) (hy : i64 y) : Int64.ofInt x / Int64.ofInt y = Int64.ofInt (x.tdiv y) := (Int64.ofInt_tdiv (by simpa using hx.1) (by rw [n64_M]; exact hx.2) (by simpa using hy.1) (by rw [n64_M]; exact hy.2)).symm
theorem n_tmod (x y : Int) : x - x.tdiv y * y = x.tmod y := by
  have h := Int.mul_tdiv_add_tmod x y
  rw [Int.mul_comm] at h
  omega
theorem n32_rem {x y : Int} (hx : i32 x) (hy : i32 y) : Int32.ofInt x - Int32.ofInt x / Int32.ofInt y * Int32.ofInt y = Int32.ofInt (x.tmod y) := by
  rw [n32_div hx hy, ← Int32.ofInt_mul, ← Int32.ofInt_sub, n_tmod]
theorem n64_rem {x y : Int} (hx : i64 x) (hy : i64 y) : Int64.ofInt x - Int64.ofInt x / Int64.ofInt y * Int64.ofInt y = Int64.ofInt (x.tmod y) := by
  rw [n64_div hx hy, ← Int64.ofInt_mul, ← Int64.ofInt_sub, n_tmod]
theorem n_i2l {x : Int} (h : i32 x) : (Int32.ofInt x).toInt64 = Int64.ofInt x := Int32.toInt64_ofInt (by simpa using h.1) (by rw [n32_M]; exact h.2)
theorem n_l2i (x : Int) : (Int64.ofInt x).toInt32 = Int32.ofInt x := Int64.toInt32_ofInt
theorem n_cmp {x y : Int} (hx : i64 x) (hy : i64 y) : lg_cmp (Int64.ofInt x) (Int64.ofInt y) = Int32.ofInt (if x < y then -1 else if x = y then 0 else 1) := by
  unfold lg_cmp
  have a := n64_lt hy hx
  have b := n64_eq hx hy
  by_cases h : y < x
  · rw [if_pos (a.mpr h), if_neg (by omega), if_neg (by omega)]
    rfl
  · rw [if_neg (fun q => h (a.mp q))]
    by_cases h3 : x = y
    · rw [if_pos (b.mpr h3), if_neg (by omega), if_pos h3]
      rfl
    · rw [if_neg (fun q => h3 (b.mp q)), if_pos (by omega)]
      rfl
theorem n_sh31 : ∀ n : Nat, n < 32 → (Int32.ofInt (n : Int) &&& 31) = Int32.ofInt (n : Int) ∧ ((Int32.ofInt (n : Int)).toBitVec.smod 32).toNat = n ∧ BitVec.twoPow 32 n = BitVec.ofInt 32 ((2 : Int) ^ n) := by decide +kernel
theorem n_sh63 : ∀ n : Nat, n < 64 → ((Int32.ofInt (n : Int)).toInt64 &&& 63) = Int64.ofInt (n : Int) ∧ ((Int64.ofInt (n : Int)).toBitVec.smod 64).toNat = n ∧ BitVec.twoPow 64 n = BitVec.ofInt 64 ((2 : Int) ^ n) := by decide +kernel
theorem n32_shl (x : Int) {n : Nat} (h : n < 32) : Int32.ofInt x <<< (Int32.ofInt (n : Int) &&& 31) = Int32.ofInt (x * 2 ^ n) := by
  obtain ⟨h1, h2, h3⟩ := n_sh31 n h
  rw [h1]
  apply Int32.toBitVec_inj.mp
  show (BitVec.ofInt 32 x <<< ((Int32.ofInt (n : Int)).toBitVec.smod 32).toNat) = BitVec.ofInt 32 (x * 2 ^ n)
  rw [h2, BitVec.shiftLeft_eq_mul_twoPow, h3, BitVec.ofInt_mul]
theorem n64_shl (x : Int) {n : Nat} (h : n < 64) : Int64.ofInt x <<< ((Int32.ofInt (n : Int)).toInt64 &&& 63) = Int64.ofInt (x * 2 ^ n) := by
  obtain ⟨h1, h2, h3⟩ := n_sh63 n h
  rw [h1]
  apply Int64.toBitVec_inj.mp
  show (BitVec.ofInt 64 x <<< ((Int64.ofInt (n : Int)).toBitVec.smod 64).toNat) = BitVec.ofInt 64 (x * 2 ^ n)
  rw [h2, BitVec.shiftLeft_eq_mul_twoPow, h3, BitVec.ofInt_mul]
theorem n32_shr {x : Int} (hx : i32 x) {n : Nat} (h : n < 32) : Int32.ofInt x >>> (Int32.ofInt (n : Int) &&& 31) = Int32.ofInt (x / 2 ^ n) := by
  obtain ⟨h1, h2, h3⟩ := n_sh31 n h
  rw [h1]
  have e := pk_shr (Int32.ofInt x) (Int32.ofInt (n : Int)) n h2
  rw [n32_toInt hx, Int.shiftRight_eq_div_pow] at e
  rw [← Int32.ofInt_toInt (Int32.ofInt x >>> Int32.ofInt (n : Int)), e]
  rfl
theorem n64_shr {x : Int} (hx : i64 x) {n : Nat} (h : n < 64) : Int64.ofInt x >>> ((Int32.ofInt (n : Int)).toInt64 &&& 63) = Int64.ofInt (x / 2 ^ n) := by
  obtain ⟨h1, h2, h3⟩ := n_sh63 n h
  rw [h1]
  have e : (Int64.ofInt x >>> Int64.ofInt (n : Int)).toInt = (Int64.ofInt x).toInt >>> n := by
    show ((Int64.ofInt x).toBitVec.sshiftRight ((Int64.ofInt (n : Int)).toBitVec.smod 64).toNat).toInt = _
    rw [h2, BitVec.toInt_sshiftRight]
    rfl
  rw [n64_toInt hx, Int.shiftRight_eq_div_pow] at e
  rw [← Int64.ofInt_toInt (Int64.ofInt x >>> Int64.ofInt (n : Int)), e]
  rfl
theorem n32_and (x : Int) (k : Nat) (hk : k ≤ 31) : Int32.ofInt x &&& Int32.ofInt (2 ^ k - 1) = Int32.ofInt (x % 2 ^ k) := by
  have hm : ∀ k : Nat, k < 32 → (Int32.ofInt (2 ^ k - 1)).toBitVec.toNat = 2 ^ k - 1 := by decide +kernel
  rw [pk_and _ k (hm k (by omega))]
  show Int32.ofNat _ = _
  rw [← Int32.ofInt_eq_ofNat]
  congr 1
  show (((BitVec.ofInt 32 x).toNat % 2 ^ k : Nat) : Int) = _
  rw [BitVec.toNat_ofInt]
  have h1 : (0 : Int) ≤ x % 4294967296 := Int.emod_nonneg _ (by decide)
  rw [Int.natCast_emod, show (((2 ^ 32 : Nat) : Nat) : Int) = 4294967296 from rfl, Int.toNat_of_nonneg h1, Int.natCast_pow]
  have hd : ((2 : Nat) : Int) ^ k ∣ 4294967296 := ⟨2 ^ (32 - k), by rw [show ((2 : Nat) : Int) = 2 from rfl, ← Int.pow_add, show k + (32 - k) = 32 by omega]; rfl⟩
  exact Int.emod_emod_of_dvd x hd
theorem n64_and26 (x : Int) : Int64.ofInt x &&& Int64.ofInt 67108863 = Int64.ofInt (x % 67108864) := by
  apply Int64.toBitVec_inj.mp
  show BitVec.ofInt 64 x &&& BitVec.ofInt 64 67108863 = BitVec.ofInt 64 (x % 67108864)
  apply BitVec.eq_of_toNat_eq
  rw [BitVec.toNat_and, BitVec.toNat_ofInt, BitVec.toNat_ofInt, BitVec.toNat_ofInt]
  show (x % 18446744073709551616).toNat &&& 67108863 = (x % 67108864 % 18446744073709551616).toNat
  rw [show (67108863 : Nat) = 2 ^ 26 - 1 from rfl, Nat.and_two_pow_sub_one_eq_mod]
  omega
theorem n32_or : ∀ x : Nat, x < 128 → ∀ k : Nat, k < 7 → Int32.ofInt (x : Int) ||| Int32.ofInt (1 * 2 ^ k) = Int32.ofInt (if (x / 2 ^ k) % 2 = 0 then (x : Int) + 2 ^ k else x) := by decide +kernel
theorem n_i2b (x : Int) : (Int32.ofInt x).toInt8.toInt32 = Int32.ofInt (x.bmod 256) := by
  rw [← Int32.ofInt_toInt ((Int32.ofInt x).toInt8.toInt32)]
  congr 1
  simp
theorem n_i2c {x : Int} (h0 : 0 ≤ x) (h1 : x < 65536) : ((Int32.ofInt x).toUInt32 % 65536).toInt32 = Int32.ofInt x := by
  apply Int32.toBitVec_inj.mp
  show (BitVec.ofInt 32 x % 65536#32) = BitVec.ofInt 32 x
  apply BitVec.eq_of_toNat_eq
  rw [BitVec.toNat_umod, BitVec.toNat_ofInt]
  show (x % 4294967296).toNat % 65536 = (x % 4294967296).toNat
  omega
