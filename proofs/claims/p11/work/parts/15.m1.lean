section
/-! SAFETY ROWS: ints as integers (sI a is the int of a), a typed memory -/
def sI (a : Int) : Int32 := Int32.ofInt a
def sJ (a : Int) : Int64 := Int64.ofInt a
theorem sI_t {a : Int} (h : -2147483648 ≤ a ∧ a ≤ 2147483647) : (sI a).toInt = a := Int32.toInt_ofInt_of_le (by omega) (by omega)
theorem sJ_t {a : Int} (h : -9223372036854775808 ≤ a ∧ a ≤ 9223372036854775807) : (sJ a).toInt = a := Int64.toInt_ofInt_of_le (by omega) (by omega)
theorem sI_o (x : Int32) : sI x.toInt = x := Int32.ofInt_toInt x
theorem sJ_o (x : Int64) : sJ x.toInt = x := Int64.ofInt_toInt x
theorem sI_r (x : Int32) : -2147483648 ≤ x.toInt ∧ x.toInt ≤ 2147483647 := by have := x.le_toInt; have := x.toInt_lt; omega
theorem sJ_r (x : Int64) : -9223372036854775808 ≤ x.toInt ∧ x.toInt ≤ 9223372036854775807 := by have := x.le_toInt; have := x.toInt_lt; omega
theorem sI_add (a b : Int) : sI a + sI b = sI (a + b) := (Int32.ofInt_add a b).symm
theorem sI_sub (a b : Int) : sI a - sI b = sI (a - b) := (Int32.ofInt_sub a b).symm
theorem sI_mul (a b : Int) : sI a * sI b = sI (a * b) := (Int32.ofInt_mul a b).symm
theorem sI_neg (a : Int) : - sI a = sI (- a) := (Int32.ofInt_neg a).symm
theorem sJ_add (a b : Int) : sJ a + sJ b = sJ (a + b) := (Int64.ofInt_add a b).symm
theorem sJ_sub (a b : Int) : sJ a - sJ b = sJ (a - b) := (Int64.ofInt_sub a b).symm
theorem sJ_mul (a b : Int) : sJ a * sJ b = sJ (a * b) := (Int64.ofInt_mul a b).symm
theorem sI_J {a : Int} (h : -2147483648 ≤ a ∧ a ≤ 2147483647) : (sI a).toInt64 = sJ a := by
  apply Int64.toInt_inj.mp
  rw [Int32.toInt_toInt64, sI_t h, sJ_t (by omega)]
theorem sJ_I (a : Int) : (sJ a).toInt32 = sI a := Int64.toInt32_ofInt
theorem sI_ne {b : Int} (h : -2147483648 ≤ b ∧ b ≤ 2147483647) (h0 : ¬ b = 0) : ¬ sI b = 0 := by
  intro e
  have := congrArg Int32.toInt e
  rw [sI_t h, Int32.toInt_zero] at this
  exact h0 this
theorem sJ_ne {b : Int} (h : -9223372036854775808 ≤ b ∧ b ≤ 9223372036854775807) (h0 : ¬ b = 0) : ¬ sJ b = 0 := by
  intro e
  have := congrArg Int64.toInt e
  rw [sJ_t h, Int64.toInt_zero] at this
  exact h0 this
theorem sI_div {a b : Int} (ha : 0 ≤ a ∧ a ≤ 2147483647) (hb : 0 < b ∧ b ≤ 2147483647) : sI a / sI b = sI (a / b) := by
  apply Int32.toInt_inj.mp
  have h1 : a / b ≤ a := Int.ediv_le_self b ha.1
  have h0 : 0 ≤ a / b := Int.ediv_nonneg ha.1 (by omega)
  rw [Int32.toInt_div_of_ne_right, sI_t (by omega), sI_t (by omega), sI_t (by omega), Int.tdiv_eq_ediv_of_nonneg ha.1]
  · intro h
    have := congrArg Int32.toInt h
    rw [sI_t (by omega)] at this
    simp at this
    omega
theorem sI_rem {a b : Int} (ha : 0 ≤ a ∧ a ≤ 2147483647) (hb : 0 < b ∧ b ≤ 2147483647) : sI a - sI a / sI b * sI b = sI (a % b) := by
  rw [sI_div ha hb, sI_mul, sI_sub, Int.emod_def, Int.mul_comm b]
theorem sJ_div {a b : Int} (ha : 0 ≤ a ∧ a ≤ 9223372036854775807) (hb : 0 < b ∧ b ≤ 9223372036854775807) : sJ a / sJ b = sJ (a / b) := by
  apply Int64.toInt_inj.mp
  have h1 : a / b ≤ a := Int.ediv_le_self b ha.1
  have h0 : 0 ≤ a / b := Int.ediv_nonneg ha.1 (by omega)
  rw [Int64.toInt_div_of_ne_right, sJ_t (by omega), sJ_t (by omega), sJ_t (by omega), Int.tdiv_eq_ediv_of_nonneg ha.1]
  · intro h
    have := congrArg Int64.toInt h
    rw [sJ_t (by omega)] at this
    simp at this
    omega
theorem sJ_rem {a b : Int} (ha : 0 ≤ a ∧ a ≤ 9223372036854775807) (hb : 0 < b ∧ b ≤ 9223372036854775807) : sJ a - sJ a / sJ b * sJ b = sJ (a % b) := by
  rw [sJ_div ha hb, sJ_mul, sJ_sub, Int.emod_def, Int.mul_comm b]
theorem sI_rem0 (x : Int32) {b : Int} (hb : 0 < b ∧ b ≤ 2147483647) : -b < (x - x / sI b * sI b).toInt ∧ (x - x / sI b * sI b).toInt < b := by
  have hr := sI_r x
  have e : x - x / sI b * sI b = sI (x.toInt.tmod b) := by
    have h1 : x / sI b = sI (x.toInt.tdiv b) := by
      apply Int32.toInt_inj.mp
      have q : -2147483648 ≤ x.toInt.tdiv b ∧ x.toInt.tdiv b ≤ 2147483647 := by
        by_cases h0 : 0 ≤ x.toInt
        · have h1 : x.toInt / b ≤ x.toInt := Int.ediv_le_self b h0
          have h2 : 0 ≤ x.toInt / b := Int.ediv_nonneg h0 (by omega)
          rw [Int.tdiv_eq_ediv_of_nonneg h0]
          omega
        · obtain ⟨y, hy, h3⟩ : ∃ y : Int, x.toInt = -y ∧ 0 ≤ y := ⟨-x.toInt, by omega, by omega⟩
          have h1 : y / b ≤ y := Int.ediv_le_self b h3
          have h2 : 0 ≤ y / b := Int.ediv_nonneg h3 (by omega)
          rw [hy, Int.neg_tdiv, Int.tdiv_eq_ediv_of_nonneg h3]
          omega
      rw [Int32.toInt_div_of_ne_right, sI_t (by omega), sI_t (by omega)]
      · intro h
        have := congrArg Int32.toInt h
        rw [sI_t (by omega)] at this
        simp at this
        omega
    rw [h1, sI_mul]
    conv => lhs; lhs; rw [← sI_o x]
    rw [sI_sub, Int.tmod_def, Int.mul_comm b]
  have h2 : x.toInt.tmod b < b := Int.tmod_lt_of_pos _ hb.1
  have h3 : -b < x.toInt.tmod b := Int.lt_tmod_of_pos _ hb.1
  rw [e, sI_t (by omega)]
  exact ⟨h3, h2⟩
theorem sb_nat {x : Int32} (h : 0 ≤ x.toInt) : x.toInt = (x.toBitVec.toNat : Int) ∧ x.toBitVec.toNat < 2147483648 := by
  have h2 := x.toBitVec.isLt
  have e : x.toInt = x.toBitVec.toInt := rfl
  rw [e] at h ⊢
  rw [BitVec.toInt_eq_toNat_cond] at h ⊢
  split at h <;> rename_i h3
  · rw [if_pos h3]; constructor <;> omega
  · omega
theorem sb_of {x : Int32} (h : x.toBitVec.toNat < 2147483648) : x.toInt = (x.toBitVec.toNat : Int) := by
  have e : x.toInt = x.toBitVec.toInt := rfl
  rw [e, BitVec.toInt_eq_toNat_cond, if_pos (by omega)]
theorem sb_and (x y : Int32) (h : 0 ≤ y.toInt) : 0 ≤ (x &&& y).toInt ∧ (x &&& y).toInt ≤ y.toInt := by
  obtain ⟨e, hl⟩ := sb_nat h
  have h1 : (x &&& y).toBitVec.toNat = x.toBitVec.toNat &&& y.toBitVec.toNat := by rw [Int32.toBitVec_and, BitVec.toNat_and]
  have h2 : x.toBitVec.toNat &&& y.toBitVec.toNat ≤ y.toBitVec.toNat := Nat.and_le_right
  rw [sb_of (by omega), e, h1]
  omega
theorem sb_andl (x y : Int32) (h : 0 ≤ x.toInt) : 0 ≤ (x &&& y).toInt ∧ (x &&& y).toInt ≤ x.toInt := by
  have := sb_and y x h
  rwa [show x &&& y = y &&& x from Int32.and_comm x y]
theorem sb_or {x y : Int32} (n : Nat) (hn : n ≤ 31) (hx : 0 ≤ x.toInt ∧ x.toInt < 2 ^ n) (hy : 0 ≤ y.toInt ∧ y.toInt < 2 ^ n) : 0 ≤ (x ||| y).toInt ∧ (x ||| y).toInt < 2 ^ n := by
  obtain ⟨e, hl⟩ := sb_nat hx.1
  obtain ⟨e2, hl2⟩ := sb_nat hy.1
  have h1 : (x ||| y).toBitVec.toNat = x.toBitVec.toNat ||| y.toBitVec.toNat := by rw [Int32.toBitVec_or, BitVec.toNat_or]
  have p : ((2 ^ n : Nat) : Int) = (2 : Int) ^ n := by simp
  have hp : 2 ^ n ≤ 2 ^ 31 := Nat.pow_le_pow_right (by decide) hn
  have h2 : x.toBitVec.toNat ||| y.toBitVec.toNat < 2 ^ n := Nat.or_lt_two_pow (by omega) (by omega)
  rw [sb_of (by omega), h1]
  omega
theorem sb_xor {x y : Int32} (n : Nat) (hn : n ≤ 31) (hx : 0 ≤ x.toInt ∧ x.toInt < 2 ^ n) (hy : 0 ≤ y.toInt ∧ y.toInt < 2 ^ n) : 0 ≤ (x ^^^ y).toInt ∧ (x ^^^ y).toInt < 2 ^ n := by
  obtain ⟨e, hl⟩ := sb_nat hx.1
  obtain ⟨e2, hl2⟩ := sb_nat hy.1
  have h1 : (x ^^^ y).toBitVec.toNat = x.toBitVec.toNat ^^^ y.toBitVec.toNat := by rw [Int32.toBitVec_xor, BitVec.toNat_xor]
  have p : ((2 ^ n : Nat) : Int) = (2 : Int) ^ n := by simp
  have hp : 2 ^ n ≤ 2 ^ 31 := Nat.pow_le_pow_right (by decide) hn
  have h2 : x.toBitVec.toNat ^^^ y.toBitVec.toNat < 2 ^ n := Nat.xor_lt_two_pow (by omega) (by omega)
  rw [sb_of (by omega), h1]
  omega
theorem sb_orl {x y : Int32} (hx : 0 ≤ x.toInt) (hy : 0 ≤ y.toInt) : x.toInt ≤ (x ||| y).toInt ∧ y.toInt ≤ (x ||| y).toInt := by
  obtain ⟨e, hl⟩ := sb_nat hx
  obtain ⟨e2, hl2⟩ := sb_nat hy
  have h1 : (x ||| y).toBitVec.toNat = x.toBitVec.toNat ||| y.toBitVec.toNat := by rw [Int32.toBitVec_or, BitVec.toNat_or]
  have h2 : x.toBitVec.toNat ||| y.toBitVec.toNat < 2 ^ 31 := Nat.or_lt_two_pow (by omega) (by omega)
  have h3 : x.toBitVec.toNat ≤ x.toBitVec.toNat ||| y.toBitVec.toNat := Nat.left_le_or
  have h4 : y.toBitVec.toNat ≤ x.toBitVec.toNat ||| y.toBitVec.toNat := Nat.right_le_or
  have h5 := sb_of (x := x ||| y) (by omega)
  omega
theorem sb_not (a : Int) : sI a ^^^ sI (-1) = sI (-1 - a) := by
  have h : ∀ x : Int32, x ^^^ (-1 : Int32) = -1 - x := by
    intro x
    apply Int32.toBitVec_inj.mp
    rw [Int32.toBitVec_xor, Int32.toBitVec_sub]
    have e : (-1 : Int32).toBitVec = BitVec.allOnes 32 := rfl
    rw [e, BitVec.xor_allOnes]
    apply BitVec.eq_of_toNat_eq
    rw [BitVec.toNat_sub, BitVec.toNat_not, BitVec.toNat_allOnes]
    have := x.toBitVec.isLt
    omega
  have e2 : sI (-1) = (-1 : Int32) := rfl
  rw [e2, h, ← e2]
  exact (Int32.ofInt_sub (-1) a).symm
theorem sb_shl {k : Int} (h : 0 ≤ k ∧ k ≤ 30) : sI 1 <<< (sI k &&& 31) = sI (2 ^ k.toNat) := by
  obtain ⟨n, rfl⟩ : ∃ n : Nat, k = n := ⟨k.toNat, by omega⟩
  rw [Int.toNat_natCast]
  have : ∀ n : Nat, n < 31 → sI 1 <<< (sI (n : Int) &&& 31) = sI (2 ^ n) := by decide
  exact this n (by omega)
theorem sb_shl2 {k : Int} (n : Nat) (h : 0 ≤ k ∧ k ≤ n) : (1 : Int) ≤ 2 ^ k.toNat ∧ (2 : Int) ^ k.toNat ≤ 2 ^ n := by
  have h1 : 2 ^ k.toNat ≤ 2 ^ n := Nat.pow_le_pow_right (by decide) (by omega)
  have h0 : 1 ≤ 2 ^ k.toNat := Nat.one_le_two_pow
  have p : ((2 ^ n : Nat) : Int) = (2 : Int) ^ n := by simp
  have p2 : ((2 ^ k.toNat : Nat) : Int) = (2 : Int) ^ k.toNat := by simp
  omega
theorem sb_shr {x y : Int32} (hx : 0 ≤ x.toInt) : 0 ≤ (x >>> y).toInt ∧ (x >>> y).toInt ≤ x.toInt := by
  have h1 : (x >>> y).toInt = x.toInt >>> (y.toBitVec.smod 32).toNat := by
    show (x >>> y).toBitVec.toInt = _
    rw [Int32.toBitVec_shiftRight, BitVec.sshiftRight', BitVec.toInt_sshiftRight]; rfl
  rw [h1, Int.shiftRight_eq_div_pow]
  constructor
  · exact Int.ediv_nonneg hx (by exact_mod_cast Nat.zero_le _)
  · exact Int.ediv_le_self _ hx
theorem sb_ushr (x : Int32) : 0 ≤ (x.toUInt32 >>> ((sI 16).toUInt32 &&& Int32.toUInt32 31)).toInt32.toInt ∧ (x.toUInt32 >>> ((sI 16).toUInt32 &&& Int32.toUInt32 31)).toInt32.toInt ≤ 65535 := by
  have e : ((sI 16).toUInt32 &&& Int32.toUInt32 31) = 16 := rfl
  rw [e]
  have h : (x.toUInt32 >>> 16).toInt32.toBitVec.toNat ≤ 65535 := by
    show (x.toUInt32 >>> 16).toNat ≤ 65535
    rw [UInt32.toNat_shiftRight]
    have := x.toUInt32.toNat_lt
    show x.toUInt32.toNat >>> (16 % 32) ≤ 65535
    rw [Nat.shiftRight_eq_div_pow]
    show x.toUInt32.toNat / 65536 ≤ 65535
    omega
  rw [sb_of (by omega)]
  omega
theorem sb_i8 (x : Int32) : -128 ≤ x.toInt8.toInt32.toInt ∧ x.toInt8.toInt32.toInt ≤ 127 := by
  have := x.toInt8.le_toInt
  have := x.toInt8.toInt_lt
  rw [Int8.toInt_toInt32]
  omega
theorem sb_i16 (x : Int32) : -32768 ≤ x.toInt16.toInt32.toInt ∧ x.toInt16.toInt32.toInt ≤ 32767 := by
  have := x.toInt16.le_toInt
  have := x.toInt16.toInt_lt
  rw [Int16.toInt_toInt32]
  omega
theorem sb_c16 (x : Int32) : 0 ≤ (x.toUInt32 % 65536).toInt32.toInt ∧ (x.toUInt32 % 65536).toInt32.toInt ≤ 65535 := by
  have h : (x.toUInt32 % 65536).toInt32.toBitVec.toNat ≤ 65535 := by
    show (x.toUInt32 % 65536).toNat ≤ 65535
    rw [UInt32.toNat_mod]
    show x.toUInt32.toNat % 65536 ≤ 65535
    omega
  rw [sb_of (by omega)]
  omega
theorem sb_xs (x y : Int32) : 0 ≤ (x ^^^ y).toInt ∧ (0 ≤ x.toInt ∧ 0 ≤ y.toInt ∨ x.toInt < 0 ∧ y.toInt < 0) ∨ (x ^^^ y).toInt < 0 ∧ (0 ≤ x.toInt ∧ y.toInt < 0 ∨ x.toInt < 0 ∧ 0 ≤ y.toInt) := by
  have h1 : ∀ z : Int32, z.toBitVec.msb = decide (z.toInt < 0) := fun z => BitVec.msb_eq_toInt
  have h2 : (x ^^^ y).toBitVec.msb = (x.toBitVec.msb ^^ y.toBitVec.msb) := by rw [Int32.toBitVec_xor, BitVec.msb_xor]
  rw [h1, h1, h1] at h2
  by_cases hx : x.toInt < 0 <;> by_cases hy : y.toInt < 0 <;> by_cases hz : (x ^^^ y).toInt < 0 <;> simp [hx, hy, hz] at h2 ⊢ <;> omega
theorem sI_remS {a b : Int} (ha : -2147483648 ≤ a ∧ a ≤ 2147483647) (hb : 0 < b ∧ b ≤ 2147483647) : (-b < (sI a - sI a / sI b * sI b).toInt ∧ (sI a - sI a / sI b * sI b).toInt < b) ∧ (0 ≤ a ∧ 0 ≤ (sI a - sI a / sI b * sI b).toInt ∨ a < 0 ∧ (sI a - sI a / sI b * sI b).toInt ≤ 0) := by
  refine ⟨sI_rem0 (sI a) hb, ?_⟩
  by_cases h : 0 ≤ a
  · left
    rw [sI_rem ⟨h, ha.2⟩ hb]
    have h1 := Int.emod_nonneg a (show b ≠ 0 by omega)
    have h2 := Int.emod_lt_of_pos a hb.1
    rw [sI_t (by omega)]
    exact ⟨h, h1⟩
  · right
    refine ⟨by omega, ?_⟩
    have e : sI a - sI a / sI b * sI b = sI (a.tmod b) := by
      have h1 : sI a / sI b = sI (a.tdiv b) := by
        apply Int32.toInt_inj.mp
        obtain ⟨y, hy, h3⟩ : ∃ y : Int, a = -y ∧ 0 ≤ y := ⟨-a, by omega, by omega⟩
        have h1 : y / b ≤ y := Int.ediv_le_self b h3
        have h2 : 0 ≤ y / b := Int.ediv_nonneg h3 (by omega)
        have q : a.tdiv b = -(y / b) := by rw [hy, Int.neg_tdiv, Int.tdiv_eq_ediv_of_nonneg h3]
        rw [Int32.toInt_div_of_ne_right, sI_t ha, sI_t (by omega), sI_t (by omega)]
        · intro h
          have := congrArg Int32.toInt h
          rw [sI_t (by omega)] at this
          simp at this
          omega
      rw [h1, sI_mul, sI_sub, Int.tmod_def, Int.mul_comm b]
    have h2 : a.tmod b < b := Int.tmod_lt_of_pos _ hb.1
    have h3 : -b < a.tmod b := Int.lt_tmod_of_pos _ hb.1
    have h4 : a.tmod b ≤ 0 := by
      obtain ⟨y, hy, h5⟩ : ∃ y : Int, a = -y ∧ 0 ≤ y := ⟨-a, by omega, by omega⟩
      have h6 := Int.emod_nonneg y (show b ≠ 0 by omega)
      rw [hy, Int.neg_tmod, Int.tmod_eq_emod_of_nonneg h5]
      omega
    rw [e, sI_t (by omega)]
    exact h4
theorem nar_char {a : Int} (h : 0 ≤ a ∧ a ≤ 127) : narrow .char (.int (sI a)) = .int (sI a) := by
  obtain ⟨n, rfl⟩ : ∃ n : Nat, a = n := ⟨a.toNat, by omega⟩
  have : ∀ n : Nat, n < 128 → narrow .char (.int (sI (n : Int))) = .int (sI (n : Int)) := by decide +kernel
  exact this n (by omega)
theorem nar_byte {a : Int} (h : 0 ≤ a ∧ a ≤ 127) : narrow .byte (.int (sI a)) = .int (sI a) := by
  obtain ⟨n, rfl⟩ : ∃ n : Nat, a = n := ⟨a.toNat, by omega⟩
  have : ∀ n : Nat, n < 128 → narrow .byte (.int (sI (n : Int))) = .int (sI (n : Int)) := by decide +kernel
  exact this n (by omega)
def s_cl : List Nat := [10, 20, 6, 21, 22, 23, 24, 6, 21, 22, 23, 24, 8, 25, 26, 8, 25, 26, 5, 27, 8, 25, 26, 8, 25, 26, 8, 25, 26, 8, 25, 26, 8, 25, 26, 8, 25, 26, 8, 25, 26, 8, 25, 26, 8, 25, 26, 8, 25, 26, 28, 9, 29, 9, 29, 9, 29, 9, 29, 30, 2, 6, 21, 22, 23, 24, 8, 25, 26, 2, 6, 21, 22, 23, 24, 8, 25, 26, 7, 31, 32, 3, 33, 34, 35, 36, 37, 1, 4, 38, 39, 40, 41, 41, 42, 0, 43, 44, 11, 45, 46, 47, 48, 49, 50, 51, 52, 53, 54, 55, 56, 57, 58, 59, 60, 61, 62, 63]
def s_c (i : Nat) : Nat := s_cl.getD i 999
def s_anl : List (Nat × Nat) := [(100, 900), (100, 6), (100, 6), (100, 6), (100, 900), (100, 8), (100, 8), (103, 10), (104, 4), (102, 40), (105, 2), (100, 901), (100, 901), (100, 864), (100, 8), (100, 8), (100, 8), (100, 64), (100, 1536), (100, 256), (100, 256), (102, 256), (102, 6), (100, 256), (100, 10), (100, 3543), (101, 2), (100, 900), (100, 1181), (100, 900), (100, 8), (100, 23), (100, 1536), (100, 256), (100, 256), (101, 256), (102, 256), (102, 256), (102, 6), (100, 256), (100, 9), (100, 4), (100, 4), (102, 160)]
def s_ak (c : Nat) : Nat := (s_anl.getD (c - 20) (999, 0)).1
def s_an (c : Nat) : Nat := (s_anl.getD (c - 20) (999, 0)).2
def bk (j : Nat) : Int × Int := if j = 0 then (0, 8) else if j = 1 ∨ j = 2 then (0, 255) else (-2147483648, 2147483647)
def bz (k : Nat) : Int × Int := if k = 1 then (0, 6) else if (4 ≤ k ∧ k ≤ 7) ∨ k = 280 then (0, 900) else if 20 ≤ k ∧ k ≤ 25 then (0, 9) else if 26 ≤ k ∧ k ≤ 48 then bk (k - 26) else if k = 49 then (0, 10) else if 50 ≤ k ∧ k ≤ 279 then bk ((k - 50) % 23) else (-2147483648, 2147483647)
def bf (k : Nat) : Int × Int := if 20 ≤ k ∧ k ≤ 25 then (0, 999) else bz k
/-- the places of all[] that tell the laws -/
def ca (k : Nat) : Bool := (Nat.ble 2 (k % 1181) && Nat.ble (k % 1181) 7) || Nat.ble 281 (k % 1181)
/-- the bounds of the ints, by the code of the cell and the place -/
def s_b (c k : Nat) : Int × Int := if c = 45 then bz (k % 1181) else if c = 48 then bf k else if c = 51 then bk k else if c = 2 then (if k = 0 then (0, 1) else (-2147483648, 2147483647)) else if c = 3 then (if k = 6 then (0, 8) else (-2147483648, 2147483647)) else if c = 4 then (if k = 11 then (0, 255) else if k = 12 then (0, 255) else if k = 13 then (0, 255) else (-2147483648, 2147483647)) else if c = 5 then (if k = 1 then (0, 9) else if k = 2 then (0, 10) else (-2147483648, 2147483647)) else if c = 6 then (if k = 0 then (0, 6) else if k = 6 then (0, 900) else if k = 7 then (0, 900) else if k = 8 then (0, 900) else if k = 9 then (0, 900) else if k = 10 then (0, 900) else (-2147483648, 2147483647)) else if c = 7 then (if k = 2 then (0, 901) else if k = 5 then (0, 4) else (-2147483648, 2147483647)) else if c = 8 then (if k = 0 then (0, 8) else if k = 3 then (0, 255) else if k = 4 then (0, 255) else (-2147483648, 2147483647)) else if c = 9 then (if k = 1 then (0, 3) else if k = 2 then ((-1), 40) else (-2147483648, 2147483647)) else if c = 10 then (if k = 1 then (0, 900) else (-2147483648, 2147483647)) else if c = 11 then (if k = 5 then (0, 900) else if k = 6 then (0, 900) else if k = 7 then (0, 900) else if k = 8 then (0, 900) else if k = 10 then (0, 999) else (-2147483648, 2147483647)) else if c = 20 then (0, 255) else if c = 38 then ((-1), 7) else if c = 46 then (0, 1) else if c = 55 then (0, 1) else if c = 47 then (0, 255) else if c = 52 then ((-1), 7) else if c = 53 then (0, 268435456) else if c = 59 then ((-1), 255) else if c = 61 then ((-1), 3) else if c = 62 then (0, 40) else if c = 54 then (0, 5) else (-2147483648, 2147483647)
/-- references that change: the code of what they point at -/
def s_m (c k : Nat) : Nat := if c = 3 ∧ k = 5 then 6 else if c = 4 ∧ k = 4 then 41 else if c = 4 ∧ k = 5 then 41 else if c = 4 ∧ k = 9 then 6 else if c = 4 ∧ k = 10 then 8 else if c = 7 ∧ k = 3 then 6 else if c = 7 ∧ k = 4 then 8 else if c = 10 ∧ k = 4 then 6 else if c = 10 ∧ k = 5 then 6 else 0
def s_p0l : List (List Nat) := [[1, 0, 0, 0, 2, 7, 12, 15, 18, 50, 59, 78, 81, 87, 88, 95], [], [0, 0, 3, 4, 5, 6], [], [], [], [], [0, 0, 8, 9, 10, 11], [], [], [], [], [0, 13, 14], [], [], [0, 16, 17], [], [], [19], [20, 23, 26, 29, 32, 35, 38, 41, 44, 47], [0, 21, 22], [], [], [0, 24, 25], [], [], [0, 27, 28], [], [], [0, 30, 31], [], [], [0, 33, 34], [], [], [0, 36, 37], [], [], [0, 39, 40], [], [], [0, 42, 43], [], [], [0, 45, 46], [], [], [0, 48, 49], [], [], [51, 53, 55, 57], [52], [], [54], [], [56], [], [58], [], [60, 69], [0, 61, 66], [0, 0, 62, 63, 64, 65], [], [], [], [], [0, 67, 68], [], [], [0, 70, 75], [0, 0, 71, 72, 73, 74], [], [], [], [], [0, 76, 77], [], [], [79, 80, 0, 7, 15], [], [], [82, 83, 84, 85, 86, 2], [], [], [], [], [], [81], [81, 89, 90, 91, 92, 93, 94, 0, 0, 2, 12], [], [], [], [], [], [], [88, 96, 97], [], [], [0, 99, 100, 101, 102, 0, 0, 0, 0, 0, 0, 0, 0, 0, 0, 103, 104, 105, 0, 106, 107, 108, 109, 110, 111, 112, 0, 113, 114, 115, 116, 117], [], [], [], [], [], [], [], [], [], [], [], [], [], [], [], [], [], [], []]
def s_p0 (i k : Nat) : Nat := (s_p0l.getD i []).getD k 0
/-- THE INVARIANT of every memory that can come: ints within their bounds, references as they were made or of their kind -/
def INV0 (M : mm_M) : Prop := (∀ i k, (s_b (s_c i) k).1 ≤ (M.1 i k).toInt ∧ (M.1 i k).toInt ≤ (s_b (s_c i) k).2) ∧ (∀ i k, s_m (s_c i) k = 0 → M.2.2 i k = s_p0 i k) ∧ (∀ i k, s_m (s_c i) k ≠ 0 → s_c (M.2.2 i k) = s_m (s_c i) k)
theorem s_c_lt {i c : Nat} (h : s_c i = c) (hc : c < 900) : i < mm_N := by
  rcases Nat.lt_or_ge i mm_N with h1 | h1
  · exact h1
  · have : s_c i = 999 := by unfold s_c; rw [List.getD_eq_getElem?_getD, List.getElem?_eq_none (by simpa [s_cl, mm_N] using h1)]; rfl
    omega
theorem s_tab : ∀ i, i < mm_N → (s_c i < 12 → mm_kc i = s_c i) ∧ (20 ≤ s_c i → mm_kc i = s_ak (s_c i) ∧ mm_kn i = s_an (s_c i)) := by decide +kernel
theorem s_lt {i c : Nat} (h : s_c i = c) (hc : Nat.ble c 899 = true) : i < mm_N := s_c_lt h (by have := Nat.le_of_ble_eq_true hc; omega)
theorem s_kc {i c : Nat} (h : s_c i = c) (hc : Nat.ble c 11 = true) : mm_kc i = c := by
  have h0 := Nat.le_of_ble_eq_true hc
  rw [(s_tab i (s_c_lt h (by omega))).1 (by omega), h]
theorem s_ka {i c n : Nat} (h : s_c i = c) (hc : Nat.ble 20 c = true) (hc2 : Nat.ble c 899 = true) (hn : s_ak c = n) : mm_kc i = n := by
  have h0 := Nat.le_of_ble_eq_true hc
  have h1 := Nat.le_of_ble_eq_true hc2
  rw [((s_tab i (s_c_lt h (by omega))).2 (by omega)).1, h, hn]
theorem s_kn {i c n : Nat} (h : s_c i = c) (hc : Nat.ble 20 c = true) (hc2 : Nat.ble c 899 = true) (hn : s_an c = n) : mm_kn i = n := by
  have h0 := Nat.le_of_ble_eq_true hc
  have h1 := Nat.le_of_ble_eq_true hc2
  rw [((s_tab i (s_c_lt h (by omega))).2 (by omega)).2, h, hn]
theorem s_ne {a b c d : Nat} (h1 : s_c a = c) (h2 : s_c b = d) (h : ¬ c = d) : a ≠ b := fun e => h (by rw [← h1, ← h2, e])
theorem s_fa {M M' : mm_M} {i k a b : Nat} {v : Int32} {z : Int} (e : M' = wI M i k v) (h : a ≠ i) (q : z = (M'.1 a b).toInt) : z = (M.1 a b).toInt := by rw [q, e]; exact congrArg Int32.toInt (u2_a _ _ h)
theorem s_fb {M M' : mm_M} {i k a b : Nat} {v : Int32} {z : Int} (e : M' = wI M i k v) (h : b ≠ k) (q : z = (M'.1 a b).toInt) : z = (M.1 a b).toInt := by rw [q, e]; exact congrArg Int32.toInt (u2_b _ _ h)
theorem s_fJ {M M' : mm_M} {i k a b : Nat} {v : Int64} {z : Int} (e : M' = wJ M i k v) (q : z = (M'.1 a b).toInt) : z = (M.1 a b).toInt := by rw [q, e]
theorem s_fP {M M' : mm_M} {i k a b v : Nat} {z : Int} (e : M' = wP M i k v) (q : z = (M'.1 a b).toInt) : z = (M.1 a b).toInt := by rw [q, e]
theorem s_ga {M M' : mm_M} {i k a b : Nat} {v : Int64} {z : Int} (e : M' = wJ M i k v) (h : a ≠ i) (q : z = (M'.2.1 a b).toInt) : z = (M.2.1 a b).toInt := by rw [q, e]; exact congrArg Int64.toInt (u2_a _ _ h)
theorem s_gb {M M' : mm_M} {i k a b : Nat} {v : Int64} {z : Int} (e : M' = wJ M i k v) (h : b ≠ k) (q : z = (M'.2.1 a b).toInt) : z = (M.2.1 a b).toInt := by rw [q, e]; exact congrArg Int64.toInt (u2_b _ _ h)
theorem s_gI {M M' : mm_M} {i k a b : Nat} {v : Int32} {z : Int} (e : M' = wI M i k v) (q : z = (M'.2.1 a b).toInt) : z = (M.2.1 a b).toInt := by rw [q, e]
theorem s_gP {M M' : mm_M} {i k a b v : Nat} {z : Int} (e : M' = wP M i k v) (q : z = (M'.2.1 a b).toInt) : z = (M.2.1 a b).toInt := by rw [q, e]
theorem s_pI {M M' : mm_M} {i k a b z : Nat} {v : Int32} (e : M' = wI M i k v) (q : z = M.2.2 a b) : z = M'.2.2 a b := by rw [q, e]
theorem s_pJ {M M' : mm_M} {i k a b z : Nat} {v : Int64} (e : M' = wJ M i k v) (q : z = M.2.2 a b) : z = M'.2.2 a b := by rw [q, e]
theorem s_pP {M M' : mm_M} {i k a b z v : Nat} (e : M' = wP M i k v) (h : b ≠ k) (q : z = M.2.2 a b) : z = M'.2.2 a b := by rw [q, e]; exact (u2_b _ _ h).symm
theorem s_pQ {M M' : mm_M} {i k a b z v : Nat} (e : M' = wP M i k v) (h : a ≠ i) (q : z = M.2.2 a b) : z = M'.2.2 a b := by rw [q, e]; exact (u2_a _ _ h).symm
theorem s_pW {M M' : mm_M} {i k v : Nat} (e : M' = wP M i k v) : v = M'.2.2 i k := by rw [e]; exact (u2_s _ _ _ _).symm
/-- what a call leaves: ints of the other cells, and all references -/
def FR (S : List Nat) (M N : mm_M) : Prop := (∀ i k, i ∉ S → N.1 i k = M.1 i k) ∧ N.2.2 = M.2.2 ∧ ∀ i k, i ∉ S → N.2.1 i k = M.2.1 i k
theorem FR.rf {S : List Nat} {M : mm_M} : FR S M M := ⟨fun _ _ _ => rfl, rfl, fun _ _ _ => rfl⟩
theorem FR.wI {S : List Nat} {M N N' : mm_M} {i k : Nat} {v : Int32} (h : FR S M N) (e : N' = wI N i k v) (hi : i ∈ S) : FR S M N' := by
  refine ⟨fun a b ha => ?_, by rw [e]; exact h.2.1, by rw [e]; exact h.2.2⟩
  have hne : a ≠ i := fun q => ha (by rw [q]; exact hi)
  rw [e]
  exact (u2_a N.1 v hne).trans (h.1 a b ha)
theorem FR.wJ {S : List Nat} {M N N' : mm_M} {i k : Nat} {v : Int64} (h : FR S M N) (e : N' = wJ N i k v) (hi : i ∈ S) : FR S M N' := by
  refine ⟨by rw [e]; exact h.1, by rw [e]; exact h.2.1, fun a b ha => ?_⟩
  have hne : a ≠ i := fun q => ha (by rw [q]; exact hi)
  rw [e]
  exact (u2_a N.2.1 v hne).trans (h.2.2 a b ha)
theorem FR.tr {S T : List Nat} {M N N' : mm_M} (h : FR S M N) (h2 : FR T N N') (ht : ∀ x ∈ T, x ∈ S) : FR S M N' :=
  ⟨fun a b ha => by rw [h2.1 a b (fun q => ha (ht a q))]; exact h.1 a b ha, by rw [h2.2.1]; exact h.2.1, fun a b ha => by rw [h2.2.2 a b (fun q => ha (ht a q))]; exact h.2.2 a b ha⟩
theorem s_fF {S : List Nat} {M M' : mm_M} {a b : Nat} {z : Int} (e : FR S M M') (h : a ∉ S) (q : z = (M'.1 a b).toInt) : z = (M.1 a b).toInt := by rw [q, e.1 a b h]
theorem s_pF {S : List Nat} {M M' : mm_M} {a b z : Nat} (e : FR S M M') (q : z = M.2.2 a b) : z = M'.2.2 a b := by rw [q, e.2.1]
theorem s_gF {S : List Nat} {M M' : mm_M} {a b : Nat} {z : Int} (e : FR S M M') (h : a ∉ S) (q : z = (M'.2.1 a b).toInt) : z = (M.2.1 a b).toInt := by rw [q, e.2.2 a b h]
theorem s_nin {a c : Nat} {S : List Nat} (h : s_c a = c) (hS : ∀ x ∈ S, s_c x ≠ c) : a ∉ S := fun q => hS a q h
theorem s_wr {M M' : mm_M} {i k : Nat} {a : Int} (e : M' = wI M i k (sI a)) (h : -2147483648 ≤ a ∧ a ≤ 2147483647) : (M'.1 i k).toInt = a := by rw [e, show (wI M i k (sI a)).1 i k = sI a from u2_s _ _ _ _, sI_t h]
theorem INV0.rd {M : mm_M} (hM : INV0 M) {i c k : Nat} {lo hi : Int} (h : s_c i = c) (hb : s_b c k = (lo, hi)) : lo ≤ (M.1 i k).toInt ∧ (M.1 i k).toInt ≤ hi := by
  have := hM.1 i k
  rw [h, hb] at this
  exact this
theorem INV0.wr {M : mm_M} (hM : INV0 M) {i c k : Nat} {lo hi : Int} {v : Int32} (h : s_c i = c) (hb : s_b c k = (lo, hi)) (hv : lo ≤ v.toInt ∧ v.toInt ≤ hi) : INV0 (wI M i k v) := by
  refine ⟨fun a b => ?_, hM.2⟩
  by_cases ha : a = i
  · by_cases hk : b = k
    · subst ha; subst hk
      rw [show (wI M a b v).1 a b = v from u2_s _ _ _ _, h, hb]
      exact hv
    · rw [show (wI M i k v).1 a b = M.1 a b from u2_b _ _ hk]; exact hM.1 a b
  · rw [show (wI M i k v).1 a b = M.1 a b from u2_a _ _ ha]; exact hM.1 a b
theorem INV0.wJ {M : mm_M} (hM : INV0 M) (i k : Nat) (v : Int64) : INV0 (wJ M i k v) := hM
theorem INV0.rp {M : mm_M} (hM : INV0 M) {i c k v : Nat} (h : s_c i = c) (hm : s_m c k = 0) (hv : s_p0 i k = v) : M.2.2 i k = v := by
  rw [hM.2.1 i k (by rw [h]; exact hm), hv]
theorem INV0.rm {M : mm_M} (hM : INV0 M) {i c k t : Nat} (h : s_c i = c) (hm : s_m c k = t) (h0 : ¬ t = 0) : s_c (M.2.2 i k) = t := by
  have := hM.2.2 i k (by rw [h, hm]; exact h0)
  rw [this, h, hm]
theorem INV0.wp {M : mm_M} (hM : INV0 M) {i c k t v : Nat} (h : s_c i = c) (hm : s_m c k = t) (h0 : ¬ t = 0) (hv : s_c v = t) : INV0 (wP M i k v) := by
  refine ⟨hM.1, fun a b q => ?_, fun a b q => ?_⟩
  · by_cases ha : a = i
    · by_cases hk : b = k
      · subst ha; subst hk
        rw [h, hm] at q
        exact absurd q h0
      · rw [show (wP M i k v).2.2 a b = M.2.2 a b from u2_b _ _ hk]; exact hM.2.1 a b q
    · rw [show (wP M i k v).2.2 a b = M.2.2 a b from u2_a _ _ ha]; exact hM.2.1 a b q
  · by_cases ha : a = i
    · by_cases hk : b = k
      · subst ha; subst hk
        rw [show (wP M a b v).2.2 a b = v from u2_s _ _ _ _, h, hm]
        exact hv
      · rw [show (wP M i k v).2.2 a b = M.2.2 a b from u2_b _ _ hk]; exact hM.2.2 a b q
    · rw [show (wP M i k v).2.2 a b = M.2.2 a b from u2_a _ _ ha]; exact hM.2.2 a b q
theorem met_ofF {l : Launch} {y : MethodName} {ws ws' : List Cond} {rm : Room} {Pc : Array Value → State → Prop} {Qc : Array Value → State → Outcome → State → Prop} {mc ms : Nat} {free : Addr → Prop} {cc : ByteArray} {maxL : Nat} {ret : Option FieldType} (hy : plainFor y = true) (hw : ws = Cond.code y cc maxL ret :: ws')
    (body : ∀ (p : Program) (e : Env) (s : State) (m : MethodId) (args : Array Value) (below : List Frame) (meth : Method) (c : Code) (s₁ : State), BodyLoose p l y (headSpec ws rm) cc maxL ret e s m args below meth c s₁ → c.maxLocals = maxL → Pc args s → W p l e (headSpec ws rm).room s m args below meth c s.heap [] 0 0 (MQ below Qc args s mc ms free) (entryFrame m args maxL)) : Met l y ws rm Pc Qc mc ms free := by
  refine MetFree.of_bodySF (code := cc) (maxLocals := maxL) (ret := ret) hy ?_ ?_
  · intro args s m h hn
    obtain ⟨meth, c, h1, h2, h3, h4, h5, h6, -, -⟩ := Cond.code_spec hn (atoms_spec (ws := ws) h _ (by rw [hw]; exact List.mem_cons_self))
    exact ⟨meth, c, h1, h2, h3, h4, h5, h6⟩
  · intro p e s m args below meth c s₁ B hml hP _
    have hh0 : s₁.heap = s.heap := by rw [B.state]; rfl
    have K := body p e s m args below meth c s₁ B hml hP
    rw [← hh0] at K
    obtain ⟨t, a1, o, b1, b2, b3, L, b4, b5⟩ := K s₁ rfl (Stand.of_body B)
    exact ⟨t, o, a1, b1, b2, b3, L, b4, b5⟩
section CNF
variable {l : Launch} {d : Nat} {y : MethodName} {ws ws' : List Cond} {dC : Nat → ClassId} {dI : Nat → Nat → Nat} {ad : Nat → Nat} {cA : Nat → ClassId} {av : List Value} {M : mm_M} {cc : ByteArray} {maxL : Nat} {lv : List (Nat × Value)}
theorem ci_ofF {post : Int32 → mm_M → Prop} {ty : FieldType} (hy : plainFor y = true) (hw : ws = Cond.code y cc maxL (some ty) :: ws') (hn : ∀ r M', post r M' → narrow ty (.int r) = .int r) (hav : (lg_sl av).length ≤ maxL) (hlv : lv_args 0 av = lv)
    (body : ∀ (p : Program) (e : Env) (s : State) (m : MethodId) (args : Array Value) (below : List Frame) (meth : Method) (c : Code) (A : Nat → Prop) (Q : State → Prop), jj_C p (cn_R d) s m args c 0 0 cc maxL y.cls ws dC dI ad cA A → (∀ (r : Int32) (M' : mm_M) (pc : Nat) (lv' : List (Nat × Value)), decode cc pc = .ok (.ireturn, 1) → post r M' → jj p l e (cn_R d) s m args below meth c 0 0 Q maxL dC dI ad cA A M' pc lv' [.int r]) → jj p l e (cn_R d) s m args below meth c 0 0 Q maxL dC dI ad cA A M 0 lv []) : Ci l d y ws dC dI ad cA av M post := by
  intro sz
  refine met_ofF (cc := cc) (maxL := maxL) (ret := some ty) hy hw ?_
  intro p e s m args below meth c s₁ B hml hv
  obtain ⟨rfl, hsz, hDD, hP, hK, hST⟩ := hv
  have hts := atoms_spec (ws := ws) B.pre
  have hown : s.vm.findClass y.cls = some m.cls := findClass_of_methodNamed B.named
  have hlocks := B.notSynchronized
  subst hsz
  have hl := lv_entry av (n := maxL) hav
  rw [lg_entry_eq]
  generalize (lg_sl av ++ List.replicate (maxL - (lg_sl av).length) Slot.unset).toArray = ls at hl ⊢
  rw [hlv] at hl
  have hS : va_S (cn_A ad s.heap.size) s.heap s.heap [] := va_S.rf
  refine body p e s m _ below meth c (cn_A ad s.heap.size) _ ⟨⟨B.exec, B.bytes, hml, hown, hts⟩, hK, hDD, fun i hi => Or.inl ⟨i, hi, rfl⟩, fun q h => Or.inr h, Nat.le_refl _, Nat.le_refl _, hST⟩ ?_ s.heap [] ls hP hS hl
  intro r M' pc lv' hdg hpost H locs ls' hP' hS' hl'
  exact W.zret B.exec B.bytes B.returns (hn r M' hpost) (fun t ht hW => ⟨⟨r, M', rfl, hpost, hDD, by rw [ht]; exact hP', hK.moved hW.alike, hST.go (cn_Am (by rw [ht]; exact hS'.1)) (by rw [ht]; exact hS'.2.1) hW⟩, hS'.F ht⟩) hS'.2.2 hdg
end CNF
def s_t (c k : Nat) : Nat := if c = 30 ∧ k < 2 then 2 else if c = 28 ∧ k < 4 then 9 else if c = 27 ∧ k < 10 then 8 else if c = 0 ∧ k = 0 then 4 else if c = 0 ∧ k = 1 then 43 else if c = 0 ∧ k = 2 then 44 else if c = 1 ∧ k = 0 then 3 else if c = 2 ∧ k = 1 then 6 else if c = 2 ∧ k = 2 then 8 else if c = 3 ∧ k = 0 then 33 else if c = 3 ∧ k = 1 then 34 else if c = 3 ∧ k = 2 then 35 else if c = 3 ∧ k = 3 then 36 else if c = 3 ∧ k = 4 then 37 else if c = 4 ∧ k = 0 then 3 else if c = 4 ∧ k = 1 then 38 else if c = 4 ∧ k = 2 then 39 else if c = 4 ∧ k = 3 then 40 else if c = 4 ∧ k = 6 then 42 else if c = 5 ∧ k = 0 then 27 else if c = 6 ∧ k = 2 then 21 else if c = 6 ∧ k = 3 then 22 else if c = 6 ∧ k = 4 then 23 else if c = 6 ∧ k = 5 then 24 else if c = 7 ∧ k = 0 then 31 else if c = 7 ∧ k = 1 then 32 else if c = 8 ∧ k = 1 then 25 else if c = 8 ∧ k = 2 then 26 else if c = 9 ∧ k = 0 then 29 else if c = 10 ∧ k = 0 then 20 else if c = 10 ∧ k = 6 then 8 else if c = 10 ∧ k = 7 then 8 else if c = 10 ∧ k = 8 then 5 else if c = 10 ∧ k = 9 then 28 else if c = 10 ∧ k = 10 then 30 else if c = 10 ∧ k = 11 then 7 else if c = 10 ∧ k = 12 then 3 else if c = 10 ∧ k = 13 then 1 else if c = 10 ∧ k = 14 then 4 else if c = 10 ∧ k = 15 then 0 else if c = 11 ∧ k = 1 then 45 else if c = 11 ∧ k = 2 then 46 else if c = 11 ∧ k = 3 then 47 else if c = 11 ∧ k = 4 then 48 else if c = 11 ∧ k = 15 then 49 else if c = 11 ∧ k = 16 then 50 else if c = 11 ∧ k = 17 then 51 else if c = 11 ∧ k = 19 then 52 else if c = 11 ∧ k = 20 then 53 else if c = 11 ∧ k = 21 then 54 else if c = 11 ∧ k = 22 then 55 else if c = 11 ∧ k = 23 then 56 else if c = 11 ∧ k = 24 then 57 else if c = 11 ∧ k = 25 then 58 else if c = 11 ∧ k = 27 then 59 else if c = 11 ∧ k = 28 then 60 else if c = 11 ∧ k = 29 then 61 else if c = 11 ∧ k = 30 then 62 else if c = 11 ∧ k = 31 then 63 else 0
theorem s_t_all : ∀ i, i < mm_N → ∀ k, k < 32 → s_t (s_c i) k = 0 ∨ s_c (s_p0 i k) = s_t (s_c i) k := by decide +kernel
theorem INV0.rt {M : mm_M} (hM : INV0 M) {i c k t : Nat} (h : s_c i = c) (hc : Nat.ble c 899 = true) (hk : Nat.ble k 31 = true) (hm : s_m c k = 0) (ht : s_t c k = t) (h0 : ¬ t = 0) : s_c (M.2.2 i k) = t := by
  have h1 := s_t_all i (s_lt h hc) k (by have := Nat.le_of_ble_eq_true hk; omega)
  rw [h, ht] at h1
  rw [hM.2.1 i k (by rw [h]; exact hm)]
  rcases h1 with h1 | h1
  · exact absurd h1 h0
  · exact h1
theorem INV0.re {M : mm_M} (hM : INV0 M) {i c k t n : Nat} (h : s_c i = c) (hc : Nat.ble c 899 = true) (hn : Nat.ble n 32 = true) (hk : k < n) (hm : ∀ k, s_m c k = 0) (ht : ∀ k, k < n → s_t c k = t) (h0 : ¬ t = 0) : s_c (M.2.2 i k) = t := by
  have h1 := s_t_all i (s_lt h hc) k (by have := Nat.le_of_ble_eq_true hn; omega)
  rw [h, ht k hk] at h1
  rw [hM.2.1 i k (by rw [h]; exact hm k)]
  rcases h1 with h1 | h1
  · exact absurd h1 h0
  · exact h1
/-- the frozen part of a memory: what pr names stays, all else is 0 -/
def keep (pr : Nat → Nat → Bool) (M : mm_M) : mm_M := (fun i k => if pr i k = true then M.1 i k else 0, fun i k => if pr i k = true then M.2.1 i k else 0, fun i k => if pr i k = true then M.2.2 i k else 0)
theorem keep_I {pr : Nat → Nat → Bool} {M : mm_M} {i k : Nat} {v : Int32} (h : pr i k = false) : keep pr (wI M i k v) = keep pr M := by
  have : (fun a b => if pr a b = true then (wI M i k v).1 a b else 0) = (fun a b => if pr a b = true then M.1 a b else 0) := by
    funext a b
    by_cases q : pr a b = true
    · rw [if_pos q, if_pos q]
      by_cases ha : a = i
      · by_cases hb : b = k
        · subst ha; subst hb; rw [h] at q; cases q
        · exact u2_b _ _ hb
      · exact u2_a _ _ ha
    · rw [if_neg q, if_neg q]
  unfold keep
  rw [this]
theorem keep_J {pr : Nat → Nat → Bool} {M : mm_M} {i k : Nat} {v : Int64} (h : pr i k = false) : keep pr (wJ M i k v) = keep pr M := by
  have : (fun a b => if pr a b = true then (wJ M i k v).2.1 a b else 0) = (fun a b => if pr a b = true then M.2.1 a b else 0) := by
    funext a b
    by_cases q : pr a b = true
    · rw [if_pos q, if_pos q]
      by_cases ha : a = i
      · by_cases hb : b = k
        · subst ha; subst hb; rw [h] at q; cases q
        · exact u2_b _ _ hb
      · exact u2_a _ _ ha
    · rw [if_neg q, if_neg q]
  unfold keep
  rw [this]
theorem keep_P {pr : Nat → Nat → Bool} {M : mm_M} {i k v : Nat} (h : pr i k = false) : keep pr (wP M i k v) = keep pr M := by
  have : (fun a b => if pr a b = true then (wP M i k v).2.2 a b else 0) = (fun a b => if pr a b = true then M.2.2 a b else 0) := by
    funext a b
    by_cases q : pr a b = true
    · rw [if_pos q, if_pos q]
      by_cases ha : a = i
      · by_cases hb : b = k
        · subst ha; subst hb; rw [h] at q; cases q
        · exact u2_b _ _ hb
      · exact u2_a _ _ ha
    · rw [if_neg q, if_neg q]
  unfold keep
  rw [this]
/-- THE INVARIANT during a method: ints within their bounds, references of their kind, the frozen part as it was -/
def INV (pr : Nat → Nat → Bool) (Kz M : mm_M) : Prop := INV0 M ∧ keep pr M = Kz
theorem INV.fI {pr : Nat → Nat → Bool} {Kz M : mm_M} (h : INV pr Kz M) {i k : Nat} (hp : pr i k = true) : M.1 i k = Kz.1 i k := by
  rw [← h.2]; show _ = (if pr i k = true then M.1 i k else 0); rw [if_pos hp]
theorem INV.fJ {pr : Nat → Nat → Bool} {Kz M : mm_M} (h : INV pr Kz M) {i k : Nat} (hp : pr i k = true) : M.2.1 i k = Kz.2.1 i k := by
  rw [← h.2]; show _ = (if pr i k = true then M.2.1 i k else 0); rw [if_pos hp]
theorem INV.fP {pr : Nat → Nat → Bool} {Kz M : mm_M} (h : INV pr Kz M) {i k : Nat} (hp : pr i k = true) : M.2.2 i k = Kz.2.2 i k := by
  rw [← h.2]; show _ = (if pr i k = true then M.2.2 i k else 0); rw [if_pos hp]
section IV
variable {pr : Nat → Nat → Bool} {Kz M : mm_M}
theorem INV.rd (hM : INV pr Kz M) {i c k : Nat} {lo hi : Int} (h : s_c i = c) (hb : s_b c k = (lo, hi)) : lo ≤ (M.1 i k).toInt ∧ (M.1 i k).toInt ≤ hi := hM.1.rd h hb
theorem INV.wr (hM : INV pr Kz M) {i c k : Nat} {lo hi : Int} {v : Int32} (h : s_c i = c) (hb : s_b c k = (lo, hi)) (hv : lo ≤ v.toInt ∧ v.toInt ≤ hi) (hp : pr i k = false) : INV pr Kz (wI M i k v) := ⟨hM.1.wr h hb hv, (keep_I hp).trans hM.2⟩
theorem INV.wJ (hM : INV pr Kz M) (i k : Nat) (v : Int64) (hp : pr i k = false) : INV pr Kz (wJ M i k v) := ⟨hM.1, (keep_J hp).trans hM.2⟩
theorem INV.rp (hM : INV pr Kz M) {i c k v : Nat} (h : s_c i = c) (hm : s_m c k = 0) (hv : s_p0 i k = v) : M.2.2 i k = v := hM.1.rp h hm hv
theorem INV.rm (hM : INV pr Kz M) {i c k t : Nat} (h : s_c i = c) (hm : s_m c k = t) (h0 : ¬ t = 0) : s_c (M.2.2 i k) = t := hM.1.rm h hm h0
theorem INV.wp (hM : INV pr Kz M) {i c k t v : Nat} (h : s_c i = c) (hm : s_m c k = t) (h0 : ¬ t = 0) (hv : s_c v = t) (hp : pr i k = false) : INV pr Kz (wP M i k v) := ⟨hM.1.wp h hm h0 hv, (keep_P hp).trans hM.2⟩
theorem INV.rt (hM : INV pr Kz M) {i c k t : Nat} (h : s_c i = c) (hc : Nat.ble c 899 = true) (hk : Nat.ble k 31 = true) (hm : s_m c k = 0) (ht : s_t c k = t) (h0 : ¬ t = 0) : s_c (M.2.2 i k) = t := hM.1.rt h hc hk hm ht h0
theorem INV.re (hM : INV pr Kz M) {i c k t n : Nat} (h : s_c i = c) (hc : Nat.ble c 899 = true) (hn : Nat.ble n 32 = true) (hk : k < n) (hm : ∀ k, s_m c k = 0) (ht : ∀ k, k < n → s_t c k = t) (h0 : ¬ t = 0) : s_c (M.2.2 i k) = t := hM.1.re h hc hn hk hm ht h0
theorem INV.rH (hM : INV pr Kz M) {i c k : Nat} {lo hi : Int} (h : s_c i = c) (hb : lo ≤ (s_b c k).1 ∧ (s_b c k).2 ≤ hi) : lo ≤ (M.1 i k).toInt ∧ (M.1 i k).toInt ≤ hi := by
  have := hM.1.1 i k
  rw [h] at this
  exact ⟨Int.le_trans hb.1 this.1, Int.le_trans this.2 hb.2⟩
end IV
/-- what a method of a side may write, by code and place -/
def px (c k : Nat) : Bool := (Nat.ble c 10 || (Nat.ble 20 c && Nat.ble c 44)) && !((Nat.beq c 10 && Nat.beq k 1) || (Nat.beq c 2 && Nat.beq k 0) || (Nat.beq c 9 && Nat.beq k 1) || (Nat.beq c 9 && Nat.beq k 2) || (Nat.beq c 10 && Nat.beq k 2) || (Nat.beq c 10 && Nat.beq k 3) || (Nat.beq c 10 && Nat.beq k 4) || (Nat.beq c 10 && Nat.beq k 5) || (Nat.beq c 6 && Nat.beq k 0) || (Nat.beq c 6 && Nat.beq k 1) || (Nat.beq c 8 && Nat.beq k 0) || (Nat.beq c 7 && Nat.beq k 3) || (Nat.beq c 7 && Nat.beq k 4) || Nat.beq c 20)
def PX (pr : Nat → Nat → Bool) : Prop := ∀ i k, px (s_c i) k = true → pr i k = false
theorem PX.w {pr : Nat → Nat → Bool} (H : PX pr) {i c k : Nat} (h : s_c i = c) (hp : px c k = true) : pr i k = false := H i k (by rw [h]; exact hp)
def pm (c k : Nat) : Bool := (Nat.beq c 11 && !Nat.beq k 5 && !Nat.beq k 13 && !Nat.beq k 14) || (Nat.beq c 45 && !(ca k)) || (Nat.ble 47 c && Nat.ble c 63 && !Nat.beq c 61 && !Nat.beq c 62 && !Nat.beq c 47)
def PM (pr : Nat → Nat → Bool) : Prop := ∀ i k, pm (s_c i) k = true → pr i k = false
theorem PM.w {pr : Nat → Nat → Bool} (H : PM pr) {i c k : Nat} (h : s_c i = c) (hp : pm c k = true) : pr i k = false := H i k (by rw [h]; exact hp)
end
section
section YR
variable {p : Program} {l : Launch} {e : Env} {R : Room} {s : State} {m : MethodId} {args : Array Value} {below : List Frame} {meth : Method} {c : Code} {cells slots : Nat} {Q : State → Prop} {cc : ByteArray} {nL : Nat} {own : String} {Ts : List Cond} {dC : Nat → ClassId} {dI : Nat → Nat → Nat} {ad : Nat → Nat} {cA : Nat → ClassId} {A : Nat → Prop} {M Kz : mm_M} {pr : Nat → Nat → Bool} {pc : Nat} {lv : List (Nat × Value)} {st : List Value}
theorem y_iconst (C : jj_C p R s m args c cells slots cc nL own Ts dC dI ad cA A) {n : Int} (d : decode cc pc = .ok (.iconst n, 1)) (k : jj p l e R s m args below meth c cells slots Q nL dC dI ad cA A M (pc + 1) lv (.int (sI n) :: st)) : jj p l e R s m args below meth c cells slots Q nL dC dI ad cA A M pc lv st := j_iconst C (sI n) d rfl k
theorem y_bipush (C : jj_C p R s m args c cells slots cc nL own Ts dC dI ad cA A) {n : Int} (d : decode cc pc = .ok (.bipush n, 2)) (hv : (Int8.ofInt n).toInt32 = sI n) (k : jj p l e R s m args below meth c cells slots Q nL dC dI ad cA A M (pc + 2) lv (.int (sI n) :: st)) : jj p l e R s m args below meth c cells slots Q nL dC dI ad cA A M pc lv st := j_bipush C (sI n) d hv k
theorem y_sipush (C : jj_C p R s m args c cells slots cc nL own Ts dC dI ad cA A) {n : Int} (d : decode cc pc = .ok (.sipush n, 3)) (hv : (Int16.ofInt n).toInt32 = sI n) (k : jj p l e R s m args below meth c cells slots Q nL dC dI ad cA A M (pc + 3) lv (.int (sI n) :: st)) : jj p l e R s m args below meth c cells slots Q nL dC dI ad cA A M pc lv st := j_sipush C (sI n) d hv k
theorem y_lconst (C : jj_C p R s m args c cells slots cc nL own Ts dC dI ad cA A) {n : Fin 2} (a : Int) (d : decode cc pc = .ok (.lconst n, 1)) (hv : Int64.ofNat (n : Nat) = sJ a) (k : jj p l e R s m args below meth c cells slots Q nL dC dI ad cA A M (pc + 1) lv (.long (sJ a) :: st)) : jj p l e R s m args below meth c cells slots Q nL dC dI ad cA A M pc lv st := j_lconst C (sJ a) d hv k
theorem y_ldc (C : jj_C p R s m args c cells slots cc nL own Ts dC dI ad cA A) {n : Nat} {v : Int32} (a : Int) (d : decode cc pc = .ok (.ldc n, 2)) (hw : Cond.constant own n v ∈ Ts) (hv : v = sI a) (k : jj p l e R s m args below meth c cells slots Q nL dC dI ad cA A M (pc + 2) lv (.int (sI a) :: st)) : jj p l e R s m args below meth c cells slots Q nL dC dI ad cA A M pc lv st := j_ldc C v d hw (by rw [hv]; exact k)
theorem y_ldcw (C : jj_C p R s m args c cells slots cc nL own Ts dC dI ad cA A) {n : Nat} {v : Int32} (a : Int) (d : decode cc pc = .ok (.ldc_w n, 3)) (hw : Cond.constant own n v ∈ Ts) (hv : v = sI a) (k : jj p l e R s m args below meth c cells slots Q nL dC dI ad cA A M (pc + 3) lv (.int (sI a) :: st)) : jj p l e R s m args below meth c cells slots Q nL dC dI ad cA A M pc lv st := j_ldcw C v d hw (by rw [hv]; exact k)
theorem y_ldc2 (C : jj_C p R s m args c cells slots cc nL own Ts dC dI ad cA A) {n : Nat} {v : Int64} (a : Int) (d : decode cc pc = .ok (.ldc2_w n, 3)) (hw : Cond.constantLong own n v ∈ Ts) (hv : v = sJ a) (k : jj p l e R s m args below meth c cells slots Q nL dC dI ad cA A M (pc + 3) lv (.long (sJ a) :: st)) : jj p l e R s m args below meth c cells slots Q nL dC dI ad cA A M pc lv st := j_ldc2 C v d hw (by rw [hv]; exact k)
theorem y_iinc (C : jj_C p R s m args c cells slots cc nL own Ts dC dI ad cA A) {i : Nat} {n a : Int} (q : Nat) (lv' : List (Nat × Value)) (d : decode cc pc = .ok (.iinc i n, 3)) (hq : lv[q]? = some (i, .int (sI a))) (hn : i < nL) (h : (i, Value.int (sI (a + n))) :: lv.filter (fun q => !(q.1 == i) && !(q.1 + 1 == i && q.2.category == 2)) = lv') (k : jj p l e R s m args below meth c cells slots Q nL dC dI ad cA A M (pc + 3) lv' st) : jj p l e R s m args below meth c cells slots Q nL dC dI ad cA A M pc lv st := j_iinc C q (sI (a + n)) lv' d hq (sI_add a n) hn h k
theorem y_iadd (C : jj_C p R s m args c cells slots cc nL own Ts dC dI ad cA A) {a b : Int} (d : decode cc pc = .ok (.iadd, 1)) (k : jj p l e R s m args below meth c cells slots Q nL dC dI ad cA A M (pc + 1) lv (.int (sI (a + b)) :: st)) : jj p l e R s m args below meth c cells slots Q nL dC dI ad cA A M pc lv (.int (sI b) :: .int (sI a) :: st) := z_iadd C _ (sI_add a b) d k
theorem y_ladd (C : jj_C p R s m args c cells slots cc nL own Ts dC dI ad cA A) {a b : Int} (d : decode cc pc = .ok (.ladd, 1)) (k : jj p l e R s m args below meth c cells slots Q nL dC dI ad cA A M (pc + 1) lv (.long (sJ (a + b)) :: st)) : jj p l e R s m args below meth c cells slots Q nL dC dI ad cA A M pc lv (.long (sJ b) :: .long (sJ a) :: st) := z_ladd C _ (sJ_add a b) d k
theorem y_isub (C : jj_C p R s m args c cells slots cc nL own Ts dC dI ad cA A) {a b : Int} (d : decode cc pc = .ok (.isub, 1)) (k : jj p l e R s m args below meth c cells slots Q nL dC dI ad cA A M (pc + 1) lv (.int (sI (a - b)) :: st)) : jj p l e R s m args below meth c cells slots Q nL dC dI ad cA A M pc lv (.int (sI b) :: .int (sI a) :: st) := z_isub C _ (sI_sub a b) d k
theorem y_lsub (C : jj_C p R s m args c cells slots cc nL own Ts dC dI ad cA A) {a b : Int} (d : decode cc pc = .ok (.lsub, 1)) (k : jj p l e R s m args below meth c cells slots Q nL dC dI ad cA A M (pc + 1) lv (.long (sJ (a - b)) :: st)) : jj p l e R s m args below meth c cells slots Q nL dC dI ad cA A M pc lv (.long (sJ b) :: .long (sJ a) :: st) := z_lsub C _ (sJ_sub a b) d k
theorem y_imul (C : jj_C p R s m args c cells slots cc nL own Ts dC dI ad cA A) {a b : Int} (d : decode cc pc = .ok (.imul, 1)) (k : jj p l e R s m args below meth c cells slots Q nL dC dI ad cA A M (pc + 1) lv (.int (sI (a * b)) :: st)) : jj p l e R s m args below meth c cells slots Q nL dC dI ad cA A M pc lv (.int (sI b) :: .int (sI a) :: st) := z_imul C _ (sI_mul a b) d k
theorem y_lmul (C : jj_C p R s m args c cells slots cc nL own Ts dC dI ad cA A) {a b : Int} (d : decode cc pc = .ok (.lmul, 1)) (k : jj p l e R s m args below meth c cells slots Q nL dC dI ad cA A M (pc + 1) lv (.long (sJ (a * b)) :: st)) : jj p l e R s m args below meth c cells slots Q nL dC dI ad cA A M pc lv (.long (sJ b) :: .long (sJ a) :: st) := z_lmul C _ (sJ_mul a b) d k
theorem y_ineg (C : jj_C p R s m args c cells slots cc nL own Ts dC dI ad cA A) {a : Int} (d : decode cc pc = .ok (.ineg, 1)) (k : jj p l e R s m args below meth c cells slots Q nL dC dI ad cA A M (pc + 1) lv (.int (sI (-a)) :: st)) : jj p l e R s m args below meth c cells slots Q nL dC dI ad cA A M pc lv (.int (sI a) :: st) := z_ineg C _ (sI_neg a) d k
theorem y_not (C : jj_C p R s m args c cells slots cc nL own Ts dC dI ad cA A) {a : Int} (d : decode cc pc = .ok (.ixor, 1)) (k : jj p l e R s m args below meth c cells slots Q nL dC dI ad cA A M (pc + 1) lv (.int (sI (-1 - a)) :: st)) : jj p l e R s m args below meth c cells slots Q nL dC dI ad cA A M pc lv (.int (sI (-1)) :: .int (sI a) :: st) := z_ixor C _ (sb_not a) d k
theorem y_iand0 (C : jj_C p R s m args c cells slots cc nL own Ts dC dI ad cA A) {x y : Int32} (d : decode cc pc = .ok (.iand, 1)) (k : ∀ r : Int, -2147483648 ≤ r → r ≤ 2147483647 → jj p l e R s m args below meth c cells slots Q nL dC dI ad cA A M (pc + 1) lv (.int (sI r) :: st)) : jj p l e R s m args below meth c cells slots Q nL dC dI ad cA A M pc lv (.int y :: .int x :: st) := z_iand C (sI (x &&& y).toInt) (sI_o _).symm d (k _ (sI_r _).1 (sI_r _).2)
theorem y_ior0 (C : jj_C p R s m args c cells slots cc nL own Ts dC dI ad cA A) {x y : Int32} (d : decode cc pc = .ok (.ior, 1)) (k : ∀ r : Int, -2147483648 ≤ r → r ≤ 2147483647 → jj p l e R s m args below meth c cells slots Q nL dC dI ad cA A M (pc + 1) lv (.int (sI r) :: st)) : jj p l e R s m args below meth c cells slots Q nL dC dI ad cA A M pc lv (.int y :: .int x :: st) := z_ior C (sI (x ||| y).toInt) (sI_o _).symm d (k _ (sI_r _).1 (sI_r _).2)
theorem y_ixor0 (C : jj_C p R s m args c cells slots cc nL own Ts dC dI ad cA A) {x y : Int32} (d : decode cc pc = .ok (.ixor, 1)) (k : ∀ r : Int, -2147483648 ≤ r → r ≤ 2147483647 → jj p l e R s m args below meth c cells slots Q nL dC dI ad cA A M (pc + 1) lv (.int (sI r) :: st)) : jj p l e R s m args below meth c cells slots Q nL dC dI ad cA A M pc lv (.int y :: .int x :: st) := z_ixor C (sI (x ^^^ y).toInt) (sI_o _).symm d (k _ (sI_r _).1 (sI_r _).2)
theorem y_ishl0 (C : jj_C p R s m args c cells slots cc nL own Ts dC dI ad cA A) {x y : Int32} (d : decode cc pc = .ok (.ishl, 1)) (k : ∀ r : Int, -2147483648 ≤ r → r ≤ 2147483647 → jj p l e R s m args below meth c cells slots Q nL dC dI ad cA A M (pc + 1) lv (.int (sI r) :: st)) : jj p l e R s m args below meth c cells slots Q nL dC dI ad cA A M pc lv (.int y :: .int x :: st) := z_ishl C (sI (x <<< (y &&& 31)).toInt) (sI_o _).symm d (k _ (sI_r _).1 (sI_r _).2)
theorem y_ishr0 (C : jj_C p R s m args c cells slots cc nL own Ts dC dI ad cA A) {x y : Int32} (d : decode cc pc = .ok (.ishr, 1)) (k : ∀ r : Int, -2147483648 ≤ r → r ≤ 2147483647 → jj p l e R s m args below meth c cells slots Q nL dC dI ad cA A M (pc + 1) lv (.int (sI r) :: st)) : jj p l e R s m args below meth c cells slots Q nL dC dI ad cA A M pc lv (.int y :: .int x :: st) := z_ishr C (sI (x >>> (y &&& 31)).toInt) (sI_o _).symm d (k _ (sI_r _).1 (sI_r _).2)
theorem y_iushr0 (C : jj_C p R s m args c cells slots cc nL own Ts dC dI ad cA A) {x y : Int32} (d : decode cc pc = .ok (.iushr, 1)) (k : ∀ r : Int, -2147483648 ≤ r → r ≤ 2147483647 → jj p l e R s m args below meth c cells slots Q nL dC dI ad cA A M (pc + 1) lv (.int (sI r) :: st)) : jj p l e R s m args below meth c cells slots Q nL dC dI ad cA A M pc lv (.int y :: .int x :: st) := z_iushr C (sI ((x.toUInt32 >>> (y.toUInt32 &&& Int32.toUInt32 31)).toInt32).toInt) (sI_o _).symm d (k _ (sI_r _).1 (sI_r _).2)
theorem y_land0 (C : jj_C p R s m args c cells slots cc nL own Ts dC dI ad cA A) {x y : Int64} (d : decode cc pc = .ok (.land, 1)) (k : ∀ r : Int, -9223372036854775808 ≤ r → r ≤ 9223372036854775807 → jj p l e R s m args below meth c cells slots Q nL dC dI ad cA A M (pc + 1) lv (.long (sJ r) :: st)) : jj p l e R s m args below meth c cells slots Q nL dC dI ad cA A M pc lv (.long y :: .long x :: st) := z_land C (sJ (x &&& y).toInt) (sJ_o _).symm d (k _ (sJ_r _).1 (sJ_r _).2)
theorem y_lor0 (C : jj_C p R s m args c cells slots cc nL own Ts dC dI ad cA A) {x y : Int64} (d : decode cc pc = .ok (.lor, 1)) (k : ∀ r : Int, -9223372036854775808 ≤ r → r ≤ 9223372036854775807 → jj p l e R s m args below meth c cells slots Q nL dC dI ad cA A M (pc + 1) lv (.long (sJ r) :: st)) : jj p l e R s m args below meth c cells slots Q nL dC dI ad cA A M pc lv (.long y :: .long x :: st) := z_lor C (sJ (x ||| y).toInt) (sJ_o _).symm d (k _ (sJ_r _).1 (sJ_r _).2)
theorem y_ladd0 (C : jj_C p R s m args c cells slots cc nL own Ts dC dI ad cA A) {x y : Int64} (d : decode cc pc = .ok (.ladd, 1)) (k : ∀ r : Int, -9223372036854775808 ≤ r → r ≤ 9223372036854775807 → jj p l e R s m args below meth c cells slots Q nL dC dI ad cA A M (pc + 1) lv (.long (sJ r) :: st)) : jj p l e R s m args below meth c cells slots Q nL dC dI ad cA A M pc lv (.long y :: .long x :: st) := z_ladd C (sJ (x + y).toInt) (sJ_o _).symm d (k _ (sJ_r _).1 (sJ_r _).2)
theorem y_lsub0 (C : jj_C p R s m args c cells slots cc nL own Ts dC dI ad cA A) {x y : Int64} (d : decode cc pc = .ok (.lsub, 1)) (k : ∀ r : Int, -9223372036854775808 ≤ r → r ≤ 9223372036854775807 → jj p l e R s m args below meth c cells slots Q nL dC dI ad cA A M (pc + 1) lv (.long (sJ r) :: st)) : jj p l e R s m args below meth c cells slots Q nL dC dI ad cA A M pc lv (.long y :: .long x :: st) := z_lsub C (sJ (x - y).toInt) (sJ_o _).symm d (k _ (sJ_r _).1 (sJ_r _).2)
theorem y_lmul0 (C : jj_C p R s m args c cells slots cc nL own Ts dC dI ad cA A) {x y : Int64} (d : decode cc pc = .ok (.lmul, 1)) (k : ∀ r : Int, -9223372036854775808 ≤ r → r ≤ 9223372036854775807 → jj p l e R s m args below meth c cells slots Q nL dC dI ad cA A M (pc + 1) lv (.long (sJ r) :: st)) : jj p l e R s m args below meth c cells slots Q nL dC dI ad cA A M pc lv (.long y :: .long x :: st) := z_lmul C (sJ (x * y).toInt) (sJ_o _).symm d (k _ (sJ_r _).1 (sJ_r _).2)
theorem y_lshl0 (C : jj_C p R s m args c cells slots cc nL own Ts dC dI ad cA A) {x : Int64} {y : Int32} (d : decode cc pc = .ok (.lshl, 1)) (k : ∀ r : Int, -9223372036854775808 ≤ r → r ≤ 9223372036854775807 → jj p l e R s m args below meth c cells slots Q nL dC dI ad cA A M (pc + 1) lv (.long (sJ r) :: st)) : jj p l e R s m args below meth c cells slots Q nL dC dI ad cA A M pc lv (.int y :: .long x :: st) := z_lshl C (sJ (x <<< (y.toInt64 &&& 63)).toInt) (sJ_o _).symm d (k _ (sJ_r _).1 (sJ_r _).2)
theorem y_lshr0 (C : jj_C p R s m args c cells slots cc nL own Ts dC dI ad cA A) {x : Int64} {y : Int32} (d : decode cc pc = .ok (.lshr, 1)) (k : ∀ r : Int, -9223372036854775808 ≤ r → r ≤ 9223372036854775807 → jj p l e R s m args below meth c cells slots Q nL dC dI ad cA A M (pc + 1) lv (.long (sJ r) :: st)) : jj p l e R s m args below meth c cells slots Q nL dC dI ad cA A M pc lv (.int y :: .long x :: st) := z_lshr C (sJ (x >>> (y.toInt64 &&& 63)).toInt) (sJ_o _).symm d (k _ (sJ_r _).1 (sJ_r _).2)
theorem y_iadd0 (C : jj_C p R s m args c cells slots cc nL own Ts dC dI ad cA A) {x y : Int32} (d : decode cc pc = .ok (.iadd, 1)) (k : ∀ r : Int, -2147483648 ≤ r → r ≤ 2147483647 → jj p l e R s m args below meth c cells slots Q nL dC dI ad cA A M (pc + 1) lv (.int (sI r) :: st)) : jj p l e R s m args below meth c cells slots Q nL dC dI ad cA A M pc lv (.int y :: .int x :: st) := z_iadd C (sI (x + y).toInt) (sI_o _).symm d (k _ (sI_r _).1 (sI_r _).2)
theorem y_isub0 (C : jj_C p R s m args c cells slots cc nL own Ts dC dI ad cA A) {x y : Int32} (d : decode cc pc = .ok (.isub, 1)) (k : ∀ r : Int, -2147483648 ≤ r → r ≤ 2147483647 → jj p l e R s m args below meth c cells slots Q nL dC dI ad cA A M (pc + 1) lv (.int (sI r) :: st)) : jj p l e R s m args below meth c cells slots Q nL dC dI ad cA A M pc lv (.int y :: .int x :: st) := z_isub C (sI (x - y).toInt) (sI_o _).symm d (k _ (sI_r _).1 (sI_r _).2)
theorem y_imul0 (C : jj_C p R s m args c cells slots cc nL own Ts dC dI ad cA A) {x y : Int32} (d : decode cc pc = .ok (.imul, 1)) (k : ∀ r : Int, -2147483648 ≤ r → r ≤ 2147483647 → jj p l e R s m args below meth c cells slots Q nL dC dI ad cA A M (pc + 1) lv (.int (sI r) :: st)) : jj p l e R s m args below meth c cells slots Q nL dC dI ad cA A M pc lv (.int y :: .int x :: st) := z_imul C (sI (x * y).toInt) (sI_o _).symm d (k _ (sI_r _).1 (sI_r _).2)
theorem y_iandR (C : jj_C p R s m args c cells slots cc nL own Ts dC dI ad cA A) {a b : Int} (d : decode cc pc = .ok (.iand, 1)) (h : 0 ≤ b ∧ b ≤ 2147483647) (k : ∀ r : Int, 0 ≤ r → r ≤ b → jj p l e R s m args below meth c cells slots Q nL dC dI ad cA A M (pc + 1) lv (.int (sI r) :: st)) : jj p l e R s m args below meth c cells slots Q nL dC dI ad cA A M pc lv (.int (sI b) :: .int (sI a) :: st) := by
  have q := sb_and (sI a) (sI b) (by rw [sI_t (by omega)]; exact h.1)
  rw [sI_t (a := b) (by omega)] at q
  exact z_iand C (sI (sI a &&& sI b).toInt) (sI_o _).symm d (k _ q.1 q.2)
theorem y_iandL (C : jj_C p R s m args c cells slots cc nL own Ts dC dI ad cA A) {a b : Int} (d : decode cc pc = .ok (.iand, 1)) (h : 0 ≤ a ∧ a ≤ 2147483647) (k : ∀ r : Int, 0 ≤ r → r ≤ a → jj p l e R s m args below meth c cells slots Q nL dC dI ad cA A M (pc + 1) lv (.int (sI r) :: st)) : jj p l e R s m args below meth c cells slots Q nL dC dI ad cA A M pc lv (.int (sI b) :: .int (sI a) :: st) := by
  have q := sb_andl (sI a) (sI b) (by rw [sI_t (by omega)]; exact h.1)
  rw [sI_t (a := a) (by omega)] at q
  exact z_iand C (sI (sI a &&& sI b).toInt) (sI_o _).symm d (k _ q.1 q.2)
theorem y_iorN (C : jj_C p R s m args c cells slots cc nL own Ts dC dI ad cA A) {a b : Int} (n : Nat) (N : Int) (d : decode cc pc = .ok (.ior, 1)) (hn : Nat.ble n 30 = true) (hN : (2 : Int) ^ n = N + 1) (h : 0 ≤ a ∧ a ≤ N ∧ 0 ≤ b ∧ b ≤ N) (k : ∀ r : Int, 0 ≤ r → r ≤ N → jj p l e R s m args below meth c cells slots Q nL dC dI ad cA A M (pc + 1) lv (.int (sI r) :: st)) : jj p l e R s m args below meth c cells slots Q nL dC dI ad cA A M pc lv (.int (sI b) :: .int (sI a) :: st) := by
  have hb := Nat.le_of_ble_eq_true hn
  have hp : (2 : Int) ^ n ≤ 2 ^ 30 := by exact_mod_cast Nat.pow_le_pow_right (show 0 < 2 by decide) hb
  have e2 : (2 : Int) ^ 30 = 1073741824 := by decide
  have q := sb_or (x := sI a) (y := sI b) n (by omega) (by rw [sI_t (by omega)]; omega) (by rw [sI_t (by omega)]; omega)
  exact z_ior C (sI (sI a ||| sI b).toInt) (sI_o _).symm d (k _ q.1 (by omega))
theorem y_ixorN (C : jj_C p R s m args c cells slots cc nL own Ts dC dI ad cA A) {a b : Int} (n : Nat) (N : Int) (d : decode cc pc = .ok (.ixor, 1)) (hn : Nat.ble n 30 = true) (hN : (2 : Int) ^ n = N + 1) (h : 0 ≤ a ∧ a ≤ N ∧ 0 ≤ b ∧ b ≤ N) (k : ∀ r : Int, 0 ≤ r → r ≤ N → jj p l e R s m args below meth c cells slots Q nL dC dI ad cA A M (pc + 1) lv (.int (sI r) :: st)) : jj p l e R s m args below meth c cells slots Q nL dC dI ad cA A M pc lv (.int (sI b) :: .int (sI a) :: st) := by
  have hb := Nat.le_of_ble_eq_true hn
  have hp : (2 : Int) ^ n ≤ 2 ^ 30 := by exact_mod_cast Nat.pow_le_pow_right (show 0 < 2 by decide) hb
  have e2 : (2 : Int) ^ 30 = 1073741824 := by decide
  have q := sb_xor (x := sI a) (y := sI b) n (by omega) (by rw [sI_t (by omega)]; omega) (by rw [sI_t (by omega)]; omega)
  exact z_ixor C (sI (sI a ^^^ sI b).toInt) (sI_o _).symm d (k _ q.1 (by omega))
theorem y_ixorS (C : jj_C p R s m args c cells slots cc nL own Ts dC dI ad cA A) {a b : Int} (d : decode cc pc = .ok (.ixor, 1)) (h : (-2147483648 ≤ a ∧ a ≤ 2147483647) ∧ -2147483648 ≤ b ∧ b ≤ 2147483647) (k : ∀ r : Int, -2147483648 ≤ r → r ≤ 2147483647 → (0 ≤ r ∧ (0 ≤ a ∧ 0 ≤ b ∨ a < 0 ∧ b < 0) ∨ r < 0 ∧ (0 ≤ a ∧ b < 0 ∨ a < 0 ∧ 0 ≤ b)) → jj p l e R s m args below meth c cells slots Q nL dC dI ad cA A M (pc + 1) lv (.int (sI r) :: st)) : jj p l e R s m args below meth c cells slots Q nL dC dI ad cA A M pc lv (.int (sI b) :: .int (sI a) :: st) := by
  have q := sb_xs (sI a) (sI b)
  rw [sI_t h.1, sI_t h.2] at q
  exact z_ixor C (sI (sI a ^^^ sI b).toInt) (sI_o _).symm d (k _ (sI_r _).1 (sI_r _).2 q)
theorem y_shl1 (C : jj_C p R s m args c cells slots cc nL own Ts dC dI ad cA A) {a : Int} (n : Nat) (N : Int) (d : decode cc pc = .ok (.ishl, 1)) (hn : Nat.ble n 30 = true) (hN : (2 : Int) ^ n = N) (h : 0 ≤ a ∧ a ≤ n) (k : ∀ r : Int, 1 ≤ r → r ≤ N → jj p l e R s m args below meth c cells slots Q nL dC dI ad cA A M (pc + 1) lv (.int (sI r) :: st)) : jj p l e R s m args below meth c cells slots Q nL dC dI ad cA A M pc lv (.int (sI a) :: .int (sI 1) :: st) := by
  have hb := Nat.le_of_ble_eq_true hn
  have q := sb_shl2 n h
  exact z_ishl C (sI (2 ^ a.toNat)) (sb_shl (by omega)) d (k _ q.1 (by rw [← hN]; exact q.2))
theorem y_ishrP (C : jj_C p R s m args c cells slots cc nL own Ts dC dI ad cA A) {a b : Int} (d : decode cc pc = .ok (.ishr, 1)) (h : 0 ≤ a ∧ a ≤ 2147483647) (k : ∀ r : Int, 0 ≤ r → r ≤ a → jj p l e R s m args below meth c cells slots Q nL dC dI ad cA A M (pc + 1) lv (.int (sI r) :: st)) : jj p l e R s m args below meth c cells slots Q nL dC dI ad cA A M pc lv (.int (sI b) :: .int (sI a) :: st) := by
  have q := sb_shr (x := sI a) (y := sI b &&& 31) (by rw [sI_t (by omega)]; exact h.1)
  rw [sI_t (a := a) (by omega)] at q
  exact z_ishr C (sI (sI a >>> (sI b &&& 31)).toInt) (sI_o _).symm d (k _ q.1 q.2)
theorem y_iushr16 (C : jj_C p R s m args c cells slots cc nL own Ts dC dI ad cA A) {x : Int32} (d : decode cc pc = .ok (.iushr, 1)) (k : ∀ r : Int, 0 ≤ r → r ≤ 65535 → jj p l e R s m args below meth c cells slots Q nL dC dI ad cA A M (pc + 1) lv (.int (sI r) :: st)) : jj p l e R s m args below meth c cells slots Q nL dC dI ad cA A M pc lv (.int (sI 16) :: .int x :: st) := z_iushr C (sI _) (sI_o _).symm d (k _ (sb_ushr x).1 (sb_ushr x).2)
theorem y_idiv (C : jj_C p R s m args c cells slots cc nL own Ts dC dI ad cA A) {a b : Int} (d : decode cc pc = .ok (.idiv, 1)) (h : 0 ≤ a ∧ a ≤ 2147483647 ∧ 0 < b ∧ b ≤ 2147483647) (k : jj p l e R s m args below meth c cells slots Q nL dC dI ad cA A M (pc + 1) lv (.int (sI (a / b)) :: st)) : jj p l e R s m args below meth c cells slots Q nL dC dI ad cA A M pc lv (.int (sI b) :: .int (sI a) :: st) := z_idiv C _ (sI_div ⟨h.1, h.2.1⟩ h.2.2) (sI_ne (by omega) (by omega)) d k
theorem y_irem (C : jj_C p R s m args c cells slots cc nL own Ts dC dI ad cA A) {a b : Int} (d : decode cc pc = .ok (.irem, 1)) (h : 0 ≤ a ∧ a ≤ 2147483647 ∧ 0 < b ∧ b ≤ 2147483647) (k : jj p l e R s m args below meth c cells slots Q nL dC dI ad cA A M (pc + 1) lv (.int (sI (a % b)) :: st)) : jj p l e R s m args below meth c cells slots Q nL dC dI ad cA A M pc lv (.int (sI b) :: .int (sI a) :: st) := z_irem C _ (sI_rem ⟨h.1, h.2.1⟩ h.2.2) (sI_ne (by omega) (by omega)) d k
theorem y_iremV (C : jj_C p R s m args c cells slots cc nL own Ts dC dI ad cA A) {a b : Int} (d : decode cc pc = .ok (.irem, 1)) (h : 0 ≤ a ∧ a ≤ 2147483647 ∧ 0 < b ∧ b ≤ 2147483647) (k : ∀ r : Int, 0 ≤ r → r < b → jj p l e R s m args below meth c cells slots Q nL dC dI ad cA A M (pc + 1) lv (.int (sI r) :: st)) : jj p l e R s m args below meth c cells slots Q nL dC dI ad cA A M pc lv (.int (sI b) :: .int (sI a) :: st) := z_irem C _ (sI_rem ⟨h.1, h.2.1⟩ h.2.2) (sI_ne (by omega) (by omega)) d (k _ (Int.emod_nonneg a (by omega)) (Int.emod_lt_of_pos a h.2.2.1))
theorem y_irem0 (C : jj_C p R s m args c cells slots cc nL own Ts dC dI ad cA A) {x : Int32} {b : Int} (d : decode cc pc = .ok (.irem, 1)) (h : 0 < b ∧ b ≤ 2147483647) (k : ∀ r : Int, -b < r → r < b → jj p l e R s m args below meth c cells slots Q nL dC dI ad cA A M (pc + 1) lv (.int (sI r) :: st)) : jj p l e R s m args below meth c cells slots Q nL dC dI ad cA A M pc lv (.int (sI b) :: .int x :: st) := z_irem C (sI _) (sI_o _).symm (sI_ne (by omega) (by omega)) d (k _ (sI_rem0 x h).1 (sI_rem0 x h).2)
theorem y_iremS (C : jj_C p R s m args c cells slots cc nL own Ts dC dI ad cA A) {a b : Int} (d : decode cc pc = .ok (.irem, 1)) (h : -2147483648 ≤ a ∧ a ≤ 2147483647 ∧ 0 < b ∧ b ≤ 2147483647) (k : ∀ r : Int, -b < r → r < b → (0 ≤ a ∧ 0 ≤ r ∨ a < 0 ∧ r ≤ 0) → jj p l e R s m args below meth c cells slots Q nL dC dI ad cA A M (pc + 1) lv (.int (sI r) :: st)) : jj p l e R s m args below meth c cells slots Q nL dC dI ad cA A M pc lv (.int (sI b) :: .int (sI a) :: st) := z_irem C (sI _) (sI_o _).symm (sI_ne (by omega) (by omega)) d (k _ (sI_remS ⟨h.1, h.2.1⟩ h.2.2).1.1 (sI_remS ⟨h.1, h.2.1⟩ h.2.2).1.2 (sI_remS ⟨h.1, h.2.1⟩ h.2.2).2)
theorem y_idiv0 (C : jj_C p R s m args c cells slots cc nL own Ts dC dI ad cA A) {x : Int32} {b : Int} (d : decode cc pc = .ok (.idiv, 1)) (h : -2147483648 ≤ b ∧ b ≤ 2147483647 ∧ ¬ b = 0) (k : ∀ r : Int, -2147483648 ≤ r → r ≤ 2147483647 → jj p l e R s m args below meth c cells slots Q nL dC dI ad cA A M (pc + 1) lv (.int (sI r) :: st)) : jj p l e R s m args below meth c cells slots Q nL dC dI ad cA A M pc lv (.int (sI b) :: .int x :: st) := z_idiv C (sI (x / sI b).toInt) (sI_o _).symm (sI_ne ⟨h.1, h.2.1⟩ h.2.2) d (k _ (sI_r _).1 (sI_r _).2)
theorem y_ldiv (C : jj_C p R s m args c cells slots cc nL own Ts dC dI ad cA A) {a b : Int} (d : decode cc pc = .ok (.ldiv, 1)) (h : 0 ≤ a ∧ a ≤ 9223372036854775807 ∧ 0 < b ∧ b ≤ 9223372036854775807) (k : jj p l e R s m args below meth c cells slots Q nL dC dI ad cA A M (pc + 1) lv (.long (sJ (a / b)) :: st)) : jj p l e R s m args below meth c cells slots Q nL dC dI ad cA A M pc lv (.long (sJ b) :: .long (sJ a) :: st) := z_ldiv C _ (sJ_div ⟨h.1, h.2.1⟩ h.2.2) (sJ_ne (by omega) (by omega)) d k
theorem y_lrem (C : jj_C p R s m args c cells slots cc nL own Ts dC dI ad cA A) {a b : Int} (d : decode cc pc = .ok (.lrem, 1)) (h : 0 ≤ a ∧ a ≤ 9223372036854775807 ∧ 0 < b ∧ b ≤ 9223372036854775807) (k : jj p l e R s m args below meth c cells slots Q nL dC dI ad cA A M (pc + 1) lv (.long (sJ (a % b)) :: st)) : jj p l e R s m args below meth c cells slots Q nL dC dI ad cA A M pc lv (.long (sJ b) :: .long (sJ a) :: st) := z_lrem C _ (sJ_rem ⟨h.1, h.2.1⟩ h.2.2) (sJ_ne (by omega) (by omega)) d k
theorem y_ldiv0 (C : jj_C p R s m args c cells slots cc nL own Ts dC dI ad cA A) {x : Int64} {b : Int} (d : decode cc pc = .ok (.ldiv, 1)) (h : -9223372036854775808 ≤ b ∧ b ≤ 9223372036854775807 ∧ ¬ b = 0) (k : ∀ r : Int, -9223372036854775808 ≤ r → r ≤ 9223372036854775807 → jj p l e R s m args below meth c cells slots Q nL dC dI ad cA A M (pc + 1) lv (.long (sJ r) :: st)) : jj p l e R s m args below meth c cells slots Q nL dC dI ad cA A M pc lv (.long (sJ b) :: .long x :: st) := z_ldiv C (sJ (x / sJ b).toInt) (sJ_o _).symm (sJ_ne ⟨h.1, h.2.1⟩ h.2.2) d (k _ (sJ_r _).1 (sJ_r _).2)
theorem y_lrem0 (C : jj_C p R s m args c cells slots cc nL own Ts dC dI ad cA A) {x : Int64} {b : Int} (d : decode cc pc = .ok (.lrem, 1)) (h : -9223372036854775808 ≤ b ∧ b ≤ 9223372036854775807 ∧ ¬ b = 0) (k : ∀ r : Int, -9223372036854775808 ≤ r → r ≤ 9223372036854775807 → jj p l e R s m args below meth c cells slots Q nL dC dI ad cA A M (pc + 1) lv (.long (sJ r) :: st)) : jj p l e R s m args below meth c cells slots Q nL dC dI ad cA A M pc lv (.long (sJ b) :: .long x :: st) := z_lrem C (sJ (x - x / sJ b * sJ b).toInt) (sJ_o _).symm (sJ_ne ⟨h.1, h.2.1⟩ h.2.2) d (k _ (sJ_r _).1 (sJ_r _).2)
theorem y_i2l (C : jj_C p R s m args c cells slots cc nL own Ts dC dI ad cA A) {a : Int} (d : decode cc pc = .ok (.i2l, 1)) (h : -2147483648 ≤ a ∧ a ≤ 2147483647) (k : jj p l e R s m args below meth c cells slots Q nL dC dI ad cA A M (pc + 1) lv (.long (sJ a) :: st)) : jj p l e R s m args below meth c cells slots Q nL dC dI ad cA A M pc lv (.int (sI a) :: st) := z_i2l C _ (sI_J h) d k
theorem y_l2i (C : jj_C p R s m args c cells slots cc nL own Ts dC dI ad cA A) {a : Int} (d : decode cc pc = .ok (.l2i, 1)) (k : jj p l e R s m args below meth c cells slots Q nL dC dI ad cA A M (pc + 1) lv (.int (sI a) :: st)) : jj p l e R s m args below meth c cells slots Q nL dC dI ad cA A M pc lv (.long (sJ a) :: st) := z_l2i C _ (sJ_I a) d k
theorem y_i2b (C : jj_C p R s m args c cells slots cc nL own Ts dC dI ad cA A) {x : Int32} (d : decode cc pc = .ok (.i2b, 1)) (k : ∀ r : Int, -128 ≤ r → r ≤ 127 → jj p l e R s m args below meth c cells slots Q nL dC dI ad cA A M (pc + 1) lv (.int (sI r) :: st)) : jj p l e R s m args below meth c cells slots Q nL dC dI ad cA A M pc lv (.int x :: st) := z_i2b C (sI _) (sI_o _).symm d (k _ (sb_i8 x).1 (sb_i8 x).2)
theorem y_i2s (C : jj_C p R s m args c cells slots cc nL own Ts dC dI ad cA A) {x : Int32} (d : decode cc pc = .ok (.i2s, 1)) (k : ∀ r : Int, -32768 ≤ r → r ≤ 32767 → jj p l e R s m args below meth c cells slots Q nL dC dI ad cA A M (pc + 1) lv (.int (sI r) :: st)) : jj p l e R s m args below meth c cells slots Q nL dC dI ad cA A M pc lv (.int x :: st) := z_i2s C (sI _) (sI_o _).symm d (k _ (sb_i16 x).1 (sb_i16 x).2)
theorem y_i2c (C : jj_C p R s m args c cells slots cc nL own Ts dC dI ad cA A) {x : Int32} (d : decode cc pc = .ok (.i2c, 1)) (k : ∀ r : Int, 0 ≤ r → r ≤ 65535 → jj p l e R s m args below meth c cells slots Q nL dC dI ad cA A M (pc + 1) lv (.int (sI r) :: st)) : jj p l e R s m args below meth c cells slots Q nL dC dI ad cA A M pc lv (.int x :: st) := z_i2c C (sI _) (sI_o _).symm d (k _ (sb_c16 x).1 (sb_c16 x).2)
theorem y_topI {x : Int32} (k : ∀ r : Int, -2147483648 ≤ r → r ≤ 2147483647 → jj p l e R s m args below meth c cells slots Q nL dC dI ad cA A M pc lv (.int (sI r) :: st)) : jj p l e R s m args below meth c cells slots Q nL dC dI ad cA A M pc lv (.int x :: st) := by rw [← sI_o x]; exact k _ (sI_r x).1 (sI_r x).2
theorem y_topJ {x : Int64} (k : ∀ r : Int, -9223372036854775808 ≤ r → r ≤ 9223372036854775807 → jj p l e R s m args below meth c cells slots Q nL dC dI ad cA A M pc lv (.long (sJ r) :: st)) : jj p l e R s m args below meth c cells slots Q nL dC dI ad cA A M pc lv (.long x :: st) := by rw [← sJ_o x]; exact k _ (sJ_r x).1 (sJ_r x).2
theorem y_if_eq (C : jj_C p R s m args c cells slots cc nL own Ts dC dI ad cA A) {a : Int} {off : Int} (tgt : Nat) (d : decode cc pc = .ok (.ifCond .eq off, 3)) (ht : (pc : Int) + off = (tgt : Int)) (h : -2147483648 ≤ a ∧ a ≤ 2147483647) (kt : a = 0 → jj p l e R s m args below meth c cells slots Q nL dC dI ad cA A M tgt lv st) (kf : ¬ a = 0 → jj p l e R s m args below meth c cells slots Q nL dC dI ad cA A M (pc + 3) lv st) : jj p l e R s m args below meth c cells slots Q nL dC dI ad cA A M pc lv (.int (sI a) :: st) := z_if_eq C tgt a (sI_t h) d ht kt kf
theorem y_icmp_eq (C : jj_C p R s m args c cells slots cc nL own Ts dC dI ad cA A) {a b : Int} {off : Int} (tgt : Nat) (d : decode cc pc = .ok (.if_icmp .eq off, 3)) (ht : (pc : Int) + off = (tgt : Int)) (h : (-2147483648 ≤ a ∧ a ≤ 2147483647) ∧ -2147483648 ≤ b ∧ b ≤ 2147483647) (kt : a = b → jj p l e R s m args below meth c cells slots Q nL dC dI ad cA A M tgt lv st) (kf : ¬ a = b → jj p l e R s m args below meth c cells slots Q nL dC dI ad cA A M (pc + 3) lv st) : jj p l e R s m args below meth c cells slots Q nL dC dI ad cA A M pc lv (.int (sI b) :: .int (sI a) :: st) := z_icmp_eq C tgt a b (sI_t h.1) (sI_t h.2) d ht kt kf
theorem y_lcmp_eq (C : jj_C p R s m args c cells slots cc nL own Ts dC dI ad cA A) {a b : Int} {off : Int} (tgt : Nat) (d : decode cc pc = .ok (.lcmp, 1)) (d2 : decode cc (pc + 1) = .ok (.ifCond .eq off, 3)) (ht : ((pc + 1 : Nat) : Int) + off = (tgt : Int)) (h : (-9223372036854775808 ≤ a ∧ a ≤ 9223372036854775807) ∧ -9223372036854775808 ≤ b ∧ b ≤ 9223372036854775807) (kt : a = b → jj p l e R s m args below meth c cells slots Q nL dC dI ad cA A M tgt lv st) (kf : ¬ a = b → jj p l e R s m args below meth c cells slots Q nL dC dI ad cA A M (pc + 4) lv st) : jj p l e R s m args below meth c cells slots Q nL dC dI ad cA A M pc lv (.long (sJ b) :: .long (sJ a) :: st) := z_lcmp_eq C tgt a b (sJ_t h.1) (sJ_t h.2) d d2 ht kt kf
theorem y_if_ne (C : jj_C p R s m args c cells slots cc nL own Ts dC dI ad cA A) {a : Int} {off : Int} (tgt : Nat) (d : decode cc pc = .ok (.ifCond .ne off, 3)) (ht : (pc : Int) + off = (tgt : Int)) (h : -2147483648 ≤ a ∧ a ≤ 2147483647) (kt : ¬ a = 0 → jj p l e R s m args below meth c cells slots Q nL dC dI ad cA A M tgt lv st) (kf : a = 0 → jj p l e R s m args below meth c cells slots Q nL dC dI ad cA A M (pc + 3) lv st) : jj p l e R s m args below meth c cells slots Q nL dC dI ad cA A M pc lv (.int (sI a) :: st) := z_if_ne C tgt a (sI_t h) d ht kt kf
theorem y_icmp_ne (C : jj_C p R s m args c cells slots cc nL own Ts dC dI ad cA A) {a b : Int} {off : Int} (tgt : Nat) (d : decode cc pc = .ok (.if_icmp .ne off, 3)) (ht : (pc : Int) + off = (tgt : Int)) (h : (-2147483648 ≤ a ∧ a ≤ 2147483647) ∧ -2147483648 ≤ b ∧ b ≤ 2147483647) (kt : ¬ a = b → jj p l e R s m args below meth c cells slots Q nL dC dI ad cA A M tgt lv st) (kf : a = b → jj p l e R s m args below meth c cells slots Q nL dC dI ad cA A M (pc + 3) lv st) : jj p l e R s m args below meth c cells slots Q nL dC dI ad cA A M pc lv (.int (sI b) :: .int (sI a) :: st) := z_icmp_ne C tgt a b (sI_t h.1) (sI_t h.2) d ht kt kf
theorem y_lcmp_ne (C : jj_C p R s m args c cells slots cc nL own Ts dC dI ad cA A) {a b : Int} {off : Int} (tgt : Nat) (d : decode cc pc = .ok (.lcmp, 1)) (d2 : decode cc (pc + 1) = .ok (.ifCond .ne off, 3)) (ht : ((pc + 1 : Nat) : Int) + off = (tgt : Int)) (h : (-9223372036854775808 ≤ a ∧ a ≤ 9223372036854775807) ∧ -9223372036854775808 ≤ b ∧ b ≤ 9223372036854775807) (kt : ¬ a = b → jj p l e R s m args below meth c cells slots Q nL dC dI ad cA A M tgt lv st) (kf : a = b → jj p l e R s m args below meth c cells slots Q nL dC dI ad cA A M (pc + 4) lv st) : jj p l e R s m args below meth c cells slots Q nL dC dI ad cA A M pc lv (.long (sJ b) :: .long (sJ a) :: st) := z_lcmp_ne C tgt a b (sJ_t h.1) (sJ_t h.2) d d2 ht kt kf
theorem y_if_lt (C : jj_C p R s m args c cells slots cc nL own Ts dC dI ad cA A) {a : Int} {off : Int} (tgt : Nat) (d : decode cc pc = .ok (.ifCond .lt off, 3)) (ht : (pc : Int) + off = (tgt : Int)) (h : -2147483648 ≤ a ∧ a ≤ 2147483647) (kt : a < 0 → jj p l e R s m args below meth c cells slots Q nL dC dI ad cA A M tgt lv st) (kf : ¬ a < 0 → jj p l e R s m args below meth c cells slots Q nL dC dI ad cA A M (pc + 3) lv st) : jj p l e R s m args below meth c cells slots Q nL dC dI ad cA A M pc lv (.int (sI a) :: st) := z_if_lt C tgt a (sI_t h) d ht kt kf
theorem y_icmp_lt (C : jj_C p R s m args c cells slots cc nL own Ts dC dI ad cA A) {a b : Int} {off : Int} (tgt : Nat) (d : decode cc pc = .ok (.if_icmp .lt off, 3)) (ht : (pc : Int) + off = (tgt : Int)) (h : (-2147483648 ≤ a ∧ a ≤ 2147483647) ∧ -2147483648 ≤ b ∧ b ≤ 2147483647) (kt : a < b → jj p l e R s m args below meth c cells slots Q nL dC dI ad cA A M tgt lv st) (kf : ¬ a < b → jj p l e R s m args below meth c cells slots Q nL dC dI ad cA A M (pc + 3) lv st) : jj p l e R s m args below meth c cells slots Q nL dC dI ad cA A M pc lv (.int (sI b) :: .int (sI a) :: st) := z_icmp_lt C tgt a b (sI_t h.1) (sI_t h.2) d ht kt kf
theorem y_lcmp_lt (C : jj_C p R s m args c cells slots cc nL own Ts dC dI ad cA A) {a b : Int} {off : Int} (tgt : Nat) (d : decode cc pc = .ok (.lcmp, 1)) (d2 : decode cc (pc + 1) = .ok (.ifCond .lt off, 3)) (ht : ((pc + 1 : Nat) : Int) + off = (tgt : Int)) (h : (-9223372036854775808 ≤ a ∧ a ≤ 9223372036854775807) ∧ -9223372036854775808 ≤ b ∧ b ≤ 9223372036854775807) (kt : a < b → jj p l e R s m args below meth c cells slots Q nL dC dI ad cA A M tgt lv st) (kf : ¬ a < b → jj p l e R s m args below meth c cells slots Q nL dC dI ad cA A M (pc + 4) lv st) : jj p l e R s m args below meth c cells slots Q nL dC dI ad cA A M pc lv (.long (sJ b) :: .long (sJ a) :: st) := z_lcmp_lt C tgt a b (sJ_t h.1) (sJ_t h.2) d d2 ht kt kf
theorem y_if_ge (C : jj_C p R s m args c cells slots cc nL own Ts dC dI ad cA A) {a : Int} {off : Int} (tgt : Nat) (d : decode cc pc = .ok (.ifCond .ge off, 3)) (ht : (pc : Int) + off = (tgt : Int)) (h : -2147483648 ≤ a ∧ a ≤ 2147483647) (kt : 0 ≤ a → jj p l e R s m args below meth c cells slots Q nL dC dI ad cA A M tgt lv st) (kf : ¬ 0 ≤ a → jj p l e R s m args below meth c cells slots Q nL dC dI ad cA A M (pc + 3) lv st) : jj p l e R s m args below meth c cells slots Q nL dC dI ad cA A M pc lv (.int (sI a) :: st) := z_if_ge C tgt a (sI_t h) d ht kt kf
theorem y_icmp_ge (C : jj_C p R s m args c cells slots cc nL own Ts dC dI ad cA A) {a b : Int} {off : Int} (tgt : Nat) (d : decode cc pc = .ok (.if_icmp .ge off, 3)) (ht : (pc : Int) + off = (tgt : Int)) (h : (-2147483648 ≤ a ∧ a ≤ 2147483647) ∧ -2147483648 ≤ b ∧ b ≤ 2147483647) (kt : b ≤ a → jj p l e R s m args below meth c cells slots Q nL dC dI ad cA A M tgt lv st) (kf : ¬ b ≤ a → jj p l e R s m args below meth c cells slots Q nL dC dI ad cA A M (pc + 3) lv st) : jj p l e R s m args below meth c cells slots Q nL dC dI ad cA A M pc lv (.int (sI b) :: .int (sI a) :: st) := z_icmp_ge C tgt a b (sI_t h.1) (sI_t h.2) d ht kt kf
theorem y_lcmp_ge (C : jj_C p R s m args c cells slots cc nL own Ts dC dI ad cA A) {a b : Int} {off : Int} (tgt : Nat) (d : decode cc pc = .ok (.lcmp, 1)) (d2 : decode cc (pc + 1) = .ok (.ifCond .ge off, 3)) (ht : ((pc + 1 : Nat) : Int) + off = (tgt : Int)) (h : (-9223372036854775808 ≤ a ∧ a ≤ 9223372036854775807) ∧ -9223372036854775808 ≤ b ∧ b ≤ 9223372036854775807) (kt : b ≤ a → jj p l e R s m args below meth c cells slots Q nL dC dI ad cA A M tgt lv st) (kf : ¬ b ≤ a → jj p l e R s m args below meth c cells slots Q nL dC dI ad cA A M (pc + 4) lv st) : jj p l e R s m args below meth c cells slots Q nL dC dI ad cA A M pc lv (.long (sJ b) :: .long (sJ a) :: st) := z_lcmp_ge C tgt a b (sJ_t h.1) (sJ_t h.2) d d2 ht kt kf
theorem y_if_gt (C : jj_C p R s m args c cells slots cc nL own Ts dC dI ad cA A) {a : Int} {off : Int} (tgt : Nat) (d : decode cc pc = .ok (.ifCond .gt off, 3)) (ht : (pc : Int) + off = (tgt : Int)) (h : -2147483648 ≤ a ∧ a ≤ 2147483647) (kt : 0 < a → jj p l e R s m args below meth c cells slots Q nL dC dI ad cA A M tgt lv st) (kf : ¬ 0 < a → jj p l e R s m args below meth c cells slots Q nL dC dI ad cA A M (pc + 3) lv st) : jj p l e R s m args below meth c cells slots Q nL dC dI ad cA A M pc lv (.int (sI a) :: st) := z_if_gt C tgt a (sI_t h) d ht kt kf
theorem y_icmp_gt (C : jj_C p R s m args c cells slots cc nL own Ts dC dI ad cA A) {a b : Int} {off : Int} (tgt : Nat) (d : decode cc pc = .ok (.if_icmp .gt off, 3)) (ht : (pc : Int) + off = (tgt : Int)) (h : (-2147483648 ≤ a ∧ a ≤ 2147483647) ∧ -2147483648 ≤ b ∧ b ≤ 2147483647) (kt : b < a → jj p l e R s m args below meth c cells slots Q nL dC dI ad cA A M tgt lv st) (kf : ¬ b < a → jj p l e R s m args below meth c cells slots Q nL dC dI ad cA A M (pc + 3) lv st) : jj p l e R s m args below meth c cells slots Q nL dC dI ad cA A M pc lv (.int (sI b) :: .int (sI a) :: st) := z_icmp_gt C tgt a b (sI_t h.1) (sI_t h.2) d ht kt kf
theorem y_lcmp_gt (C : jj_C p R s m args c cells slots cc nL own Ts dC dI ad cA A) {a b : Int} {off : Int} (tgt : Nat) (d : decode cc pc = .ok (.lcmp, 1)) (d2 : decode cc (pc + 1) = .ok (.ifCond .gt off, 3)) (ht : ((pc + 1 : Nat) : Int) + off = (tgt : Int)) (h : (-9223372036854775808 ≤ a ∧ a ≤ 9223372036854775807) ∧ -9223372036854775808 ≤ b ∧ b ≤ 9223372036854775807) (kt : b < a → jj p l e R s m args below meth c cells slots Q nL dC dI ad cA A M tgt lv st) (kf : ¬ b < a → jj p l e R s m args below meth c cells slots Q nL dC dI ad cA A M (pc + 4) lv st) : jj p l e R s m args below meth c cells slots Q nL dC dI ad cA A M pc lv (.long (sJ b) :: .long (sJ a) :: st) := z_lcmp_gt C tgt a b (sJ_t h.1) (sJ_t h.2) d d2 ht kt kf
theorem y_if_le (C : jj_C p R s m args c cells slots cc nL own Ts dC dI ad cA A) {a : Int} {off : Int} (tgt : Nat) (d : decode cc pc = .ok (.ifCond .le off, 3)) (ht : (pc : Int) + off = (tgt : Int)) (h : -2147483648 ≤ a ∧ a ≤ 2147483647) (kt : a ≤ 0 → jj p l e R s m args below meth c cells slots Q nL dC dI ad cA A M tgt lv st) (kf : ¬ a ≤ 0 → jj p l e R s m args below meth c cells slots Q nL dC dI ad cA A M (pc + 3) lv st) : jj p l e R s m args below meth c cells slots Q nL dC dI ad cA A M pc lv (.int (sI a) :: st) := z_if_le C tgt a (sI_t h) d ht kt kf
theorem y_icmp_le (C : jj_C p R s m args c cells slots cc nL own Ts dC dI ad cA A) {a b : Int} {off : Int} (tgt : Nat) (d : decode cc pc = .ok (.if_icmp .le off, 3)) (ht : (pc : Int) + off = (tgt : Int)) (h : (-2147483648 ≤ a ∧ a ≤ 2147483647) ∧ -2147483648 ≤ b ∧ b ≤ 2147483647) (kt : a ≤ b → jj p l e R s m args below meth c cells slots Q nL dC dI ad cA A M tgt lv st) (kf : ¬ a ≤ b → jj p l e R s m args below meth c cells slots Q nL dC dI ad cA A M (pc + 3) lv st) : jj p l e R s m args below meth c cells slots Q nL dC dI ad cA A M pc lv (.int (sI b) :: .int (sI a) :: st) := z_icmp_le C tgt a b (sI_t h.1) (sI_t h.2) d ht kt kf
theorem y_lcmp_le (C : jj_C p R s m args c cells slots cc nL own Ts dC dI ad cA A) {a b : Int} {off : Int} (tgt : Nat) (d : decode cc pc = .ok (.lcmp, 1)) (d2 : decode cc (pc + 1) = .ok (.ifCond .le off, 3)) (ht : ((pc + 1 : Nat) : Int) + off = (tgt : Int)) (h : (-9223372036854775808 ≤ a ∧ a ≤ 9223372036854775807) ∧ -9223372036854775808 ≤ b ∧ b ≤ 9223372036854775807) (kt : a ≤ b → jj p l e R s m args below meth c cells slots Q nL dC dI ad cA A M tgt lv st) (kf : ¬ a ≤ b → jj p l e R s m args below meth c cells slots Q nL dC dI ad cA A M (pc + 4) lv st) : jj p l e R s m args below meth c cells slots Q nL dC dI ad cA A M pc lv (.long (sJ b) :: .long (sJ a) :: st) := z_lcmp_le C tgt a b (sJ_t h.1) (sJ_t h.2) d d2 ht kt kf
theorem y_mmin (C : jj_C p R s m args c cells slots cc nL own Ts dC dI ad cA A) {a b : Int} {index : Nat} (h1 : Cond.methodLink own index Lib.Math.min.name ∈ Ts) (h2 : Cond.static Lib.Math.min.name ∈ Ts) (h3 : Cond.initialized "java/lang/Math" ∈ Ts) (h4 : Cond.code Lib.Math.min.name Lib.Math.min.code 2 (some .int) ∈ Ts) (hf : 1 ≤ R.frames) (hlo : (st.map fun v => v.category).sum + 13 ≤ R.locals) (d : decode cc pc = .ok (.invokestatic index, 3)) (h : (-2147483648 ≤ a ∧ a ≤ 2147483647) ∧ -2147483648 ≤ b ∧ b ≤ 2147483647) (k : ∀ r : Int, (a ≤ b ∧ r = a ∨ b ≤ a ∧ r = b) → jj p l e R s m args below meth c cells slots Q nL dC dI ad cA A M (pc + 3) lv (.int (sI r) :: st)) : jj p l e R s m args below meth c cells slots Q nL dC dI ad cA A M pc lv (.int (sI b) :: .int (sI a) :: st) := by
  refine j_mmin C _ rfl h1 h2 h3 h4 hf hlo d ?_
  have e1 := sI_t h.1
  have e2 := sI_t h.2
  split <;> rename_i q <;> simp only [Int32.lt_iff_toInt_lt, Int32.le_iff_toInt_le, e1, e2] at q <;> exact k _ (by omega)
theorem y_mmax (C : jj_C p R s m args c cells slots cc nL own Ts dC dI ad cA A) {a b : Int} {index : Nat} (h1 : Cond.methodLink own index Lib.Math.max.name ∈ Ts) (h2 : Cond.static Lib.Math.max.name ∈ Ts) (h3 : Cond.initialized "java/lang/Math" ∈ Ts) (h4 : Cond.code Lib.Math.max.name Lib.Math.max.code 2 (some .int) ∈ Ts) (hf : 1 ≤ R.frames) (hlo : (st.map fun v => v.category).sum + 13 ≤ R.locals) (d : decode cc pc = .ok (.invokestatic index, 3)) (h : (-2147483648 ≤ a ∧ a ≤ 2147483647) ∧ -2147483648 ≤ b ∧ b ≤ 2147483647) (k : ∀ r : Int, (a ≤ b ∧ r = b ∨ b ≤ a ∧ r = a) → jj p l e R s m args below meth c cells slots Q nL dC dI ad cA A M (pc + 3) lv (.int (sI r) :: st)) : jj p l e R s m args below meth c cells slots Q nL dC dI ad cA A M pc lv (.int (sI b) :: .int (sI a) :: st) := by
  refine j_mmax C _ rfl h1 h2 h3 h4 hf hlo d ?_
  have e1 := sI_t h.1
  have e2 := sI_t h.2
  split <;> rename_i q <;> simp only [Int32.lt_iff_toInt_lt, Int32.le_iff_toInt_le, e1, e2] at q <;> exact k _ (by omega)
theorem y_mmaxl (C : jj_C p R s m args c cells slots cc nL own Ts dC dI ad cA A) {x y : Int64} {index : Nat} (h1 : Cond.methodLink own index Lib.MathLoose.max_long.x ∈ Ts) (h2 : Cond.static Lib.MathLoose.max_long.x ∈ Ts) (h3 : Cond.initialized "java/lang/Math" ∈ Ts) (h4 : Cond.code Lib.MathLoose.max_long.x Lib.MathLoose.max_long.code 4 (some .long) ∈ Ts) (hf : 1 ≤ R.frames) (hlo : (st.map fun v => v.category).sum + 15 ≤ R.locals) (d : decode cc pc = .ok (.invokestatic index, 3)) (k : ∀ r : Int, -9223372036854775808 ≤ r → r ≤ 9223372036854775807 → jj p l e R s m args below meth c cells slots Q nL dC dI ad cA A M (pc + 3) lv (.long (sJ r) :: st)) : jj p l e R s m args below meth c cells slots Q nL dC dI ad cA A M pc lv (.long y :: .long x :: st) := by
  intro H locs ls hP hS hl
  have hT := C.1.2.2.2.2
  have q := k (if y < x then x else y).toInt (sJ_r _).1 (sJ_r _).2 H locs ls hP hS hl
  rw [sJ_o] at q
  exact va_mmax_long C.1.1 C.1.2.1 (by rw [C.1.2.2.1, hl.1]) C.1.2.2.2.1 (hT _ h1) (hT _ h2) (hT _ h3) (hT _ h4) hf hlo C.2.2.2.2.2.1 C.2.2.2.2.2.2.1 d q
theorem y_getI (C : jj_C p R s m args c cells slots cc nL own Ts dC dI ad cA A) {index i k0 : Nat} (ci : Nat) (lo hi : Int) (f : jj_F Ts own index ci k0) (h : s_c i = ci) (h9 : Nat.ble ci 11 = true) (ht : (mm_ft ci)[k0]? = some 0) (hb : s_b ci k0 = (lo, hi)) (hM : INV pr Kz M) (d : decode cc pc = .ok (.getfield index, 3)) (k : ∀ r : Int, r = (M.1 i k0).toInt → lo ≤ r → r ≤ hi → jj p l e R s m args below meth c cells slots Q nL dC dI ad cA A M (pc + 3) lv (.int (sI r) :: st)) : jj p l e R s m args below meth c cells slots Q nL dC dI ad cA A M pc lv (.ref (ad i) :: st) := j_getI C ci (sI (M.1 i k0).toInt) f (s_lt h (by have := Nat.le_of_ble_eq_true h9; exact Nat.ble_eq_true_of_le (by omega))) (s_kc h h9) (by have := Nat.le_of_ble_eq_true h9; omega) ht (sI_o _).symm d (k _ rfl (hM.rd h hb).1 (hM.rd h hb).2)
theorem y_getJ (C : jj_C p R s m args c cells slots cc nL own Ts dC dI ad cA A) {index i k0 : Nat} (ci : Nat) (f : jj_F Ts own index ci k0) (h : s_c i = ci) (h9 : Nat.ble ci 11 = true) (ht : (mm_ft ci)[k0]? = some 1) (d : decode cc pc = .ok (.getfield index, 3)) (k : ∀ r : Int, r = (M.2.1 i k0).toInt → -9223372036854775808 ≤ r → r ≤ 9223372036854775807 → jj p l e R s m args below meth c cells slots Q nL dC dI ad cA A M (pc + 3) lv (.long (sJ r) :: st)) : jj p l e R s m args below meth c cells slots Q nL dC dI ad cA A M pc lv (.ref (ad i) :: st) := j_getJ C ci (sJ (M.2.1 i k0).toInt) f (s_lt h (by have := Nat.le_of_ble_eq_true h9; exact Nat.ble_eq_true_of_le (by omega))) (s_kc h h9) (by have := Nat.le_of_ble_eq_true h9; omega) ht (sJ_o _).symm d (k _ rfl (sJ_r _).1 (sJ_r _).2)
theorem y_getC (C : jj_C p R s m args c cells slots cc nL own Ts dC dI ad cA A) {index i k0 : Nat} (ci v : Nat) (f : jj_F Ts own index ci k0) (h : s_c i = ci) (h9 : Nat.ble ci 11 = true) (ht : (mm_ft ci)[k0]? = some 2) (hm : s_m ci k0 = 0) (hv : s_p0 i k0 = v) (hM : INV pr Kz M) (d : decode cc pc = .ok (.getfield index, 3)) (k : jj p l e R s m args below meth c cells slots Q nL dC dI ad cA A M (pc + 3) lv (.ref (ad v) :: st)) : jj p l e R s m args below meth c cells slots Q nL dC dI ad cA A M pc lv (.ref (ad i) :: st) := j_getP C ci v f (s_lt h (by have := Nat.le_of_ble_eq_true h9; exact Nat.ble_eq_true_of_le (by omega))) (s_kc h h9) (by have := Nat.le_of_ble_eq_true h9; omega) ht (hM.rp h hm hv) d k
theorem y_getT (C : jj_C p R s m args c cells slots cc nL own Ts dC dI ad cA A) {index i k0 : Nat} (ci t : Nat) (f : jj_F Ts own index ci k0) (h : s_c i = ci) (h9 : Nat.ble ci 11 = true) (ht : (mm_ft ci)[k0]? = some 2) (hk : Nat.ble k0 31 = true) (hm : s_m ci k0 = 0) (htt : s_t ci k0 = t) (h0 : ¬ t = 0) (hM : INV pr Kz M) (d : decode cc pc = .ok (.getfield index, 3)) (k : ∀ v : Nat, s_c v = t → jj p l e R s m args below meth c cells slots Q nL dC dI ad cA A M (pc + 3) lv (.ref (ad v) :: st)) : jj p l e R s m args below meth c cells slots Q nL dC dI ad cA A M pc lv (.ref (ad i) :: st) := j_getP C ci (M.2.2 i k0) f (s_lt h (by have := Nat.le_of_ble_eq_true h9; exact Nat.ble_eq_true_of_le (by omega))) (s_kc h h9) (by have := Nat.le_of_ble_eq_true h9; omega) ht rfl d (k _ (hM.rt h (by have := Nat.le_of_ble_eq_true h9; exact Nat.ble_eq_true_of_le (by omega)) hk hm htt h0))
theorem y_getM (C : jj_C p R s m args c cells slots cc nL own Ts dC dI ad cA A) {index i k0 : Nat} (ci t : Nat) (f : jj_F Ts own index ci k0) (h : s_c i = ci) (h9 : Nat.ble ci 11 = true) (ht : (mm_ft ci)[k0]? = some 2) (hm : s_m ci k0 = t) (h0 : ¬ t = 0) (hM : INV pr Kz M) (d : decode cc pc = .ok (.getfield index, 3)) (k : ∀ v : Nat, v = M.2.2 i k0 → s_c v = t → jj p l e R s m args below meth c cells slots Q nL dC dI ad cA A M (pc + 3) lv (.ref (ad v) :: st)) : jj p l e R s m args below meth c cells slots Q nL dC dI ad cA A M pc lv (.ref (ad i) :: st) := j_getP C ci (M.2.2 i k0) f (s_lt h (by have := Nat.le_of_ble_eq_true h9; exact Nat.ble_eq_true_of_le (by omega))) (s_kc h h9) (by have := Nat.le_of_ble_eq_true h9; omega) ht rfl d (k _ rfl (hM.rm h hm h0))
theorem y_getV (C : jj_C p R s m args c cells slots cc nL own Ts dC dI ad cA A) {index i k0 : Nat} (ci v : Nat) (f : jj_F Ts own index ci k0) (h : s_c i = ci) (h9 : Nat.ble ci 11 = true) (ht : (mm_ft ci)[k0]? = some 2) (hv : v = M.2.2 i k0) (d : decode cc pc = .ok (.getfield index, 3)) (k : jj p l e R s m args below meth c cells slots Q nL dC dI ad cA A M (pc + 3) lv (.ref (ad v) :: st)) : jj p l e R s m args below meth c cells slots Q nL dC dI ad cA A M pc lv (.ref (ad i) :: st) := j_getP C ci v f (s_lt h (by have := Nat.le_of_ble_eq_true h9; exact Nat.ble_eq_true_of_le (by omega))) (s_kc h h9) (by have := Nat.le_of_ble_eq_true h9; omega) ht hv.symm d k
theorem y_putI (C : jj_C p R s m args c cells slots cc nL own Ts dC dI ad cA A) {index i k0 : Nat} {a : Int} (ci : Nat) (lo hi : Int) (f : jj_P Ts own index ci k0 .int) (h : s_c i = ci) (h9 : Nat.ble ci 11 = true) (ht : (mm_ft ci)[k0]? = some 0) (hb : s_b ci k0 = (lo, hi)) (hM : INV pr Kz M) (hp : pr i k0 = false) (d : decode cc pc = .ok (.putfield index, 3)) (hv : (-2147483648 ≤ a ∧ a ≤ 2147483647) ∧ lo ≤ a ∧ a ≤ hi) (k : ∀ M' : mm_M, M' = wI M i k0 (sI a) → INV pr Kz M' → jj p l e R s m args below meth c cells slots Q nL dC dI ad cA A M' (pc + 3) lv st) : jj p l e R s m args below meth c cells slots Q nL dC dI ad cA A M pc lv (.int (sI a) :: .ref (ad i) :: st) := j_putI C ci f rfl rfl (s_lt h (by have := Nat.le_of_ble_eq_true h9; exact Nat.ble_eq_true_of_le (by omega))) (s_kc h h9) (by have := Nat.le_of_ble_eq_true h9; omega) ht d (k _ rfl (hM.wr h hb (by rw [sI_t hv.1]; exact hv.2) hp))
theorem y_putIF (C : jj_C p R s m args c cells slots cc nL own Ts dC dI ad cA A) {index i k0 : Nat} {x : Int32} (ci : Nat) (f : jj_P Ts own index ci k0 .int) (h : s_c i = ci) (h9 : Nat.ble ci 11 = true) (ht : (mm_ft ci)[k0]? = some 0) (hb : s_b ci k0 = (-2147483648, 2147483647)) (hM : INV pr Kz M) (hp : pr i k0 = false) (d : decode cc pc = .ok (.putfield index, 3)) (k : ∀ M' : mm_M, M' = wI M i k0 x → INV pr Kz M' → jj p l e R s m args below meth c cells slots Q nL dC dI ad cA A M' (pc + 3) lv st) : jj p l e R s m args below meth c cells slots Q nL dC dI ad cA A M pc lv (.int x :: .ref (ad i) :: st) := j_putI C ci f rfl rfl (s_lt h (by have := Nat.le_of_ble_eq_true h9; exact Nat.ble_eq_true_of_le (by omega))) (s_kc h h9) (by have := Nat.le_of_ble_eq_true h9; omega) ht d (k _ rfl (hM.wr h hb (sI_r x) hp))
theorem y_putZ (C : jj_C p R s m args c cells slots cc nL own Ts dC dI ad cA A) {index i k0 : Nat} {a : Int} (ci : Nat) (f : jj_P Ts own index ci k0 .boolean) (h : s_c i = ci) (h9 : Nat.ble ci 11 = true) (ht : (mm_ft ci)[k0]? = some 0) (hb : s_b ci k0 = (0, 1)) (hM : INV pr Kz M) (hp : pr i k0 = false) (d : decode cc pc = .ok (.putfield index, 3)) (hv : 0 ≤ a ∧ a ≤ 1) (k : ∀ M' : mm_M, M' = wI M i k0 (sI a) → INV pr Kz M' → jj p l e R s m args below meth c cells slots Q nL dC dI ad cA A M' (pc + 3) lv st) : jj p l e R s m args below meth c cells slots Q nL dC dI ad cA A M pc lv (.int (sI a) :: .ref (ad i) :: st) := by
  have q : a = 0 ∨ a = 1 := by omega
  exact j_putI C ci f (by rcases q with rfl | rfl <;> rfl) (by rcases q with rfl | rfl <;> rfl) (s_lt h (by have := Nat.le_of_ble_eq_true h9; exact Nat.ble_eq_true_of_le (by omega))) (s_kc h h9) (by have := Nat.le_of_ble_eq_true h9; omega) ht d (k _ rfl (hM.wr h hb (by rw [sI_t (by omega)]; exact hv) hp))
theorem y_putJ (C : jj_C p R s m args c cells slots cc nL own Ts dC dI ad cA A) {index i k0 : Nat} {x : Int64} (ci : Nat) (f : jj_P Ts own index ci k0 .long) (h : s_c i = ci) (h9 : Nat.ble ci 11 = true) (ht : (mm_ft ci)[k0]? = some 1) (hM : INV pr Kz M) (hp : pr i k0 = false) (d : decode cc pc = .ok (.putfield index, 3)) (k : ∀ M' : mm_M, M' = wJ M i k0 x → INV pr Kz M' → jj p l e R s m args below meth c cells slots Q nL dC dI ad cA A M' (pc + 3) lv st) : jj p l e R s m args below meth c cells slots Q nL dC dI ad cA A M pc lv (.long x :: .ref (ad i) :: st) := j_putJ C ci f (s_lt h (by have := Nat.le_of_ble_eq_true h9; exact Nat.ble_eq_true_of_le (by omega))) (s_kc h h9) (by have := Nat.le_of_ble_eq_true h9; omega) ht d (k _ rfl (hM.wJ i k0 x hp))
theorem y_putP (C : jj_C p R s m args c cells slots cc nL own Ts dC dI ad cA A) {index i k0 v : Nat} (ci t : Nat) {ty : FieldType} (f : jj_P Ts own index ci k0 ty) (hn : narrow ty (.ref (ad v)) = .ref (ad v)) (hf : fits ty (.ref (ad v)) = true) (h : s_c i = ci) (h9 : Nat.ble ci 11 = true) (ht : (mm_ft ci)[k0]? = some 2) (hm : s_m ci k0 = t) (h0 : ¬ t = 0) (hM : INV pr Kz M) (hp : pr i k0 = false) (hv : s_c v = t) (d : decode cc pc = .ok (.putfield index, 3)) (k : ∀ M' : mm_M, M' = wP M i k0 v → INV pr Kz M' → jj p l e R s m args below meth c cells slots Q nL dC dI ad cA A M' (pc + 3) lv st) : jj p l e R s m args below meth c cells slots Q nL dC dI ad cA A M pc lv (.ref (ad v) :: .ref (ad i) :: st) := j_putP C ci f hn hf (s_lt h (by have := Nat.le_of_ble_eq_true h9; exact Nat.ble_eq_true_of_le (by omega))) (s_kc h h9) (by have := Nat.le_of_ble_eq_true h9; omega) ht d (k _ rfl (hM.wp h hm h0 hv hp))
theorem s_in {x : Int} {n : Nat} (hs : Nat.ble n 2147483647 = true) (hx : 0 ≤ x ∧ x < n) : sI x = nI x.toNat ∧ x.toNat < n ∧ n < 2 ^ 31 := by
  have h := Nat.le_of_ble_eq_true hs
  refine ⟨?_, by omega, by omega⟩
  apply Int32.toInt_inj.mp
  rw [sI_t (by omega), nI_toInt (by omega)]
  omega
theorem y_iald (C : jj_C p R s m args c cells slots cc nL own Ts dC dI ad cA A) {i : Nat} {x : Int} (ci n : Nat) (lo hi : Int) (h : s_c i = ci) (h9 : Nat.ble 20 ci = true) (h8 : Nat.ble ci 899 = true) (hk : s_ak ci = 100) (hn : s_an ci = n) (hs : Nat.ble n 2147483647 = true) (hb : s_b ci x.toNat = (lo, hi)) (hM : INV pr Kz M) (d : decode cc pc = .ok (.iaload, 1)) (hx : 0 ≤ x ∧ x < n) (k : ∀ r : Int, r = (M.1 i x.toNat).toInt → lo ≤ r → r ≤ hi → jj p l e R s m args below meth c cells slots Q nL dC dI ad cA A M (pc + 1) lv (.int (sI r) :: st)) : jj p l e R s m args below meth c cells slots Q nL dC dI ad cA A M pc lv (.int (sI x) :: .ref (ad i) :: st) := by
  obtain ⟨e1, e2, e3⟩ := s_in hs hx
  exact x_iald C x.toNat n (sI (M.1 i x.toNat).toInt) (s_lt h h8) (s_ka h h9 h8 hk) e1 (s_kn h h9 h8 hn) e2 e3 (sI_o _).symm d (k _ rfl (hM.rd h hb).1 (hM.rd h hb).2)
theorem y_zald (C : jj_C p R s m args c cells slots cc nL own Ts dC dI ad cA A) {i : Nat} {x : Int} (ci n : Nat) (lo hi : Int) (h : s_c i = ci) (h9 : Nat.ble 20 ci = true) (h8 : Nat.ble ci 899 = true) (hk : s_ak ci = 101) (hn : s_an ci = n) (hs : Nat.ble n 2147483647 = true) (hb : s_b ci x.toNat = (lo, hi)) (hM : INV pr Kz M) (d : decode cc pc = .ok (.baload, 1)) (hx : 0 ≤ x ∧ x < n) (k : ∀ r : Int, r = (M.1 i x.toNat).toInt → lo ≤ r → r ≤ hi → jj p l e R s m args below meth c cells slots Q nL dC dI ad cA A M (pc + 1) lv (.int (sI r) :: st)) : jj p l e R s m args below meth c cells slots Q nL dC dI ad cA A M pc lv (.int (sI x) :: .ref (ad i) :: st) := by
  obtain ⟨e1, e2, e3⟩ := s_in hs hx
  exact x_zald C x.toNat n (sI (M.1 i x.toNat).toInt) (s_lt h h8) (s_ka h h9 h8 hk) e1 (s_kn h h9 h8 hn) e2 e3 (sI_o _).symm d (k _ rfl (hM.rd h hb).1 (hM.rd h hb).2)
theorem y_lald (C : jj_C p R s m args c cells slots cc nL own Ts dC dI ad cA A) {i : Nat} {x : Int} (ci n : Nat) (h : s_c i = ci) (h9 : Nat.ble 20 ci = true) (h8 : Nat.ble ci 899 = true) (hk : s_ak ci = 102) (hn : s_an ci = n) (hs : Nat.ble n 2147483647 = true) (d : decode cc pc = .ok (.laload, 1)) (hx : 0 ≤ x ∧ x < n) (k : ∀ r : Int, r = (M.2.1 i x.toNat).toInt → -9223372036854775808 ≤ r → r ≤ 9223372036854775807 → jj p l e R s m args below meth c cells slots Q nL dC dI ad cA A M (pc + 1) lv (.long (sJ r) :: st)) : jj p l e R s m args below meth c cells slots Q nL dC dI ad cA A M pc lv (.int (sI x) :: .ref (ad i) :: st) := by
  obtain ⟨e1, e2, e3⟩ := s_in hs hx
  exact x_lald C x.toNat n (sJ (M.2.1 i x.toNat).toInt) (s_lt h h8) (s_ka h h9 h8 hk) e1 (s_kn h h9 h8 hn) e2 e3 (sJ_o _).symm d (k _ rfl (sJ_r _).1 (sJ_r _).2)
theorem y_aald (C : jj_C p R s m args c cells slots cc nL own Ts dC dI ad cA A) {i : Nat} {x : Int} (ci n t : Nat) (h : s_c i = ci) (h9 : Nat.ble 20 ci = true) (h8 : Nat.ble ci 899 = true) (hk : Nat.ble 103 (s_ak ci) = true) (hn : s_an ci = n) (hs : Nat.ble n 32 = true) (hm : ∀ k, s_m ci k = 0) (ht : ∀ k, k < n → s_t ci k = t) (h0 : ¬ t = 0) (hM : INV pr Kz M) (d : decode cc pc = .ok (.aaload, 1)) (hx : 0 ≤ x ∧ x < n) (k : ∀ v : Nat, s_c v = t → jj p l e R s m args below meth c cells slots Q nL dC dI ad cA A M (pc + 1) lv (.ref (ad v) :: st)) : jj p l e R s m args below meth c cells slots Q nL dC dI ad cA A M pc lv (.int (sI x) :: .ref (ad i) :: st) := by
  have hs2 := Nat.le_of_ble_eq_true hs
  obtain ⟨e1, e2, e3⟩ := s_in (Nat.ble_eq_true_of_le (by omega)) hx
  exact x_aald C x.toNat n (M.2.2 i x.toNat) (s_lt h h8) (by rw [s_ka h h9 h8 rfl]; exact Nat.le_of_ble_eq_true hk) e1 (s_kn h h9 h8 hn) e2 e3 rfl d (k _ (hM.re h h8 hs e2 hm ht h0))
theorem y_iastF (C : jj_C p R s m args c cells slots cc nL own Ts dC dI ad cA A) {i : Nat} {x : Int} {v : Int32} (ci n : Nat) (h : s_c i = ci) (h9 : Nat.ble 20 ci = true) (h8 : Nat.ble ci 899 = true) (hk : s_ak ci = 100) (hn : s_an ci = n) (hs : Nat.ble n 2147483647 = true) (hb : s_b ci x.toNat = (-2147483648, 2147483647)) (hM : INV pr Kz M) (hp : pr i x.toNat = false) (d : decode cc pc = .ok (.iastore, 1)) (hx : 0 ≤ x ∧ x < n) (k : ∀ M' : mm_M, M' = wI M i x.toNat v → INV pr Kz M' → jj p l e R s m args below meth c cells slots Q nL dC dI ad cA A M' (pc + 1) lv st) : jj p l e R s m args below meth c cells slots Q nL dC dI ad cA A M pc lv (.int v :: .int (sI x) :: .ref (ad i) :: st) := by
  obtain ⟨e1, e2, e3⟩ := s_in hs hx
  exact x_iast C x.toNat n (s_lt h h8) (s_ka h h9 h8 hk) e1 (s_kn h h9 h8 hn) e2 e3 d (k _ rfl (hM.wr h hb (sI_r v) hp))
theorem y_last (C : jj_C p R s m args c cells slots cc nL own Ts dC dI ad cA A) {i : Nat} {x : Int} {v : Int64} (ci n : Nat) (h : s_c i = ci) (h9 : Nat.ble 20 ci = true) (h8 : Nat.ble ci 899 = true) (hk : s_ak ci = 102) (hn : s_an ci = n) (hs : Nat.ble n 2147483647 = true) (hM : INV pr Kz M) (hp : pr i x.toNat = false) (d : decode cc pc = .ok (.lastore, 1)) (hx : 0 ≤ x ∧ x < n) (k : ∀ M' : mm_M, M' = wJ M i x.toNat v → INV pr Kz M' → jj p l e R s m args below meth c cells slots Q nL dC dI ad cA A M' (pc + 1) lv st) : jj p l e R s m args below meth c cells slots Q nL dC dI ad cA A M pc lv (.long v :: .int (sI x) :: .ref (ad i) :: st) := by
  obtain ⟨e1, e2, e3⟩ := s_in hs hx
  exact x_last C x.toNat n (s_lt h h8) (s_ka h h9 h8 hk) e1 (s_kn h h9 h8 hn) e2 e3 d (k _ rfl (hM.wJ i _ v hp))
theorem y_iast (C : jj_C p R s m args c cells slots cc nL own Ts dC dI ad cA A) {i : Nat} {x a : Int} (ci n : Nat) (lo hi : Int) (h : s_c i = ci) (h9 : Nat.ble 20 ci = true) (h8 : Nat.ble ci 899 = true) (hk : s_ak ci = 100) (hn : s_an ci = n) (hs : Nat.ble n 2147483647 = true) (hb : s_b ci x.toNat = (lo, hi)) (hM : INV pr Kz M) (hp : pr i x.toNat = false) (d : decode cc pc = .ok (.iastore, 1)) (hx : 0 ≤ x ∧ x < n) (hv : (-2147483648 ≤ a ∧ a ≤ 2147483647) ∧ lo ≤ a ∧ a ≤ hi) (k : ∀ M' : mm_M, M' = wI M i x.toNat (sI a) → INV pr Kz M' → jj p l e R s m args below meth c cells slots Q nL dC dI ad cA A M' (pc + 1) lv st) : jj p l e R s m args below meth c cells slots Q nL dC dI ad cA A M pc lv (.int (sI a) :: .int (sI x) :: .ref (ad i) :: st) := by
  obtain ⟨e1, e2, e3⟩ := s_in hs hx
  exact x_iast C x.toNat n (s_lt h h8) (s_ka h h9 h8 hk) e1 (s_kn h h9 h8 hn) e2 e3 d (k _ rfl (hM.wr h hb (by rw [sI_t hv.1]; exact hv.2) hp))
theorem y_zast (C : jj_C p R s m args c cells slots cc nL own Ts dC dI ad cA A) {i : Nat} {x a : Int} (ci n : Nat) (h : s_c i = ci) (h9 : Nat.ble 20 ci = true) (h8 : Nat.ble ci 899 = true) (hk : s_ak ci = 101) (hn : s_an ci = n) (hs : Nat.ble n 2147483647 = true) (hb : s_b ci x.toNat = (0, 1)) (hM : INV pr Kz M) (hp : pr i x.toNat = false) (d : decode cc pc = .ok (.bastore, 1)) (hx : 0 ≤ x ∧ x < n) (hv : 0 ≤ a ∧ a ≤ 1) (k : ∀ M' : mm_M, M' = wI M i x.toNat (sI a) → INV pr Kz M' → jj p l e R s m args below meth c cells slots Q nL dC dI ad cA A M' (pc + 1) lv st) : jj p l e R s m args below meth c cells slots Q nL dC dI ad cA A M pc lv (.int (sI a) :: .int (sI x) :: .ref (ad i) :: st) := by
  obtain ⟨e1, e2, e3⟩ := s_in hs hx
  have q : a = 0 ∨ a = 1 := by omega
  exact x_zast C x.toNat n (s_lt h h8) (s_ka h h9 h8 hk) e1 (s_kn h h9 h8 hn) e2 e3 (by rcases q with rfl | rfl <;> rfl) d (k _ rfl (hM.wr h hb (by rw [sI_t (by omega)]; exact hv) hp))
theorem y_alen (C : jj_C p R s m args c cells slots cc nL own Ts dC dI ad cA A) {i : Nat} (ci n : Nat) (h : s_c i = ci) (h9 : Nat.ble 20 ci = true) (h8 : Nat.ble ci 899 = true) (hn : s_an ci = n) (hk : Nat.ble 100 (s_ak ci) = true) (hs : Nat.ble n 2147483647 = true) (d : decode cc pc = .ok (.arraylength, 1)) (k : jj p l e R s m args below meth c cells slots Q nL dC dI ad cA A M (pc + 1) lv (.int (sI n) :: st)) : jj p l e R s m args below meth c cells slots Q nL dC dI ad cA A M pc lv (.ref (ad i) :: st) := j_alen C (sI n) (s_lt h h8) (by rw [s_ka h h9 h8 rfl]; exact Nat.le_of_ble_eq_true hk) (by rw [s_kn h h9 h8 hn]; rfl) d k
theorem y_tabO (C : jj_C p R s m args c cells slots cc nL own Ts dC dI ad cA A) {dflt lo hi : Int} {offs : Array Int} {len : Nat} {a : Int} (tgt : Nat) (d : decode cc pc = .ok (.tableswitch dflt lo hi offs, len)) (ht : (pc : Int) + dflt = (tgt : Int)) (h : (-2147483648 ≤ a ∧ a ≤ 2147483647) ∧ (a < lo ∨ hi < a)) (k : jj p l e R s m args below meth c cells slots Q nL dC dI ad cA A M tgt lv st) : jj p l e R s m args below meth c cells slots Q nL dC dI ad cA A M pc lv (.int (sI a) :: st) := j_tableOut C tgt d (by rw [sI_t h.1]; exact h.2) ht k
theorem y_tabI (C : jj_C p R s m args c cells slots cc nL own Ts dC dI ad cA A) {dflt lo hi : Int} {offs : Array Int} {len : Nat} {a off : Int} (tgt : Nat) (v : Int) (d : decode cc pc = .ok (.tableswitch dflt lo hi offs, len)) (hb : ¬ v < lo ∧ ¬ hi < v ∧ -2147483648 ≤ v ∧ v ≤ 2147483647) (ho : offs[(v - lo).toNat]? = some off) (ht : (pc : Int) + off = (tgt : Int)) (h : a = v) (k : jj p l e R s m args below meth c cells slots Q nL dC dI ad cA A M tgt lv st) : jj p l e R s m args below meth c cells slots Q nL dC dI ad cA A M pc lv (.int (sI a) :: st) := by
  subst h
  have e := sI_t (a := a) (by omega)
  exact j_tableIn C tgt d (by rw [e]; exact hb.1) (by rw [e]; exact hb.2.1) (by rw [e]; exact ho) ht k
theorem y_lk (C : jj_C p R s m args c cells slots cc nL own Ts dC dI ad cA A) {dflt : Int} {ps : Array (Int × Int)} {len : Nat} {a off : Int} (tgt : Nat) (d : decode cc pc = .ok (.lookupswitch dflt ps, len)) (hp : (ps.toList.zip (ps.toList.drop 1)).all (fun (a, next) => a.1 < next.1) = true) (ht : (pc : Int) + off = (tgt : Int)) (h : -2147483648 ≤ a ∧ a ≤ 2147483647) (ho : Op.lookupswitch.offset ps.toList dflt a = off) (k : jj p l e R s m args below meth c cells slots Q nL dC dI ad cA A M tgt lv st) : jj p l e R s m args below meth c cells slots Q nL dC dI ad cA A M pc lv (.int (sI a) :: st) := j_lookup C tgt d hp (by rw [sI_t h]; exact ho) ht k
end YR
end
section
/-! FREEZING MORE FOR A WHILE; b01 -/
noncomputable def b01 (P : Prop) : Int := @ite Int P (Classical.propDecidable P) 1 0
theorem b01_i {P : Prop} (h : P) : b01 P = 1 := by simp [b01, h]
theorem b01_e {P : Prop} (h : b01 P = 1) : P := by
  by_cases q : P
  · exact q
  · simp [b01, q] at h
theorem fz {pr : Nat → Nat → Bool} {Kz M : mm_M} (D : Nat → Nat → Bool) (h : INV pr Kz M) : ∃ (pr2 : Nat → Nat → Bool) (Kz2 : mm_M), INV pr2 Kz2 M ∧ (∀ i k, pr i k = false → D i k = false → pr2 i k = false) ∧ (∀ M', INV pr2 Kz2 M' → INV pr Kz M' ∧ ∀ i k, D i k = true → M'.1 i k = M.1 i k) := by
  refine ⟨fun i k => pr i k || D i k, keep (fun i k => pr i k || D i k) M, ⟨h.1, rfl⟩, fun i k h1 h2 => by simp [h1, h2], fun M' h' => ?_⟩
  have f1 : ∀ i k, (pr i k || D i k) = true → M'.1 i k = M.1 i k := fun i k hp => by
    rw [h'.fI (i := i) (k := k) hp]; show (if (pr i k || D i k) = true then M.1 i k else 0) = _; rw [if_pos hp]
  have f2 : ∀ i k, (pr i k || D i k) = true → M'.2.1 i k = M.2.1 i k := fun i k hp => by
    rw [h'.fJ (i := i) (k := k) hp]; show (if (pr i k || D i k) = true then M.2.1 i k else 0) = _; rw [if_pos hp]
  have f3 : ∀ i k, (pr i k || D i k) = true → M'.2.2 i k = M.2.2 i k := fun i k hp => by
    rw [h'.fP (i := i) (k := k) hp]; show (if (pr i k || D i k) = true then M.2.2 i k else 0) = _; rw [if_pos hp]
  have o : ∀ i k, pr i k = true → (pr i k || D i k) = true := fun i k q => by rw [q]; rfl
  refine ⟨⟨h'.1, ?_⟩, fun i k hd => f1 i k (by rw [hd]; simp)⟩
  rw [← h.2]
  unfold keep
  refine Prod.ext (funext fun i => funext fun k => ?_) (Prod.ext (funext fun i => funext fun k => ?_) (funext fun i => funext fun k => ?_))
  · show (if pr i k = true then M'.1 i k else 0) = (if pr i k = true then M.1 i k else 0)
    by_cases q : pr i k = true
    · rw [if_pos q, if_pos q, f1 i k (o i k q)]
    · rw [if_neg q, if_neg q]
  · show (if pr i k = true then M'.2.1 i k else 0) = (if pr i k = true then M.2.1 i k else 0)
    by_cases q : pr i k = true
    · rw [if_pos q, if_pos q, f2 i k (o i k q)]
    · rw [if_neg q, if_neg q]
  · show (if pr i k = true then M'.2.2 i k else 0) = (if pr i k = true then M.2.2 i k else 0)
    by_cases q : pr i k = true
    · rw [if_pos q, if_pos q, f3 i k (o i k q)]
    · rw [if_neg q, if_neg q]
theorem fzX {pr : Nat → Nat → Bool} {Kz M : mm_M} (hpr : PX pr) (h : INV pr Kz M) : ∃ (pr2 : Nat → Nat → Bool) (Kz2 : mm_M), PX pr2 ∧ INV pr2 Kz2 M ∧ (∀ M', INV pr2 Kz2 M' → INV pr Kz M' ∧ ∀ i k, px (s_c i) k = false → M'.1 i k = M.1 i k) := by
  obtain ⟨pr2, Kz2, a, b, d⟩ := fz (fun i k => !px (s_c i) k) h
  exact ⟨pr2, Kz2, fun i k q => b i k (hpr i k q) (by simp [q]), a, fun M' h' => ⟨(d M' h').1, fun i k q => (d M' h').2 i k (by simp [q])⟩⟩
theorem fzM {pr : Nat → Nat → Bool} {Kz M : mm_M} (cs : List Nat) (hpr : PM pr) (h : INV pr Kz M) : ∃ (pr2 : Nat → Nat → Bool) (Kz2 : mm_M), PM pr2 ∧ INV pr2 Kz2 M ∧ (∀ i k, cs.contains (s_c i) = false → pr i k = false → pr2 i k = false) ∧ (∀ M', INV pr2 Kz2 M' → INV pr Kz M' ∧ ∀ i k, cs.contains (s_c i) = true → pm (s_c i) k = false → M'.1 i k = M.1 i k) := by
  obtain ⟨pr2, Kz2, a, b, d⟩ := fz (fun i k => cs.contains (s_c i) && !pm (s_c i) k) h
  refine ⟨pr2, Kz2, fun i k q => b i k (hpr i k q) ?_, a, fun i k q1 q2 => b i k q2 ?_, fun M' h' => ⟨(d M' h').1, fun i k q1 q2 => (d M' h').2 i k ?_⟩⟩
  · show (cs.contains (s_c i) && !pm (s_c i) k) = false; rw [q]; simp
  · show (cs.contains (s_c i) && !pm (s_c i) k) = false; rw [q1]; rfl
  · show (cs.contains (s_c i) && !pm (s_c i) k) = true; rw [q1, q2]; rfl
theorem fz2 {pr : Nat → Nat → Bool} {Kz M : mm_M} (D : Nat → Nat → Bool) (h : INV pr Kz M) : ∃ (pr2 : Nat → Nat → Bool) (Kz2 : mm_M), INV pr2 Kz2 M ∧ (∀ i k, pr i k = false → D i k = false → pr2 i k = false) ∧ (∀ M', INV pr2 Kz2 M' → INV pr Kz M' ∧ ∀ i k, D i k = true → M'.1 i k = M.1 i k ∧ M'.2.2 i k = M.2.2 i k) := by
  refine ⟨fun i k => pr i k || D i k, keep (fun i k => pr i k || D i k) M, ⟨h.1, rfl⟩, fun i k h1 h2 => by simp [h1, h2], fun M' h' => ?_⟩
  have f1 : ∀ i k, (pr i k || D i k) = true → M'.1 i k = M.1 i k := fun i k hp => by
    rw [h'.fI (i := i) (k := k) hp]; show (if (pr i k || D i k) = true then M.1 i k else 0) = _; rw [if_pos hp]
  have f2 : ∀ i k, (pr i k || D i k) = true → M'.2.1 i k = M.2.1 i k := fun i k hp => by
    rw [h'.fJ (i := i) (k := k) hp]; show (if (pr i k || D i k) = true then M.2.1 i k else 0) = _; rw [if_pos hp]
  have f3 : ∀ i k, (pr i k || D i k) = true → M'.2.2 i k = M.2.2 i k := fun i k hp => by
    rw [h'.fP (i := i) (k := k) hp]; show (if (pr i k || D i k) = true then M.2.2 i k else 0) = _; rw [if_pos hp]
  have o : ∀ i k, pr i k = true → (pr i k || D i k) = true := fun i k q => by rw [q]; rfl
  refine ⟨⟨h'.1, ?_⟩, fun i k hd => ⟨f1 i k (by rw [hd]; simp), f3 i k (by rw [hd]; simp)⟩⟩
  rw [← h.2]
  unfold keep
  refine Prod.ext (funext fun i => funext fun k => ?_) (Prod.ext (funext fun i => funext fun k => ?_) (funext fun i => funext fun k => ?_))
  · show (if pr i k = true then M'.1 i k else 0) = (if pr i k = true then M.1 i k else 0)
    by_cases q : pr i k = true
    · rw [if_pos q, if_pos q, f1 i k (o i k q)]
    · rw [if_neg q, if_neg q]
  · show (if pr i k = true then M'.2.1 i k else 0) = (if pr i k = true then M.2.1 i k else 0)
    by_cases q : pr i k = true
    · rw [if_pos q, if_pos q, f2 i k (o i k q)]
    · rw [if_neg q, if_neg q]
  · show (if pr i k = true then M'.2.2 i k else 0) = (if pr i k = true then M.2.2 i k else 0)
    by_cases q : pr i k = true
    · rw [if_pos q, if_pos q, f3 i k (o i k q)]
    · rw [if_neg q, if_neg q]
theorem fzXs {pr : Nat → Nat → Bool} {Kz M : mm_M} (cs : List Nat) (hpr : PX pr) (h : INV pr Kz M) : ∃ (pr2 : Nat → Nat → Bool) (Kz2 : mm_M), PX pr2 ∧ INV pr2 Kz2 M ∧ (∀ i k, cs.contains (s_c i) = false → pr i k = false → pr2 i k = false) ∧ (∀ M', INV pr2 Kz2 M' → INV pr Kz M' ∧ ∀ i k, cs.contains (s_c i) = true → px (s_c i) k = false → M'.1 i k = M.1 i k ∧ M'.2.2 i k = M.2.2 i k) := by
  obtain ⟨pr2, Kz2, a, b, d⟩ := fz2 (fun i k => cs.contains (s_c i) && !px (s_c i) k) h
  refine ⟨pr2, Kz2, fun i k q => b i k (hpr i k q) ?_, a, fun i k q1 q2 => b i k q2 ?_, fun M' h' => ⟨(d M' h').1, fun i k q1 q2 => (d M' h').2 i k ?_⟩⟩
  · show (cs.contains (s_c i) && !px (s_c i) k) = false; rw [q]; simp
  · show (cs.contains (s_c i) && !px (s_c i) k) = false; rw [q1]; rfl
  · show (cs.contains (s_c i) && !px (s_c i) k) = true; rw [q1, q2]; rfl
theorem w_or {M M' : mm_M} {i k : Nat} {a : Int} (e : M' = wI M i k (sI a)) (h : -2147483648 ≤ a ∧ a ≤ 2147483647) (j n : Nat) : (i = j ∧ k = n ∧ (M'.1 j n).toInt = a) ∨ (¬ (i = j ∧ k = n) ∧ (M'.1 j n).toInt = (M.1 j n).toInt) := by
  by_cases q : i = j ∧ k = n
  · obtain ⟨rfl, rfl⟩ := q
    exact Or.inl ⟨rfl, rfl, s_wr e h⟩
  · refine Or.inr ⟨q, ?_⟩
    by_cases q2 : i = j
    · exact s_fb e (fun z => q ⟨q2, z.symm⟩) rfl
    · exact s_fa e (fun z => q2 z.symm) rfl
theorem wJ_rd {M M' : mm_M} {i k : Nat} {a : Int} (e : M' = wJ M i k (sJ a)) (h : -9223372036854775808 ≤ a ∧ a ≤ 9223372036854775807) : (M'.2.1 i k).toInt = a := by
  rw [e, show (wJ M i k (sJ a)).2.1 i k = sJ a from u2_s _ _ _ _, sJ_t h]
theorem rd_or (M : mm_M) (v j k : Nat) : (v = j ∧ (M.1 v k).toInt = (M.1 j k).toInt) ∨ ¬ v = j := by
  by_cases q : v = j
  · exact Or.inl ⟨q, by rw [q]⟩
  · exact Or.inr q
theorem p59 {x : Int} (h : 0 ≤ x ∧ x ≤ 1) : (x = 0 ∧ s_p0 59 x.toNat = 60) ∨ (x = 1 ∧ s_p0 59 x.toNat = 69) := by
  rcases (show x = 0 ∨ x = 1 by omega) with rfl | rfl
  · exact Or.inl ⟨rfl, by decide +kernel⟩
  · exact Or.inr ⟨rfl, by decide +kernel⟩
theorem p50_i : ∀ a, a < 4 → ∀ b, b < 4 → s_p0 50 a = s_p0 50 b → a = b := by decide +kernel
theorem p50_c : ∀ a, a < 4 → s_c (s_p0 50 a) = 9 := by decide +kernel
def NBX (M N : mm_M) (t s n : Int) : Prop := ∀ q : Nat, q < 4 → (((q : Int) = t ∧ (0 ≤ s ∧ s ≤ 3) ∧ 0 ≤ n ∧ n ≤ 40) ∧ (N.1 (s_p0 50 q) 1).toInt = s ∧ (N.1 (s_p0 50 q) 2).toInt = n) ∨ (¬ ((q : Int) = t ∧ (0 ≤ s ∧ s ≤ 3) ∧ 0 ≤ n ∧ n ≤ 40) ∧ (N.1 (s_p0 50 q) 1).toInt = (M.1 (s_p0 50 q) 1).toInt ∧ (N.1 (s_p0 50 q) 2).toInt = (M.1 (s_p0 50 q) 2).toInt)
def NBM (M N : mm_M) (t s n : Int) : Prop := ∀ q : Nat, q < 4 → (((q : Int) = t ∧ (0 ≤ s ∧ s ≤ 3) ∧ 0 ≤ n ∧ n ≤ 40) ∧ (N.1 115 q).toInt = s ∧ (N.1 116 q).toInt = n) ∨ (¬ ((q : Int) = t ∧ (0 ≤ s ∧ s ≤ 3) ∧ 0 ≤ n ∧ n ≤ 40) ∧ (N.1 115 q).toInt = (M.1 115 q).toInt ∧ (N.1 116 q).toInt = (M.1 116 q).toInt)
def LYX (M N : mm_M) (v : Nat) : Prop := ∀ j, ¬ j = v → s_c j = 9 → N.1 j 1 = M.1 j 1 ∧ N.1 j 2 = M.1 j 2
theorem nbx_no {M : mm_M} {t s n : Int} (h : ¬ ((0 ≤ t ∧ t ≤ 3) ∧ (0 ≤ s ∧ s ≤ 3) ∧ 0 ≤ n ∧ n ≤ 40)) : b01 (NBX M M t s n) = 1 := b01_i fun q hq => Or.inr ⟨fun z => h ⟨by omega, z.2⟩, rfl, rfl⟩
theorem nbx_yes {M N : mm_M} {t s n : Int} (h : (0 ≤ t ∧ t ≤ 3) ∧ (0 ≤ s ∧ s ≤ 3) ∧ 0 ≤ n ∧ n ≤ 40) (h1 : (N.1 (s_p0 50 t.toNat) 1).toInt = s ∧ (N.1 (s_p0 50 t.toNat) 2).toInt = n) (h2 : b01 (LYX M N (s_p0 50 t.toNat)) = 1) : b01 (NBX M N t s n) = 1 := b01_i fun q hq => by
  by_cases e : (q : Int) = t
  · obtain rfl : q = t.toNat := by omega
    exact Or.inl ⟨⟨e, h.2⟩, h1⟩
  · have := b01_e h2 (s_p0 50 q) (fun z => e (by have := p50_i q hq t.toNat (by omega) z; omega)) (p50_c q hq)
    exact Or.inr ⟨fun z => e z.1, by rw [this.1], by rw [this.2]⟩
theorem lyx {M M1 M2 M3 : mm_M} {v : Nat} {a b : Int} (hz : ∀ i k, px (s_c i) k = false → M1.1 i k = M.1 i k) (e2 : M2 = wI M1 v 1 (sI a)) (e3 : M3 = wI M2 v 2 (sI b)) : b01 (LYX M M3 v) = 1 := b01_i fun j hj hc => by
  have z2 : M2.1 j = M1.1 j := by rw [e2]; funext k; exact u2_a _ _ hj
  have z3 : M3.1 j = M2.1 j := by rw [e3]; funext k; exact u2_a _ _ hj
  rw [z3, z2]
  exact ⟨hz j 1 (by rw [hc]; rfl), hz j 2 (by rw [hc]; rfl)⟩
theorem nbm_no {M N : mm_M} {t s n : Int} {k : Nat} {v : Int32} (e : N = wI M 98 k v) (h : ¬ ((0 ≤ t ∧ t ≤ 3) ∧ (0 ≤ s ∧ s ≤ 3) ∧ 0 ≤ n ∧ n ≤ 40)) : b01 (NBM M N t s n) = 1 := b01_i fun q hq => Or.inr ⟨fun z => h ⟨by omega, z.2⟩, s_fa e (by decide) rfl, s_fa e (by decide) rfl⟩
theorem nbm_yes {M M1 M2 M3 N : mm_M} {t s n : Int} {k : Nat} {v : Int32} (e1 : M1 = wI M 98 k v) (e2 : M2 = wI M1 115 t.toNat (sI s)) (e3 : M3 = wI M2 116 t.toNat (sI n)) (hz : ∀ i k, [61, 62].contains (s_c i) = true → pm (s_c i) k = false → N.1 i k = M3.1 i k) (h : (0 ≤ t ∧ t ≤ 3) ∧ (0 ≤ s ∧ s ≤ 3) ∧ 0 ≤ n ∧ n ≤ 40) : b01 (NBM M N t s n) = 1 := b01_i fun q hq => by
  have z1 := hz 115 q (by decide) (by show pm 61 q = false; rfl)
  have z2 := hz 116 q (by decide) (by show pm 62 q = false; rfl)
  rw [z1, z2]
  have a1 := w_or e3 (by omega) 115 q
  have a2 := w_or e3 (by omega) 116 q
  have b1 := w_or e2 (by omega) 115 q
  have b2 := w_or e2 (by omega) 116 q
  have c1 : (M1.1 115 q).toInt = (M.1 115 q).toInt := s_fa e1 (by decide) rfl
  have c2 : (M1.1 116 q).toInt = (M.1 116 q).toInt := s_fa e1 (by decide) rfl
  by_cases e : (q : Int) = t
  · exact Or.inl ⟨⟨e, h.2⟩, by omega, by omega⟩
  · exact Or.inr ⟨fun z => e z.1, by omega, by omega⟩
/-! a number cut to its sort -/
def w32 (a : Int) : Int := (sI a).toInt
def i8F (a : Int) : Int := ((sI a).toInt8.toInt32).toInt
def i16F (a : Int) : Int := ((sI a).toInt16.toInt32).toInt
def ctF (v s : Int) : Int := if s = 0 then i8F (w32 v) else if s = 1 then i16F (w32 v) else if s = 2 then w32 v else v
theorem ctF_s (v s : Int) : (s = 0 ∧ ctF v s = i8F (w32 v)) ∨ (s = 1 ∧ ctF v s = i16F (w32 v)) ∨ (s = 2 ∧ ctF v s = w32 v) ∨ (¬ s = 0 ∧ ¬ s = 1 ∧ ¬ s = 2 ∧ ctF v s = v) := by
  unfold ctF
  by_cases h0 : s = 0
  · simp [h0]
  · by_cases h1 : s = 1
    · simp [h1]
    · by_cases h2 : s = 2
      · simp [h2]
      · simp [h0, h1, h2]
def nuF (t s n : Int) : Int := if 0 ≤ t ∧ t ≤ 3 ∧ 0 ≤ s ∧ s ≤ 3 then (if 0 ≤ n ∧ n ≤ 40 then 0 else -3) else -2
theorem nuF_s (t s n : Int) : (0 ≤ t ∧ t ≤ 3 ∧ 0 ≤ s ∧ s ≤ 3) ∧ (0 ≤ n ∧ n ≤ 40) ∧ nuF t s n = 0 ∨ (0 ≤ t ∧ t ≤ 3 ∧ 0 ≤ s ∧ s ≤ 3) ∧ ¬ (0 ≤ n ∧ n ≤ 40) ∧ nuF t s n = -3 ∨ ¬ (0 ≤ t ∧ t ≤ 3 ∧ 0 ≤ s ∧ s ≤ 3) ∧ nuF t s n = -2 := by
  unfold nuF; (repeat' split) <;> omega
theorem sb_c0 {a : Int} (h : 0 ≤ a ∧ a ≤ 65535) : ((sI a).toUInt32 % 65536).toInt32 = sI a := by
  have e := sb_nat (x := sI a) (by rw [sI_t (by omega)]; exact h.1)
  rw [sI_t (by omega)] at e
  apply Int32.toBitVec_inj.mp
  apply BitVec.eq_of_toNat_eq
  show ((sI a).toUInt32 % 65536).toNat = (sI a).toBitVec.toNat
  rw [UInt32.toNat_mod]
  show (sI a).toBitVec.toNat % 65536 = _
  omega
/-- one place of the reference frozen -/
theorem fzMp {pr : Nat → Nat → Bool} {Kz M : mm_M} (i0 k0 : Nat) (hp : pm (s_c i0) k0 = false) (hpr : PM pr) (h : INV pr Kz M) : ∃ (pr2 : Nat → Nat → Bool) (Kz2 : mm_M), PM pr2 ∧ INV pr2 Kz2 M ∧ (∀ i k, ¬ (i = i0 ∧ k = k0) → pr i k = false → pr2 i k = false) ∧ (∀ M', INV pr2 Kz2 M' → INV pr Kz M' ∧ M'.1 i0 k0 = M.1 i0 k0) := by
  obtain ⟨pr2, Kz2, a, b, d⟩ := fz (fun i k => decide (i = i0) && decide (k = k0)) h
  refine ⟨pr2, Kz2, fun i k q => b i k (hpr i k q) ?_, a, fun i k q1 q2 => b i k q2 ?_, fun M' h' => ⟨(d M' h').1, (d M' h').2 i0 k0 (by simp)⟩⟩
  · show (decide (i = i0) && decide (k = k0)) = false
    by_cases h1 : i = i0
    · by_cases h2 : k = k0
      · rw [h1, h2, hp] at q; cases q
      · simp [h2]
    · simp [h1]
  · show (decide (i = i0) && decide (k = k0)) = false
    by_cases h1 : i = i0
    · by_cases h2 : k = k0
      · exact absurd ⟨h1, h2⟩ q1
      · simp [h2]
    · simp [h1]
end
section
section EZ
variable {p : Program} {l : Launch} {e : Env} {R : Room} {s : State} {m : MethodId} {args : Array Value} {below : List Frame} {meth : Method} {c : Code} {cells slots : Nat} {Q : State → Prop} {cc : ByteArray} {nL : Nat} {own : String} {Ts : List Cond} {dC : Nat → ClassId} {dI : Nat → Nat → Nat} {ad : Nat → Nat} {cA : Nat → ClassId} {A : Nat → Prop} {M Kz : mm_M} {pr : Nat → Nat → Bool} {pc : Nat} {lv : List (Nat × Value)} {st : List Value}
theorem y_aaldE (C : jj_C p R s m args c cells slots cc nL own Ts dC dI ad cA A) {i : Nat} {x : Int} (ci n t : Nat) (h : s_c i = ci) (h9 : Nat.ble 20 ci = true) (h8 : Nat.ble ci 899 = true) (hk : Nat.ble 103 (s_ak ci) = true) (hn : s_an ci = n) (hs : Nat.ble n 32 = true) (hm : ∀ k, s_m ci k = 0) (ht : ∀ k, k < n → s_t ci k = t) (h0 : ¬ t = 0) (hM : INV pr Kz M) (d : decode cc pc = .ok (.aaload, 1)) (hx : 0 ≤ x ∧ x < n) (k : s_c (s_p0 i x.toNat) = t → jj p l e R s m args below meth c cells slots Q nL dC dI ad cA A M (pc + 1) lv (.ref (ad (s_p0 i x.toNat)) :: st)) : jj p l e R s m args below meth c cells slots Q nL dC dI ad cA A M pc lv (.int (sI x) :: .ref (ad i) :: st) := by
  have hs2 := Nat.le_of_ble_eq_true hs
  obtain ⟨e1, e2, e3⟩ := s_in (Nat.ble_eq_true_of_le (by omega)) hx
  have q := hM.re h h8 hs e2 hm ht h0
  rw [hM.rp h (hm _) rfl] at q
  exact x_aald C x.toNat n (s_p0 i x.toNat) (s_lt h h8) (by rw [s_ka h h9 h8 rfl]; exact Nat.le_of_ble_eq_true hk) e1 (s_kn h h9 h8 hn) e2 e3 (hM.rp h (hm _) rfl) d (k q)
theorem y_getTE (C : jj_C p R s m args c cells slots cc nL own Ts dC dI ad cA A) {index i k0 : Nat} (ci t : Nat) (f : jj_F Ts own index ci k0) (h : s_c i = ci) (h9 : Nat.ble ci 11 = true) (ht : (mm_ft ci)[k0]? = some 2) (hk : Nat.ble k0 31 = true) (hm : s_m ci k0 = 0) (htt : s_t ci k0 = t) (h0 : ¬ t = 0) (hM : INV pr Kz M) (d : decode cc pc = .ok (.getfield index, 3)) (k : s_c (s_p0 i k0) = t → jj p l e R s m args below meth c cells slots Q nL dC dI ad cA A M (pc + 3) lv (.ref (ad (s_p0 i k0)) :: st)) : jj p l e R s m args below meth c cells slots Q nL dC dI ad cA A M pc lv (.ref (ad i) :: st) := j_getP C ci (s_p0 i k0) f (s_lt h (by have := Nat.le_of_ble_eq_true h9; exact Nat.ble_eq_true_of_le (by omega))) (s_kc h h9) (by have := Nat.le_of_ble_eq_true h9; omega) ht (hM.rp h hm rfl) d (k (by have q := hM.rt h (by have := Nat.le_of_ble_eq_true h9; exact Nat.ble_eq_true_of_le (by omega)) hk hm htt h0; rwa [hM.rp h hm rfl] at q))
theorem e_l2i (C : jj_C p R s m args c cells slots cc nL own Ts dC dI ad cA A) {a : Int} (d : decode cc pc = .ok (.l2i, 1)) (k : -2147483648 ≤ w32 a → w32 a ≤ 2147483647 → jj p l e R s m args below meth c cells slots Q nL dC dI ad cA A M (pc + 1) lv (.int (sI (w32 a)) :: st)) : jj p l e R s m args below meth c cells slots Q nL dC dI ad cA A M pc lv (.long (sJ a) :: st) := z_l2i C (sI (w32 a)) ((sJ_I a).trans (sI_o _).symm) d (k (sI_r _).1 (sI_r _).2)
theorem e_i2b (C : jj_C p R s m args c cells slots cc nL own Ts dC dI ad cA A) {a : Int} (d : decode cc pc = .ok (.i2b, 1)) (k : -128 ≤ i8F a → i8F a ≤ 127 → jj p l e R s m args below meth c cells slots Q nL dC dI ad cA A M (pc + 1) lv (.int (sI (i8F a)) :: st)) : jj p l e R s m args below meth c cells slots Q nL dC dI ad cA A M pc lv (.int (sI a) :: st) := z_i2b C (sI (i8F a)) (sI_o _).symm d (k (sb_i8 _).1 (sb_i8 _).2)
theorem e_i2s (C : jj_C p R s m args c cells slots cc nL own Ts dC dI ad cA A) {a : Int} (d : decode cc pc = .ok (.i2s, 1)) (k : -32768 ≤ i16F a → i16F a ≤ 32767 → jj p l e R s m args below meth c cells slots Q nL dC dI ad cA A M (pc + 1) lv (.int (sI (i16F a)) :: st)) : jj p l e R s m args below meth c cells slots Q nL dC dI ad cA A M pc lv (.int (sI a) :: st) := z_i2s C (sI (i16F a)) (sI_o _).symm d (k (sb_i16 _).1 (sb_i16 _).2)
def shlJ (a b : Int) : Int := (sJ a <<< ((sI b).toInt64 &&& 63)).toInt
def orJ (a b : Int) : Int := (sJ a ||| sJ b).toInt
theorem e_lshl (C : jj_C p R s m args c cells slots cc nL own Ts dC dI ad cA A) {a b : Int} (d : decode cc pc = .ok (.lshl, 1)) (k : -9223372036854775808 ≤ shlJ a b → shlJ a b ≤ 9223372036854775807 → jj p l e R s m args below meth c cells slots Q nL dC dI ad cA A M (pc + 1) lv (.long (sJ (shlJ a b)) :: st)) : jj p l e R s m args below meth c cells slots Q nL dC dI ad cA A M pc lv (.int (sI b) :: .long (sJ a) :: st) := z_lshl C (sJ (shlJ a b)) (sJ_o _).symm d (k (sJ_r _).1 (sJ_r _).2)
theorem e_lor (C : jj_C p R s m args c cells slots cc nL own Ts dC dI ad cA A) {a b : Int} (d : decode cc pc = .ok (.lor, 1)) (k : -9223372036854775808 ≤ orJ a b → orJ a b ≤ 9223372036854775807 → jj p l e R s m args below meth c cells slots Q nL dC dI ad cA A M (pc + 1) lv (.long (sJ (orJ a b)) :: st)) : jj p l e R s m args below meth c cells slots Q nL dC dI ad cA A M pc lv (.long (sJ b) :: .long (sJ a) :: st) := z_lor C (sJ (orJ a b)) (sJ_o _).symm d (k (sJ_r _).1 (sJ_r _).2)
theorem e_i2c (C : jj_C p R s m args c cells slots cc nL own Ts dC dI ad cA A) {a : Int} (d : decode cc pc = .ok (.i2c, 1)) (h : 0 ≤ a ∧ a ≤ 65535) (k : jj p l e R s m args below meth c cells slots Q nL dC dI ad cA A M (pc + 1) lv (.int (sI a) :: st)) : jj p l e R s m args below meth c cells slots Q nL dC dI ad cA A M pc lv (.int (sI a) :: st) := z_i2c C (sI a) (sb_c0 h) d k
end EZ
end
section
section ER
variable {p : Program} {l : Launch} {e : Env} {R : Room} {s : State} {m : MethodId} {args : Array Value} {below : List Frame} {meth : Method} {c : Code} {cells slots : Nat} {Q : State → Prop} {cc : ByteArray} {nL : Nat} {own : String} {Ts : List Cond} {dC : Nat → ClassId} {dI : Nat → Nat → Nat} {ad : Nat → Nat} {cA : Nat → ClassId} {A : Nat → Prop} {M Kz : mm_M} {pr : Nat → Nat → Bool} {pc : Nat} {lv : List (Nat × Value)} {st : List Value}
theorem y_ialdF (C : jj_C p R s m args c cells slots cc nL own Ts dC dI ad cA A) {i : Nat} {x : Int} (ci n : Nat) (h : s_c i = ci) (h9 : Nat.ble 20 ci = true) (h8 : Nat.ble ci 899 = true) (hk : s_ak ci = 100) (hn : s_an ci = n) (hs : Nat.ble n 2147483647 = true) (d : decode cc pc = .ok (.iaload, 1)) (hx : 0 ≤ x ∧ x < n) (k : ∀ r : Int, r = (M.1 i x.toNat).toInt → -2147483648 ≤ r → r ≤ 2147483647 → jj p l e R s m args below meth c cells slots Q nL dC dI ad cA A M (pc + 1) lv (.int (sI r) :: st)) : jj p l e R s m args below meth c cells slots Q nL dC dI ad cA A M pc lv (.int (sI x) :: .ref (ad i) :: st) := by
  obtain ⟨e1, e2, e3⟩ := s_in hs hx
  exact x_iald C x.toNat n (sI (M.1 i x.toNat).toInt) (s_lt h h8) (s_ka h h9 h8 hk) e1 (s_kn h h9 h8 hn) e2 e3 (sI_o _).symm d (k _ rfl (sI_r _).1 (sI_r _).2)
theorem y_ialdH (C : jj_C p R s m args c cells slots cc nL own Ts dC dI ad cA A) {i : Nat} {x : Int} (ci n : Nat) (h : s_c i = ci) (h9 : Nat.ble 20 ci = true) (h8 : Nat.ble ci 899 = true) (hk : s_ak ci = 100) (hn : s_an ci = n) (hs : Nat.ble n 2147483647 = true) (lo hi : Int) (hM : INV pr Kz M) (hb : lo ≤ (s_b ci x.toNat).1 ∧ (s_b ci x.toNat).2 ≤ hi) (d : decode cc pc = .ok (.iaload, 1)) (hx : 0 ≤ x ∧ x < n) (k : ∀ r : Int, r = (M.1 i x.toNat).toInt → lo ≤ r → r ≤ hi → jj p l e R s m args below meth c cells slots Q nL dC dI ad cA A M (pc + 1) lv (.int (sI r) :: st)) : jj p l e R s m args below meth c cells slots Q nL dC dI ad cA A M pc lv (.int (sI x) :: .ref (ad i) :: st) := by
  obtain ⟨e1, e2, e3⟩ := s_in hs hx
  exact x_iald C x.toNat n (sI (M.1 i x.toNat).toInt) (s_lt h h8) (s_ka h h9 h8 hk) e1 (s_kn h h9 h8 hn) e2 e3 (sI_o _).symm d (k _ rfl (hM.rH h hb).1 (hM.rH h hb).2)
theorem y_ialdR (C : jj_C p R s m args c cells slots cc nL own Ts dC dI ad cA A) {i : Nat} {x : Int} (ci n : Nat) (h : s_c i = ci) (h9 : Nat.ble 20 ci = true) (h8 : Nat.ble ci 899 = true) (hk : s_ak ci = 100) (hn : s_an ci = n) (hs : Nat.ble n 2147483647 = true) (hM : INV pr Kz M) (d : decode cc pc = .ok (.iaload, 1)) (hx : 0 ≤ x ∧ x < n) (k : ∀ r : Int, r = (M.1 i x.toNat).toInt → -2147483648 ≤ r → r ≤ 2147483647 → (s_b ci x.toNat).1 ≤ r ∧ r ≤ (s_b ci x.toNat).2 → jj p l e R s m args below meth c cells slots Q nL dC dI ad cA A M (pc + 1) lv (.int (sI r) :: st)) : jj p l e R s m args below meth c cells slots Q nL dC dI ad cA A M pc lv (.int (sI x) :: .ref (ad i) :: st) := by
  obtain ⟨e1, e2, e3⟩ := s_in hs hx
  exact x_iald C x.toNat n (sI (M.1 i x.toNat).toInt) (s_lt h h8) (s_ka h h9 h8 hk) e1 (s_kn h h9 h8 hn) e2 e3 (sI_o _).symm d (k _ rfl (sI_r _).1 (sI_r _).2 (by have := hM.1.1 i x.toNat; rw [h] at this; exact this))
theorem y_iastR (C : jj_C p R s m args c cells slots cc nL own Ts dC dI ad cA A) {i : Nat} {x a : Int} (ci n : Nat) (h : s_c i = ci) (h9 : Nat.ble 20 ci = true) (h8 : Nat.ble ci 899 = true) (hk : s_ak ci = 100) (hn : s_an ci = n) (hs : Nat.ble n 2147483647 = true) (hM : INV pr Kz M) (hp : pr i x.toNat = false) (d : decode cc pc = .ok (.iastore, 1)) (hx : 0 ≤ x ∧ x < n) (hv : (-2147483648 ≤ a ∧ a ≤ 2147483647)) (hb : (s_b ci x.toNat).1 ≤ a ∧ a ≤ (s_b ci x.toNat).2) (k : ∀ M' : mm_M, M' = wI M i x.toNat (sI a) → INV pr Kz M' → jj p l e R s m args below meth c cells slots Q nL dC dI ad cA A M' (pc + 1) lv st) : jj p l e R s m args below meth c cells slots Q nL dC dI ad cA A M pc lv (.int (sI a) :: .int (sI x) :: .ref (ad i) :: st) := by
  obtain ⟨e1, e2, e3⟩ := s_in hs hx
  exact x_iast C x.toNat n (s_lt h h8) (s_ka h h9 h8 hk) e1 (s_kn h h9 h8 hn) e2 e3 d (k _ rfl (hM.wr (lo := (s_b ci x.toNat).1) (hi := (s_b ci x.toNat).2) h rfl (by rw [sI_t hv]; exact hb) hp))
theorem y_iastH (C : jj_C p R s m args c cells slots cc nL own Ts dC dI ad cA A) {i : Nat} {x a : Int} (ci n : Nat) (h : s_c i = ci) (h9 : Nat.ble 20 ci = true) (h8 : Nat.ble ci 899 = true) (hk : s_ak ci = 100) (hn : s_an ci = n) (hs : Nat.ble n 2147483647 = true) (lo hi : Int) (hM : INV pr Kz M) (hp : pr i x.toNat = false) (hb : (s_b ci x.toNat).1 ≤ lo ∧ hi ≤ (s_b ci x.toNat).2) (d : decode cc pc = .ok (.iastore, 1)) (hx : 0 ≤ x ∧ x < n) (hv : (-2147483648 ≤ a ∧ a ≤ 2147483647) ∧ lo ≤ a ∧ a ≤ hi) (k : ∀ M' : mm_M, M' = wI M i x.toNat (sI a) → INV pr Kz M' → jj p l e R s m args below meth c cells slots Q nL dC dI ad cA A M' (pc + 1) lv st) : jj p l e R s m args below meth c cells slots Q nL dC dI ad cA A M pc lv (.int (sI a) :: .int (sI x) :: .ref (ad i) :: st) := y_iastR C ci n h h9 h8 hk hn hs hM hp d hx hv.1 ⟨Int.le_trans hb.1 hv.2.1, Int.le_trans hv.2.2 hb.2⟩ k
def andI (a b : Int) : Int := (sI a &&& sI b).toInt
def orI (a b : Int) : Int := (sI a ||| sI b).toInt
def xorI (a b : Int) : Int := (sI a ^^^ sI b).toInt
def shlI (a b : Int) : Int := (sI a <<< (sI b &&& 31)).toInt
def shrI (a b : Int) : Int := (sI a >>> (sI b &&& 31)).toInt
def ushrI (a b : Int) : Int := (((sI a).toUInt32 >>> ((sI b).toUInt32 &&& Int32.toUInt32 31)).toInt32).toInt
def addI (a b : Int) : Int := (sI a + sI b).toInt
def subI (a b : Int) : Int := (sI a - sI b).toInt
def mulI (a b : Int) : Int := (sI a * sI b).toInt
def andJ (a b : Int) : Int := (sJ a &&& sJ b).toInt
def addJ (a b : Int) : Int := (sJ a + sJ b).toInt
def subJ (a b : Int) : Int := (sJ a - sJ b).toInt
def mulJ (a b : Int) : Int := (sJ a * sJ b).toInt
def divJ (a b : Int) : Int := (sJ a / sJ b).toInt
def remJ (a b : Int) : Int := (sJ a - sJ a / sJ b * sJ b).toInt
def shrJ (a b : Int) : Int := (sJ a >>> ((sI b).toInt64 &&& 63)).toInt
def pw2 (k : Int) : Int := 2 ^ k.toNat
theorem e_iand (C : jj_C p R s m args c cells slots cc nL own Ts dC dI ad cA A) {a b : Int} (d : decode cc pc = .ok (.iand, 1)) (k : -2147483648 ≤ andI a b → andI a b ≤ 2147483647 → jj p l e R s m args below meth c cells slots Q nL dC dI ad cA A M (pc + 1) lv (.int (sI (andI a b)) :: st)) : jj p l e R s m args below meth c cells slots Q nL dC dI ad cA A M pc lv (.int (sI b) :: .int (sI a) :: st) := z_iand C (sI (sI a &&& sI b).toInt) (sI_o _).symm d (k (sI_r _).1 (sI_r _).2)
theorem e_ior (C : jj_C p R s m args c cells slots cc nL own Ts dC dI ad cA A) {a b : Int} (d : decode cc pc = .ok (.ior, 1)) (k : -2147483648 ≤ orI a b → orI a b ≤ 2147483647 → jj p l e R s m args below meth c cells slots Q nL dC dI ad cA A M (pc + 1) lv (.int (sI (orI a b)) :: st)) : jj p l e R s m args below meth c cells slots Q nL dC dI ad cA A M pc lv (.int (sI b) :: .int (sI a) :: st) := z_ior C (sI (sI a ||| sI b).toInt) (sI_o _).symm d (k (sI_r _).1 (sI_r _).2)
theorem e_ixor (C : jj_C p R s m args c cells slots cc nL own Ts dC dI ad cA A) {a b : Int} (d : decode cc pc = .ok (.ixor, 1)) (k : -2147483648 ≤ xorI a b → xorI a b ≤ 2147483647 → jj p l e R s m args below meth c cells slots Q nL dC dI ad cA A M (pc + 1) lv (.int (sI (xorI a b)) :: st)) : jj p l e R s m args below meth c cells slots Q nL dC dI ad cA A M pc lv (.int (sI b) :: .int (sI a) :: st) := z_ixor C (sI (sI a ^^^ sI b).toInt) (sI_o _).symm d (k (sI_r _).1 (sI_r _).2)
theorem e_ishl (C : jj_C p R s m args c cells slots cc nL own Ts dC dI ad cA A) {a b : Int} (d : decode cc pc = .ok (.ishl, 1)) (k : -2147483648 ≤ shlI a b → shlI a b ≤ 2147483647 → jj p l e R s m args below meth c cells slots Q nL dC dI ad cA A M (pc + 1) lv (.int (sI (shlI a b)) :: st)) : jj p l e R s m args below meth c cells slots Q nL dC dI ad cA A M pc lv (.int (sI b) :: .int (sI a) :: st) := z_ishl C (sI (sI a <<< (sI b &&& 31)).toInt) (sI_o _).symm d (k (sI_r _).1 (sI_r _).2)
theorem e_ishr (C : jj_C p R s m args c cells slots cc nL own Ts dC dI ad cA A) {a b : Int} (d : decode cc pc = .ok (.ishr, 1)) (k : -2147483648 ≤ shrI a b → shrI a b ≤ 2147483647 → jj p l e R s m args below meth c cells slots Q nL dC dI ad cA A M (pc + 1) lv (.int (sI (shrI a b)) :: st)) : jj p l e R s m args below meth c cells slots Q nL dC dI ad cA A M pc lv (.int (sI b) :: .int (sI a) :: st) := z_ishr C (sI (sI a >>> (sI b &&& 31)).toInt) (sI_o _).symm d (k (sI_r _).1 (sI_r _).2)
theorem e_iushr (C : jj_C p R s m args c cells slots cc nL own Ts dC dI ad cA A) {a b : Int} (d : decode cc pc = .ok (.iushr, 1)) (k : -2147483648 ≤ ushrI a b → ushrI a b ≤ 2147483647 → jj p l e R s m args below meth c cells slots Q nL dC dI ad cA A M (pc + 1) lv (.int (sI (ushrI a b)) :: st)) : jj p l e R s m args below meth c cells slots Q nL dC dI ad cA A M pc lv (.int (sI b) :: .int (sI a) :: st) := z_iushr C (sI (((sI a).toUInt32 >>> ((sI b).toUInt32 &&& Int32.toUInt32 31)).toInt32).toInt) (sI_o _).symm d (k (sI_r _).1 (sI_r _).2)
theorem e_iadd (C : jj_C p R s m args c cells slots cc nL own Ts dC dI ad cA A) {a b : Int} (d : decode cc pc = .ok (.iadd, 1)) (k : -2147483648 ≤ addI a b → addI a b ≤ 2147483647 → jj p l e R s m args below meth c cells slots Q nL dC dI ad cA A M (pc + 1) lv (.int (sI (addI a b)) :: st)) : jj p l e R s m args below meth c cells slots Q nL dC dI ad cA A M pc lv (.int (sI b) :: .int (sI a) :: st) := z_iadd C (sI (sI a + sI b).toInt) (sI_o _).symm d (k (sI_r _).1 (sI_r _).2)
theorem e_isub (C : jj_C p R s m args c cells slots cc nL own Ts dC dI ad cA A) {a b : Int} (d : decode cc pc = .ok (.isub, 1)) (k : -2147483648 ≤ subI a b → subI a b ≤ 2147483647 → jj p l e R s m args below meth c cells slots Q nL dC dI ad cA A M (pc + 1) lv (.int (sI (subI a b)) :: st)) : jj p l e R s m args below meth c cells slots Q nL dC dI ad cA A M pc lv (.int (sI b) :: .int (sI a) :: st) := z_isub C (sI (sI a - sI b).toInt) (sI_o _).symm d (k (sI_r _).1 (sI_r _).2)
theorem e_imul (C : jj_C p R s m args c cells slots cc nL own Ts dC dI ad cA A) {a b : Int} (d : decode cc pc = .ok (.imul, 1)) (k : -2147483648 ≤ mulI a b → mulI a b ≤ 2147483647 → jj p l e R s m args below meth c cells slots Q nL dC dI ad cA A M (pc + 1) lv (.int (sI (mulI a b)) :: st)) : jj p l e R s m args below meth c cells slots Q nL dC dI ad cA A M pc lv (.int (sI b) :: .int (sI a) :: st) := z_imul C (sI (sI a * sI b).toInt) (sI_o _).symm d (k (sI_r _).1 (sI_r _).2)
theorem e_land (C : jj_C p R s m args c cells slots cc nL own Ts dC dI ad cA A) {a b : Int} (d : decode cc pc = .ok (.land, 1)) (k : -9223372036854775808 ≤ andJ a b → andJ a b ≤ 9223372036854775807 → jj p l e R s m args below meth c cells slots Q nL dC dI ad cA A M (pc + 1) lv (.long (sJ (andJ a b)) :: st)) : jj p l e R s m args below meth c cells slots Q nL dC dI ad cA A M pc lv (.long (sJ b) :: .long (sJ a) :: st) := z_land C (sJ (sJ a &&& sJ b).toInt) (sJ_o _).symm d (k (sJ_r _).1 (sJ_r _).2)
theorem e_ladd (C : jj_C p R s m args c cells slots cc nL own Ts dC dI ad cA A) {a b : Int} (d : decode cc pc = .ok (.ladd, 1)) (k : -9223372036854775808 ≤ addJ a b → addJ a b ≤ 9223372036854775807 → jj p l e R s m args below meth c cells slots Q nL dC dI ad cA A M (pc + 1) lv (.long (sJ (addJ a b)) :: st)) : jj p l e R s m args below meth c cells slots Q nL dC dI ad cA A M pc lv (.long (sJ b) :: .long (sJ a) :: st) := z_ladd C (sJ (sJ a + sJ b).toInt) (sJ_o _).symm d (k (sJ_r _).1 (sJ_r _).2)
theorem e_lsub (C : jj_C p R s m args c cells slots cc nL own Ts dC dI ad cA A) {a b : Int} (d : decode cc pc = .ok (.lsub, 1)) (k : -9223372036854775808 ≤ subJ a b → subJ a b ≤ 9223372036854775807 → jj p l e R s m args below meth c cells slots Q nL dC dI ad cA A M (pc + 1) lv (.long (sJ (subJ a b)) :: st)) : jj p l e R s m args below meth c cells slots Q nL dC dI ad cA A M pc lv (.long (sJ b) :: .long (sJ a) :: st) := z_lsub C (sJ (sJ a - sJ b).toInt) (sJ_o _).symm d (k (sJ_r _).1 (sJ_r _).2)
theorem e_lmul (C : jj_C p R s m args c cells slots cc nL own Ts dC dI ad cA A) {a b : Int} (d : decode cc pc = .ok (.lmul, 1)) (k : -9223372036854775808 ≤ mulJ a b → mulJ a b ≤ 9223372036854775807 → jj p l e R s m args below meth c cells slots Q nL dC dI ad cA A M (pc + 1) lv (.long (sJ (mulJ a b)) :: st)) : jj p l e R s m args below meth c cells slots Q nL dC dI ad cA A M pc lv (.long (sJ b) :: .long (sJ a) :: st) := z_lmul C (sJ (sJ a * sJ b).toInt) (sJ_o _).symm d (k (sJ_r _).1 (sJ_r _).2)
theorem e_lshr (C : jj_C p R s m args c cells slots cc nL own Ts dC dI ad cA A) {a b : Int} (d : decode cc pc = .ok (.lshr, 1)) (k : -9223372036854775808 ≤ shrJ a b → shrJ a b ≤ 9223372036854775807 → jj p l e R s m args below meth c cells slots Q nL dC dI ad cA A M (pc + 1) lv (.long (sJ (shrJ a b)) :: st)) : jj p l e R s m args below meth c cells slots Q nL dC dI ad cA A M pc lv (.int (sI b) :: .long (sJ a) :: st) := z_lshr C (sJ (sJ a >>> ((sI b).toInt64 &&& 63)).toInt) (sJ_o _).symm d (k (sJ_r _).1 (sJ_r _).2)
theorem e_iandR (C : jj_C p R s m args c cells slots cc nL own Ts dC dI ad cA A) {a b : Int} (d : decode cc pc = .ok (.iand, 1)) (h : 0 ≤ b ∧ b ≤ 2147483647) (k : 0 ≤ andI a b → andI a b ≤ b → jj p l e R s m args below meth c cells slots Q nL dC dI ad cA A M (pc + 1) lv (.int (sI (andI a b)) :: st)) : jj p l e R s m args below meth c cells slots Q nL dC dI ad cA A M pc lv (.int (sI b) :: .int (sI a) :: st) := by
  have q := sb_and (sI a) (sI b) (by rw [sI_t (by omega)]; exact h.1)
  rw [sI_t (a := b) (by omega)] at q
  exact z_iand C (sI (sI a &&& sI b).toInt) (sI_o _).symm d (k q.1 q.2)
theorem e_iandL (C : jj_C p R s m args c cells slots cc nL own Ts dC dI ad cA A) {a b : Int} (d : decode cc pc = .ok (.iand, 1)) (h : 0 ≤ a ∧ a ≤ 2147483647) (k : 0 ≤ andI a b → andI a b ≤ a → jj p l e R s m args below meth c cells slots Q nL dC dI ad cA A M (pc + 1) lv (.int (sI (andI a b)) :: st)) : jj p l e R s m args below meth c cells slots Q nL dC dI ad cA A M pc lv (.int (sI b) :: .int (sI a) :: st) := by
  have q := sb_andl (sI a) (sI b) (by rw [sI_t (by omega)]; exact h.1)
  rw [sI_t (a := a) (by omega)] at q
  exact z_iand C (sI (sI a &&& sI b).toInt) (sI_o _).symm d (k q.1 q.2)
theorem e_iorN (C : jj_C p R s m args c cells slots cc nL own Ts dC dI ad cA A) {a b : Int} (n : Nat) (N : Int) (d : decode cc pc = .ok (.ior, 1)) (hn : Nat.ble n 30 = true) (hN : (2 : Int) ^ n = N + 1) (h : 0 ≤ a ∧ a ≤ N ∧ 0 ≤ b ∧ b ≤ N) (k : 0 ≤ orI a b → orI a b ≤ N → a ≤ orI a b ∧ b ≤ orI a b → jj p l e R s m args below meth c cells slots Q nL dC dI ad cA A M (pc + 1) lv (.int (sI (orI a b)) :: st)) : jj p l e R s m args below meth c cells slots Q nL dC dI ad cA A M pc lv (.int (sI b) :: .int (sI a) :: st) := by
  have hb := Nat.le_of_ble_eq_true hn
  have hp : (2 : Int) ^ n ≤ 2 ^ 30 := by exact_mod_cast Nat.pow_le_pow_right (show 0 < 2 by decide) hb
  have e2 : (2 : Int) ^ 30 = 1073741824 := by decide
  have q := sb_or (x := sI a) (y := sI b) n (by omega) (by rw [sI_t (by omega)]; omega) (by rw [sI_t (by omega)]; omega)
  have q2 := sb_orl (x := sI a) (y := sI b) (by rw [sI_t (by omega)]; omega) (by rw [sI_t (by omega)]; omega)
  rw [sI_t (a := a) (by omega), sI_t (a := b) (by omega)] at q2
  exact z_ior C (sI (sI a ||| sI b).toInt) (sI_o _).symm d (k q.1 (show (sI a ||| sI b).toInt ≤ N by omega) q2)
theorem e_ixorN (C : jj_C p R s m args c cells slots cc nL own Ts dC dI ad cA A) {a b : Int} (n : Nat) (N : Int) (d : decode cc pc = .ok (.ixor, 1)) (hn : Nat.ble n 30 = true) (hN : (2 : Int) ^ n = N + 1) (h : 0 ≤ a ∧ a ≤ N ∧ 0 ≤ b ∧ b ≤ N) (k : 0 ≤ xorI a b → xorI a b ≤ N → jj p l e R s m args below meth c cells slots Q nL dC dI ad cA A M (pc + 1) lv (.int (sI (xorI a b)) :: st)) : jj p l e R s m args below meth c cells slots Q nL dC dI ad cA A M pc lv (.int (sI b) :: .int (sI a) :: st) := by
  have hb := Nat.le_of_ble_eq_true hn
  have hp : (2 : Int) ^ n ≤ 2 ^ 30 := by exact_mod_cast Nat.pow_le_pow_right (show 0 < 2 by decide) hb
  have e2 : (2 : Int) ^ 30 = 1073741824 := by decide
  have q := sb_xor (x := sI a) (y := sI b) n (by omega) (by rw [sI_t (by omega)]; omega) (by rw [sI_t (by omega)]; omega)
  exact z_ixor C (sI (sI a ^^^ sI b).toInt) (sI_o _).symm d (k q.1 (show (sI a ^^^ sI b).toInt ≤ N by omega))
theorem e_shl1 (C : jj_C p R s m args c cells slots cc nL own Ts dC dI ad cA A) {a : Int} (n : Nat) (N : Int) (d : decode cc pc = .ok (.ishl, 1)) (hn : Nat.ble n 30 = true) (hN : (2 : Int) ^ n = N) (h : 0 ≤ a ∧ a ≤ n) (k : 1 ≤ pw2 a → pw2 a ≤ N → jj p l e R s m args below meth c cells slots Q nL dC dI ad cA A M (pc + 1) lv (.int (sI (pw2 a)) :: st)) : jj p l e R s m args below meth c cells slots Q nL dC dI ad cA A M pc lv (.int (sI a) :: .int (sI 1) :: st) := by
  have hb := Nat.le_of_ble_eq_true hn
  have q := sb_shl2 n h
  exact z_ishl C (sI (2 ^ a.toNat)) (sb_shl (by omega)) d (k q.1 (by rw [← hN]; exact q.2))
theorem e_ishrP (C : jj_C p R s m args c cells slots cc nL own Ts dC dI ad cA A) {a b : Int} (d : decode cc pc = .ok (.ishr, 1)) (h : 0 ≤ a ∧ a ≤ 2147483647) (k : 0 ≤ shrI a b → shrI a b ≤ a → jj p l e R s m args below meth c cells slots Q nL dC dI ad cA A M (pc + 1) lv (.int (sI (shrI a b)) :: st)) : jj p l e R s m args below meth c cells slots Q nL dC dI ad cA A M pc lv (.int (sI b) :: .int (sI a) :: st) := by
  have q := sb_shr (x := sI a) (y := sI b &&& 31) (by rw [sI_t (by omega)]; exact h.1)
  rw [sI_t (a := a) (by omega)] at q
  exact z_ishr C (sI (sI a >>> (sI b &&& 31)).toInt) (sI_o _).symm d (k q.1 q.2)
theorem e_iushr16 (C : jj_C p R s m args c cells slots cc nL own Ts dC dI ad cA A) {a : Int} (d : decode cc pc = .ok (.iushr, 1)) (k : 0 ≤ ushrI a 16 → ushrI a 16 ≤ 65535 → jj p l e R s m args below meth c cells slots Q nL dC dI ad cA A M (pc + 1) lv (.int (sI (ushrI a 16)) :: st)) : jj p l e R s m args below meth c cells slots Q nL dC dI ad cA A M pc lv (.int (sI 16) :: .int (sI a) :: st) := z_iushr C (sI _) (sI_o _).symm d (k (sb_ushr (sI a)).1 (sb_ushr (sI a)).2)
theorem y_lmulP (C : jj_C p R s m args c cells slots cc nL own Ts dC dI ad cA A) {a b : Int} (r : Int) (d : decode cc pc = .ok (.lmul, 1)) (hr : a * b = r) (k : jj p l e R s m args below meth c cells slots Q nL dC dI ad cA A M (pc + 1) lv (.long (sJ r) :: st)) : jj p l e R s m args below meth c cells slots Q nL dC dI ad cA A M pc lv (.long (sJ b) :: .long (sJ a) :: st) := z_lmul C _ (by rw [sJ_mul, hr]) d k
theorem sJ_tdiv {a b : Int} (ha : -9223372036854775808 ≤ a ∧ a ≤ 9223372036854775807) (hb : -9223372036854775808 ≤ b ∧ b ≤ 9223372036854775807) : sJ a / sJ b = sJ (a.tdiv b) := by
  apply Int64.toInt_inj.mp
  rw [Int64.toInt_div, sJ_t ha, sJ_t hb]
  exact (Int64.toInt_ofInt).symm
theorem sJ_remA {a b : Int} (ha : -9223372036854775808 ≤ a ∧ a ≤ 9223372036854775807) (hb : -9223372036854775808 ≤ b ∧ b ≤ 9223372036854775807) : sJ a - sJ a / sJ b * sJ b = sJ (a.tmod b) := by
  rw [sJ_tdiv ha hb, sJ_mul, sJ_sub, Int.tmod_def, Int.mul_comm b]
theorem tmodA (a b : Int) (h0 : ¬ b = 0) : (a.tmod b).natAbs < b.natAbs ∧ (b.natAbs ≤ a.natAbs → (a.tmod b).natAbs + b.natAbs ≤ a.natAbs) := by
  rw [Int.natAbs_tmod]
  have hb : 0 < b.natAbs := by omega
  have h1 := Nat.mod_lt a.natAbs hb
  refine ⟨h1, fun h => ?_⟩
  have h2 := Nat.div_add_mod a.natAbs b.natAbs
  have h3 : 1 ≤ a.natAbs / b.natAbs := (Nat.one_le_div_iff hb).mpr h
  have h4 : b.natAbs * 1 ≤ b.natAbs * (a.natAbs / b.natAbs) := Nat.mul_le_mul_left _ h3
  omega
theorem y_lremA (C : jj_C p R s m args c cells slots cc nL own Ts dC dI ad cA A) {a b : Int} (d : decode cc pc = .ok (.lrem, 1)) (h : (-9223372036854775808 ≤ a ∧ a ≤ 9223372036854775807) ∧ (-9223372036854775808 ≤ b ∧ b ≤ 9223372036854775807) ∧ ¬ b = 0) (k : ∀ r : Int, -9223372036854775808 ≤ r → r ≤ 9223372036854775807 → (r.natAbs < b.natAbs ∧ (b.natAbs ≤ a.natAbs → r.natAbs + b.natAbs ≤ a.natAbs)) → jj p l e R s m args below meth c cells slots Q nL dC dI ad cA A M (pc + 1) lv (.long (sJ r) :: st)) : jj p l e R s m args below meth c cells slots Q nL dC dI ad cA A M pc lv (.long (sJ b) :: .long (sJ a) :: st) := by
  have q := tmodA a b h.2.2
  exact z_lrem C _ (sJ_remA h.1 h.2.1) (sJ_ne h.2.1 h.2.2) d (k _ (by omega) (by omega) q)
end ER
end
section
theorem h_ck2 : yJ0_checkIndex_df160.cls ≠ "java/lang/invoke/MethodHandle" ∧ yJ0_checkIndex_df160.cls ≠ "java/lang/invoke/VarHandle" ∧ (parseMethodDescriptor yJ0_checkIndex_df160.desc).map (fun d => d.parameters.length) = some 2 := by decide +kernel
theorem js_all : ∀ i, i < 4 → js_len i = (js_byt i).length ∧ js_len i < 1000 ∧ ∀ b ∈ js_byt i, ((b &&& 255).toUInt32 % 65536).toInt32 = b ∧ 0 ≤ b.toInt ∧ b.toInt ≤ 127 ∧ narrow .char (.int b) = .int b := by decide +kernel
theorem js_at {i k : Nat} (hi : i < 4) (hk : k < js_len i) : (js_byt i).getD k 0 ∈ js_byt i := by
  have h := (js_all i hi).1
  rw [List.getD_eq_getElem?_getD, List.getElem?_eq_getElem (by omega)]
  exact List.getElem_mem _
theorem js_sp1 : ∀ k, k < 119 → (js_byt 1).getD k 0 = 32 ∨ k + 1 < 119 := by decide +kernel
theorem js_sp2 : ∀ k, k < 88 → (js_byt 2).getD k 0 = 32 ∨ k + 1 < 88 := by decide +kernel
section YS
variable {p : Program} {l : Launch} {e : Env} {R : Room} {s : State} {m : MethodId} {args : Array Value} {below : List Frame} {meth : Method} {c : Code} {cells slots : Nat} {Q : State → Prop} {cc : ByteArray} {nL : Nat} {own : String} {Ts : List Cond} {dC : Nat → ClassId} {dI : Nat → Nat → Nat} {ad : Nat → Nat} {cA : Nat → ClassId} {A : Nat → Prop} {M : mm_M} {pc : Nat} {lv : List (Nat × Value)} {st : List Value}
theorem j_ldcS (C : jj_C p R s m args c cells slots cc nL own Ts dC dI ad cA A) {index : Nat} (i : Nat) (hi : i < 4) (ho : js_own i = own) (hx : js_ix i = index) (d : decode cc pc = .ok (.ldc index, 2)) (k : jj p l e R s m args below meth c cells slots Q nL dC dI ad cA A M (pc + 2) lv (.ref (dI 1000 i) :: st)) : jj p l e R s m args below meth c cells slots Q nL dC dI ad cA A M pc lv st := by
  subst ho; subst hx
  exact fun H locs ls hP hS hl => va_ldcS C.1.1 C.1.2.1 C.1.2.2.2.1 (C.2.2.2.2.2.2.2.1 i hi).2 d (k H locs ls hP hS hl)
theorem j_getsC (C : jj_C p R s m args c cells slots cc nL own Ts dC dI ad cA A) {index : Nat} (hw : Cond.fieldLink own index "java/lang/String" "COMPACT_STRINGS" "Z" ∈ Ts) (d : decode cc pc = .ok (.getstatic index, 3)) (k : jj p l e R s m args below meth c cells slots Q nL dC dI ad cA A M (pc + 3) lv (.int (sI 1) :: st)) : jj p l e R s m args below meth c cells slots Q nL dC dI ad cA A M pc lv st :=
  fun H locs ls hP hS hl => va_gets C.1.1 C.1.2.1 C.2.2.2.2.2.2.2.2.1 hS C.1.2.2.2.1 (C.1.2.2.2.2 _ hw) (fun _ q => q) d (k H locs ls hP hS hl)
theorem j_getsF (C : jj_C p R s m args c cells slots cc nL own Ts dC dI ad cA A) {index : Nat} (hw : Cond.fieldLink own index "jdk/internal/util/Preconditions" "SIOOBE_FORMATTER" "Ljava/util/function/BiFunction;" ∈ Ts) (d : decode cc pc = .ok (.getstatic index, 3)) (k1 : jj p l e R s m args below meth c cells slots Q nL dC dI ad cA A M (pc + 3) lv (.null :: st)) (k2 : ∀ t : Nat, jj p l e R s m args below meth c cells slots Q nL dC dI ad cA A M (pc + 3) lv (.ref t :: st)) : jj p l e R s m args below meth c cells slots Q nL dC dI ad cA A M pc lv st := by
  intro H locs ls hP hS hl
  rcases C.2.2.2.2.2.2.2.2.2 with h | ⟨t, h⟩
  · exact va_gets C.1.1 C.1.2.1 h hS C.1.2.2.2.1 (C.1.2.2.2.2 _ hw) (fun _ q => q) d (k1 H locs ls hP hS hl)
  · exact va_gets C.1.1 C.1.2.1 h hS C.1.2.2.2.1 (C.1.2.2.2.2 _ hw) (fun _ q => q) d (k2 t H locs ls hP hS hl)
theorem j_strV (C : jj_C p R s m args c cells slots cc nL own Ts dC dI ad cA A) {index i : Nat} (hi : i < 4) (hw : Cond.fieldLink own index "java/lang/String" "value" "[B" ∈ Ts) (d : decode cc pc = .ok (.getfield index, 3)) (k : jj p l e R s m args below meth c cells slots Q nL dC dI ad cA A M (pc + 3) lv (.ref (dI 1001 i) :: st)) : jj p l e R s m args below meth c cells slots Q nL dC dI ad cA A M pc lv (.ref (dI 1000 i) :: st) :=
  fun H locs ls hP hS hl => vk_getf C.1.1 C.1.2.1 ((C.2.2.2.2.2.2.2.1 i hi).1.1 0 (by decide)).2.2.1 hS C.1.2.2.2.1 (C.1.2.2.2.2 _ hw) (fun _ q => q) d (k H locs ls hP hS hl)
theorem j_strC (C : jj_C p R s m args c cells slots cc nL own Ts dC dI ad cA A) {index i : Nat} (hi : i < 4) (hw : Cond.fieldLink own index "java/lang/String" "coder" "B" ∈ Ts) (d : decode cc pc = .ok (.getfield index, 3)) (k : jj p l e R s m args below meth c cells slots Q nL dC dI ad cA A M (pc + 3) lv (.int (sI 0) :: st)) : jj p l e R s m args below meth c cells slots Q nL dC dI ad cA A M pc lv (.ref (dI 1000 i) :: st) :=
  fun H locs ls hP hS hl => vk_getf C.1.1 C.1.2.1 ((C.2.2.2.2.2.2.2.1 i hi).1.1 0 (by decide)).2.1 hS C.1.2.2.2.1 (C.1.2.2.2.2 _ hw) (fun _ q => q) d (k H locs ls hP hS hl)
theorem j_strL (C : jj_C p R s m args c cells slots cc nL own Ts dC dI ad cA A) {i : Nat} (n : Nat) (hi : i < 4) (hn : js_len i = n) (d : decode cc pc = .ok (.arraylength, 1)) (k : jj p l e R s m args below meth c cells slots Q nL dC dI ad cA A M (pc + 1) lv (.int (sI n) :: st)) : jj p l e R s m args below meth c cells slots Q nL dC dI ad cA A M pc lv (.ref (dI 1001 i) :: st) := by
  subst hn
  exact fun H locs ls hP hS hl => va_tlen C.1.1 C.1.2.1 ((C.2.2.2.2.2.2.2.1 i hi).1.1 0 (by decide)).2.2.2 hS rfl d (k H locs ls hP hS hl)
theorem j_strB (C : jj_C p R s m args c cells slots cc nL own Ts dC dI ad cA A) {i : Nat} {x : Int} (n : Nat) (hi : i < 4) (hn : js_len i = n) (d : decode cc pc = .ok (.baload, 1)) (hx : 0 ≤ x ∧ x < n) (k : jj p l e R s m args below meth c cells slots Q nL dC dI ad cA A M (pc + 1) lv (.int ((js_byt i).getD x.toNat 0) :: st)) : jj p l e R s m args below meth c cells slots Q nL dC dI ad cA A M pc lv (.int (sI x) :: .ref (dI 1001 i) :: st) := by
  have h := (js_all i hi).2.1
  subst hn
  have e := s_in (x := x) (n := js_len i) (Nat.ble_eq_true_of_le (by omega)) hx
  rw [e.1]
  exact fun H locs ls hP hS hl => va_tb C.1.1 C.1.2.1 ((C.2.2.2.2.2.2.2.1 i hi).1.1 0 (by decide)).2.2.2 hS (vp_in_nI e.2.1 e.2.2) (by rw [nI_clamp (by omega)]; rfl) d (k H locs ls hP hS hl)
theorem j_strR (C : jj_C p R s m args c cells slots cc nL own Ts dC dI ad cA A) {i : Nat} {x : Int} (n : Nat) (hi : i < 4) (hn : js_len i = n) (d : decode cc pc = .ok (.baload, 1)) (hx : 0 ≤ x ∧ x < n) (k : ∀ r : Int, 0 ≤ r → r ≤ 127 → jj p l e R s m args below meth c cells slots Q nL dC dI ad cA A M (pc + 1) lv (.int (sI r) :: st)) : jj p l e R s m args below meth c cells slots Q nL dC dI ad cA A M pc lv (.int (sI x) :: .ref (dI 1001 i) :: st) := by
  have h := (js_all i hi).2.2 _ (js_at (k := x.toNat) hi (by omega))
  refine j_strB C n hi hn d hx ?_
  rw [← sI_o ((js_byt i).getD x.toNat 0)]
  exact k _ h.2.1 h.2.2.1
theorem j_strE (C : jj_C p R s m args c cells slots cc nL own Ts dC dI ad cA A) {i : Nat} {x : Int} (n : Nat) (hi : i < 4) (hn : js_len i = n) (d : decode cc pc = .ok (.baload, 1)) (hx : 0 ≤ x ∧ x < n) (k : ∀ r : Int, r = ((js_byt i).getD x.toNat 0).toInt → 0 ≤ r → r ≤ 127 → jj p l e R s m args below meth c cells slots Q nL dC dI ad cA A M (pc + 1) lv (.int (sI r) :: st)) : jj p l e R s m args below meth c cells slots Q nL dC dI ad cA A M pc lv (.int (sI x) :: .ref (dI 1001 i) :: st) := by
  have h := (js_all i hi).2.2 _ (js_at (k := x.toNat) hi (by omega))
  refine j_strB C n hi hn d hx ?_
  rw [← sI_o ((js_byt i).getD x.toNat 0)]
  exact k _ rfl h.2.1 h.2.2.1
variable {d : Nat} {y : MethodName} {ws ws' : List Cond} {bytes : ByteArray} {maxL index : Nat} {ret : Option FieldType} {As : List Value}
theorem j_callSS (C : jj_C p R s m args c cells slots cc nL own Ts dC dI ad cA A) {post : Int32 → mm_M → Prop} (i : Nat) (hi : i < 4) (hM : Ci l d y ws dC dI ad cA (.ref (dI 1000 i) :: As) M post) (g : GoodIn Ts (wsV own index RJ0 y ws)) (hw : ws = Cond.code y bytes maxL ret :: ws') (hd : y.cls = RJ0 ∧ y.cls ≠ "java/lang/invoke/MethodHandle" ∧ y.cls ≠ "java/lang/invoke/VarHandle" ∧ (parseMethodDescriptor y.desc).map (fun d => d.parameters.length) = some As.length) (hR : d + 1 ≤ R.frames ∧ 8 + (maxL + 11) + 40 * d ≤ R.locals) (hr : (st.map fun v => v.category).sum ≤ 8) (hdg : decode cc pc = .ok (.invokevirtual index, 3)) {st0 : List Value} (hst : st0 = As.reverse ++ .ref (dI 1000 i) :: st) (kk : ∀ (r : Int32) (M' : mm_M), post r M' → jj p l e R s m args below meth c cells slots Q nL dC dI ad cA A M' (pc + 3) lv (.int r :: st)) : jj p l e R s m args below meth c cells slots Q nL dC dI ad cA A M pc lv st0 := by
  intro H locs ls hP hS hl
  subst hst
  have hrec := vk_recv (i := 0) (C.2.2.2.2.2.2.2.1 i hi).1 (by decide) hS
  exact va_calli (va_runV (As := As) (rest := st) C.1 (hM H.size) (cwV As.length C.1.2.2.2.2 g hw rfl rfl hd hR) ⟨cn_blind, hrec, fun U hU hW => ⟨rfl, j_pre C hP hS U hU hW⟩⟩ rfl rfl hl.1 rfl (lv_room hr) hdg ⟨C.2.2.2.2.2.1, C.2.2.2.2.2.2.1⟩) hS (fun q _ h => j_A C hS q h) (j_A C hS) (fun r u t H1 locs1 ht hvm hw1 hB hz1 hk1 hS1 => kk r u hw1 H1 locs1 ls (j_kP C ht hB) hS1 hl)
end YS
set_option maxHeartbeats 4000000 in
/-- StringLatin1.charAt at the bytes of a constant -/
theorem h_J1_charAt_0 {l : Launch} {dC : Nat → ClassId} {dI : Nat → Nat → Nat} {ad : Nat → Nat} {cA : Nat → ClassId} {M0 : mm_M} (hck : ∀ (a b : Int), 0 ≤ a ∧ a < b ∧ b ≤ 2147483647 → Cv l 1 yJ0_checkIndex_df160 wsJ0_checkIndex_df160 dC dI ad cA [.int (sI a), .int (sI b)] M0 (fun M' => M0 = M')) (x : Int) (hx : 0 ≤ x ∧ x < 12) : Ci l 2 yJ1_charAt_3b067 wsJ1_charAt_3b067 dC dI ad cA [.ref (dI 1001 0), .int (sI x)] M0 (fun r M' => ∃ a : Int, r = sI a ∧ M0 = M' ∧ 0 ≤ a ∧ a ≤ 127 ∧ a = ((js_byt 0).getD x.toNat 0).toInt) := by
  have hb := (js_all 0 (by decide)).2.2 _ (js_at (k := x.toNat) (by decide) (show x.toNat < 12 by omega))
  refine ci_of (cc := cJ1_charAt_3b067) (maxL := 2) (ty := .char) (lv := [(0, .ref (dI 1001 0)), (1, .int (sI x))]) (by decide) rfl (fun r M' hp => by obtain ⟨a, rfl, -, -, -, h⟩ := hp; rw [h, sI_o]; exact hb.2.2.2) (Nat.le_of_ble_eq_true rfl) rfl ?_
  intro p e s m args below meth c A Q C hret
  refine j_iload_n C 1 1 dJ1_charAt_3b067_0 rfl rfl ?_
  refine j_aload_n C 0 0 dJ1_charAt_3b067_1 rfl rfl ?_
  refine j_strL C 12 (by decide) rfl dJ1_charAt_3b067_2 ?_
  refine j_callSv C (d := 1) (As := [.int (sI x), .int (sI 12)]) (st := []) (hck x 12 (by omega)) gJ1_charAt_3b067_J0_checkIndex_df160 rfl h_ck2 (by decide) (Nat.le_of_ble_eq_true rfl) dJ1_charAt_3b067_3 rfl (fun M1 hp => ?_)
  obtain rfl := hp
  refine j_aload_n C 0 0 dJ1_charAt_3b067_6 rfl rfl ?_
  refine j_iload_n C 1 1 dJ1_charAt_3b067_7 rfl rfl ?_
  refine j_strB C 12 (by decide) rfl dJ1_charAt_3b067_8 hx ?_
  refine j_sipush C 255 dJ1_charAt_3b067_9 (by decide) ?_
  refine j_iand C dJ1_charAt_3b067_12 ?_
  refine z_i2c C _ hb.1 dJ1_charAt_3b067_13 ?_
  exact hret _ _ _ _ dJ1_charAt_3b067_14 ⟨_, (sI_o _).symm, rfl, hb.2.1, hb.2.2.1, rfl⟩

set_option maxHeartbeats 4000000 in
/-- StringLatin1.charAt at the bytes of a constant -/
theorem h_J1_charAt_1 {l : Launch} {dC : Nat → ClassId} {dI : Nat → Nat → Nat} {ad : Nat → Nat} {cA : Nat → ClassId} {M0 : mm_M} (hck : ∀ (a b : Int), 0 ≤ a ∧ a < b ∧ b ≤ 2147483647 → Cv l 1 yJ0_checkIndex_df160 wsJ0_checkIndex_df160 dC dI ad cA [.int (sI a), .int (sI b)] M0 (fun M' => M0 = M')) (x : Int) (hx : 0 ≤ x ∧ x < 119) : Ci l 2 yJ1_charAt_3b067 wsJ1_charAt_3b067 dC dI ad cA [.ref (dI 1001 1), .int (sI x)] M0 (fun r M' => ∃ a : Int, r = sI a ∧ M0 = M' ∧ 0 ≤ a ∧ a ≤ 127 ∧ a = ((js_byt 1).getD x.toNat 0).toInt ∧ (a = 32 ∨ x + 1 < 119)) := by
  have hb := (js_all 1 (by decide)).2.2 _ (js_at (k := x.toNat) (by decide) (show x.toNat < 119 by omega))
  refine ci_of (cc := cJ1_charAt_3b067) (maxL := 2) (ty := .char) (lv := [(0, .ref (dI 1001 1)), (1, .int (sI x))]) (by decide) rfl (fun r M' hp => by obtain ⟨a, rfl, -, -, -, h⟩ := hp; obtain ⟨h, -⟩ := h; rw [h, sI_o]; exact hb.2.2.2) (Nat.le_of_ble_eq_true rfl) rfl ?_
  intro p e s m args below meth c A Q C hret
  refine j_iload_n C 1 1 dJ1_charAt_3b067_0 rfl rfl ?_
  refine j_aload_n C 0 0 dJ1_charAt_3b067_1 rfl rfl ?_
  refine j_strL C 119 (by decide) rfl dJ1_charAt_3b067_2 ?_
  refine j_callSv C (d := 1) (As := [.int (sI x), .int (sI 119)]) (st := []) (hck x 119 (by omega)) gJ1_charAt_3b067_J0_checkIndex_df160 rfl h_ck2 (by decide) (Nat.le_of_ble_eq_true rfl) dJ1_charAt_3b067_3 rfl (fun M1 hp => ?_)
  obtain rfl := hp
  refine j_aload_n C 0 0 dJ1_charAt_3b067_6 rfl rfl ?_
  refine j_iload_n C 1 1 dJ1_charAt_3b067_7 rfl rfl ?_
  refine j_strB C 119 (by decide) rfl dJ1_charAt_3b067_8 hx ?_
  refine j_sipush C 255 dJ1_charAt_3b067_9 (by decide) ?_
  refine j_iand C dJ1_charAt_3b067_12 ?_
  refine z_i2c C _ hb.1 dJ1_charAt_3b067_13 ?_
  exact hret _ _ _ _ dJ1_charAt_3b067_14 ⟨_, (sI_o _).symm, rfl, hb.2.1, hb.2.2.1, rfl, (js_sp1 x.toNat (by omega)).elim (fun q => Or.inl (by rw [q]; rfl)) (fun q => Or.inr (by omega))⟩

set_option maxHeartbeats 4000000 in
/-- StringLatin1.charAt at the bytes of a constant -/
theorem h_J1_charAt_2 {l : Launch} {dC : Nat → ClassId} {dI : Nat → Nat → Nat} {ad : Nat → Nat} {cA : Nat → ClassId} {M0 : mm_M} (hck : ∀ (a b : Int), 0 ≤ a ∧ a < b ∧ b ≤ 2147483647 → Cv l 1 yJ0_checkIndex_df160 wsJ0_checkIndex_df160 dC dI ad cA [.int (sI a), .int (sI b)] M0 (fun M' => M0 = M')) (x : Int) (hx : 0 ≤ x ∧ x < 88) : Ci l 2 yJ1_charAt_3b067 wsJ1_charAt_3b067 dC dI ad cA [.ref (dI 1001 2), .int (sI x)] M0 (fun r M' => ∃ a : Int, r = sI a ∧ M0 = M' ∧ 0 ≤ a ∧ a ≤ 127 ∧ a = ((js_byt 2).getD x.toNat 0).toInt ∧ (a = 32 ∨ x + 1 < 88)) := by
  have hb := (js_all 2 (by decide)).2.2 _ (js_at (k := x.toNat) (by decide) (show x.toNat < 88 by omega))
  refine ci_of (cc := cJ1_charAt_3b067) (maxL := 2) (ty := .char) (lv := [(0, .ref (dI 1001 2)), (1, .int (sI x))]) (by decide) rfl (fun r M' hp => by obtain ⟨a, rfl, -, -, -, h⟩ := hp; obtain ⟨h, -⟩ := h; rw [h, sI_o]; exact hb.2.2.2) (Nat.le_of_ble_eq_true rfl) rfl ?_
  intro p e s m args below meth c A Q C hret
  refine j_iload_n C 1 1 dJ1_charAt_3b067_0 rfl rfl ?_
  refine j_aload_n C 0 0 dJ1_charAt_3b067_1 rfl rfl ?_
  refine j_strL C 88 (by decide) rfl dJ1_charAt_3b067_2 ?_
  refine j_callSv C (d := 1) (As := [.int (sI x), .int (sI 88)]) (st := []) (hck x 88 (by omega)) gJ1_charAt_3b067_J0_checkIndex_df160 rfl h_ck2 (by decide) (Nat.le_of_ble_eq_true rfl) dJ1_charAt_3b067_3 rfl (fun M1 hp => ?_)
  obtain rfl := hp
  refine j_aload_n C 0 0 dJ1_charAt_3b067_6 rfl rfl ?_
  refine j_iload_n C 1 1 dJ1_charAt_3b067_7 rfl rfl ?_
  refine j_strB C 88 (by decide) rfl dJ1_charAt_3b067_8 hx ?_
  refine j_sipush C 255 dJ1_charAt_3b067_9 (by decide) ?_
  refine j_iand C dJ1_charAt_3b067_12 ?_
  refine z_i2c C _ hb.1 dJ1_charAt_3b067_13 ?_
  exact hret _ _ _ _ dJ1_charAt_3b067_14 ⟨_, (sI_o _).symm, rfl, hb.2.1, hb.2.2.1, rfl, (js_sp2 x.toNat (by omega)).elim (fun q => Or.inl (by rw [q]; rfl)) (fun q => Or.inr (by omega))⟩

set_option maxHeartbeats 4000000 in
/-- StringLatin1.charAt at the bytes of a constant -/
theorem h_J1_charAt_3 {l : Launch} {dC : Nat → ClassId} {dI : Nat → Nat → Nat} {ad : Nat → Nat} {cA : Nat → ClassId} {M0 : mm_M} (hck : ∀ (a b : Int), 0 ≤ a ∧ a < b ∧ b ≤ 2147483647 → Cv l 1 yJ0_checkIndex_df160 wsJ0_checkIndex_df160 dC dI ad cA [.int (sI a), .int (sI b)] M0 (fun M' => M0 = M')) (x : Int) (hx : 0 ≤ x ∧ x < 12) : Ci l 2 yJ1_charAt_3b067 wsJ1_charAt_3b067 dC dI ad cA [.ref (dI 1001 3), .int (sI x)] M0 (fun r M' => ∃ a : Int, r = sI a ∧ M0 = M' ∧ 0 ≤ a ∧ a ≤ 127 ∧ a = ((js_byt 3).getD x.toNat 0).toInt) := by
  have hb := (js_all 3 (by decide)).2.2 _ (js_at (k := x.toNat) (by decide) (show x.toNat < 12 by omega))
  refine ci_of (cc := cJ1_charAt_3b067) (maxL := 2) (ty := .char) (lv := [(0, .ref (dI 1001 3)), (1, .int (sI x))]) (by decide) rfl (fun r M' hp => by obtain ⟨a, rfl, -, -, -, h⟩ := hp; rw [h, sI_o]; exact hb.2.2.2) (Nat.le_of_ble_eq_true rfl) rfl ?_
  intro p e s m args below meth c A Q C hret
  refine j_iload_n C 1 1 dJ1_charAt_3b067_0 rfl rfl ?_
  refine j_aload_n C 0 0 dJ1_charAt_3b067_1 rfl rfl ?_
  refine j_strL C 12 (by decide) rfl dJ1_charAt_3b067_2 ?_
  refine j_callSv C (d := 1) (As := [.int (sI x), .int (sI 12)]) (st := []) (hck x 12 (by omega)) gJ1_charAt_3b067_J0_checkIndex_df160 rfl h_ck2 (by decide) (Nat.le_of_ble_eq_true rfl) dJ1_charAt_3b067_3 rfl (fun M1 hp => ?_)
  obtain rfl := hp
  refine j_aload_n C 0 0 dJ1_charAt_3b067_6 rfl rfl ?_
  refine j_iload_n C 1 1 dJ1_charAt_3b067_7 rfl rfl ?_
  refine j_strB C 12 (by decide) rfl dJ1_charAt_3b067_8 hx ?_
  refine j_sipush C 255 dJ1_charAt_3b067_9 (by decide) ?_
  refine j_iand C dJ1_charAt_3b067_12 ?_
  refine z_i2c C _ hb.1 dJ1_charAt_3b067_13 ?_
  exact hret _ _ _ _ dJ1_charAt_3b067_14 ⟨_, (sI_o _).symm, rfl, hb.2.1, hb.2.2.1, rfl⟩
end
