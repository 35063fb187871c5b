/-! SAFETY ROWS: ints as integers (sI a is the int of a), a typed memory -/
def sI (a : Int) : Int32 := Int32.ofInt a
def sJ (a : Int) : Int64 := Int64.ofInt a
theorem sI_t {a : Int} (h : -2147483648 ≤ a ∧ a ≤ 2147483647) : (sI a).toInt = a := Int32.toInt_ofInt_of_le (by omega) (by omega)
theorem sJ_t {a : Int} (h : -9223372036854775808 ≤ a ∧ a ≤ 9223372036854775807) : (sJ a).toInt = a := Int64.toInt_ofInt_of_le (by omega) (by omega)
theorem sI_o (x : Int32) : sI x.toInt = x := Int32.ofInt_toInt x
theorem sJ_o (x : Int64) : sJ x.toInt = x := Int64.ofInt_toInt x
theorem sI_r (x : Int32) : -2147483648 ≤ x.toInt ∧ x.toInt ≤ 2147483647 := by have := x.le_toInt; have := x.toInt_lt; omega
theorem sJ_r (x : Int64) : -9223372036854775808 ≤ x.toInt ∧ x.toInt ≤ 9223372036854775807 := by have := x.le_toInt; have := x.toInt_lt; omega
theorem sI_add (a b : Int) : sI a + sI b = sI (a + b) := (Int32.ofInt_add a b).symm
theorem sI_sub (a b : Int) : sI a - sI b = sI (a - b) := (Int32.ofInt_sub a b).symm
theorem sI_mul (a b : Int) : sI a * sI b = sI (a * b) := (Int32.ofInt_mul a b).symm
theorem sI_neg (a : Int) : - sI a = sI (- a) := (Int32.ofInt_neg a).symm
theorem sJ_add (a b : Int) : sJ a + sJ b = sJ (a + b) := (Int64.ofInt_add a b).symm
theorem sJ_sub (a b : Int) : sJ a - sJ b = sJ (a - b) := (Int64.ofInt_sub a b).symm
theorem sJ_mul (a b : Int) : sJ a * sJ b = sJ (a * b) := (Int64.ofInt_mul a b).symm
theorem sI_J {a : Int} (h : -2147483648 ≤ a ∧ a ≤ 2147483647) : (sI a).toInt64 = sJ a := by
  apply Int64.toInt_inj.mp
  rw [Int32.toInt_toInt64, sI_t h, sJ_t (by omega)]
theorem sJ_I (a : Int) : (sJ a).toInt32 = sI a := Int64.toInt32_ofInt
theorem sI_ne {b : Int} (h : -2147483648 ≤ b ∧ b ≤ 2147483647) (h0 : ¬ b = 0) : ¬ sI b = 0 := by
  intro e
  have := congrArg Int32.toInt e
  rw [sI_t h, Int32.toInt_zero] at this
  exact h0 this
theorem sJ_ne {b : Int} (h : -9223372036854775808 ≤ b ∧ b ≤ 9223372036854775807) (h0 : ¬ b = 0) : ¬ sJ b = 0 := by
  intro e
  have := congrArg Int64.toInt e
  rw [sJ_t h, Int64.toInt_zero] at this
  exact h0 this
theorem sI_div {a b : Int} (ha : 0 ≤ a ∧ a ≤ 2147483647) (hb : 0 < b ∧ b ≤ 2147483647) : sI a / sI b = sI (a / b) := by
  apply Int32.toInt_inj.mp
  have h1 : a / b ≤ a := Int.ediv_le_self b ha.1
  have h0 : 0 ≤ a / b := Int.ediv_nonneg ha.1 (by omega)
  rw [Int32.toInt_div_of_ne_right, sI_t (by omega), sI_t (by omega), sI_t (by omega), Int.tdiv_eq_ediv_of_nonneg ha.1]
  · intro h
    have := congrArg Int32.toInt h
    rw [sI_t (by omega)] at this
    simp at this
    omega
theorem sI_rem {a b : Int} (ha : 0 ≤ a ∧ a ≤ 2147483647) (hb : 0 < b ∧ b ≤ 2147483647) : sI a - sI a / sI b * sI b = sI (a % b) := by
  rw [sI_div ha hb, sI_mul, sI_sub, Int.emod_def, Int.mul_comm b]
theorem sJ_div {a b : Int} (ha : 0 ≤ a ∧ a ≤ 9223372036854775807) (hb : 0 < b ∧ b ≤ 9223372036854775807) : sJ a / sJ b = sJ (a / b) := by
  apply Int64.toInt_inj.mp
  have h1 : a / b ≤ a := Int.ediv_le_self b ha.1
  have h0 : 0 ≤ a / b := Int.ediv_nonneg ha.1 (by omega)
  rw [Int64.toInt_div_of_ne_right, sJ_t (by omega), sJ_t (by omega), sJ_t (by omega), Int.tdiv_eq_ediv_of_nonneg ha.1]
  · intro h
    have := congrArg Int64.toInt h
    rw [sJ_t (by omega)] at this
    simp at this
    omega
theorem sJ_rem {a b : Int} (ha : 0 ≤ a ∧ a ≤ 9223372036854775807) (hb : 0 < b ∧ b ≤ 9223372036854775807) : sJ a - sJ a / sJ b * sJ b = sJ (a % b) := by
  rw [sJ_div ha hb, sJ_mul, sJ_sub, Int.emod_def, Int.mul_comm b]
theorem sI_rem0 (x : Int32) {b : Int} (hb : 0 < b ∧ b ≤ 2147483647) : -b < (x - x / sI b * sI b).toInt ∧ (x - x / sI b * sI b).toInt < b := by
  have hr := sI_r x
  have e : x - x / sI b * sI b = sI (x.toInt.tmod b) := by
    have h1 : x / sI b = sI (x.toInt.tdiv b) := by
      apply Int32.toInt_inj.mp
      have q : -2147483648 ≤ x.toInt.tdiv b ∧ x.toInt.tdiv b ≤ 2147483647 := by
        by_cases h0 : 0 ≤ x.toInt
        · have h1 : x.toInt / b ≤ x.toInt := Int.ediv_le_self b h0
          have h2 : 0 ≤ x.toInt / b := Int.ediv_nonneg h0 (by omega)
          rw [Int.tdiv_eq_ediv_of_nonneg h0]
          omega
        · obtain ⟨y, hy, h3⟩ : ∃ y : Int, x.toInt = -y ∧ 0 ≤ y := ⟨-x.toInt, by omega, by omega⟩
          have h1 : y / b ≤ y := Int.ediv_le_self b h3
          have h2 : 0 ≤ y / b := Int.ediv_nonneg h3 (by omega)
          rw [hy, Int.neg_tdiv, Int.tdiv_eq_ediv_of_nonneg h3]
          omega
      rw [Int32.toInt_div_of_ne_right, sI_t (by omega), sI_t (by omega)]
      · intro h
        have := congrArg Int32.toInt h
        rw [sI_t (by omega)] at this
        simp at this
        omega
    rw [h1, sI_mul]
    conv => lhs; lhs; rw [← sI_o x]
    rw [sI_sub, Int.tmod_def, Int.mul_comm b]
  have h2 : x.toInt.tmod b < b := Int.tmod_lt_of_pos _ hb.1
  have h3 : -b < x.toInt.tmod b := Int.lt_tmod_of_pos _ hb.1
  rw [e, sI_t (by omega)]
  exact ⟨h3, h2⟩
theorem sb_nat {x : Int32} (h : 0 ≤ x.toInt) : x.toInt = (x.toBitVec.toNat : Int) ∧ x.toBitVec.toNat < 2147483648 := by
  have h2 := x.toBitVec.isLt
  have e : x.toInt = x.toBitVec.toInt := rfl
  rw [e] at h ⊢
  rw [BitVec.toInt_eq_toNat_cond] at h ⊢
  split at h <;> rename_i h3
  · rw [if_pos h3]; constructor <;> omega
  · omega
theorem sb_of {x : Int32} (h : x.toBitVec.toNat < 2147483648) : x.toInt = (x.toBitVec.toNat : Int) := by
  have e : x.toInt = x.toBitVec.toInt := rfl
  rw [e, BitVec.toInt_eq_toNat_cond, if_pos (by omega)]
theorem sb_and (x y : Int32) (h : 0 ≤ y.toInt) : 0 ≤ (x &&& y).toInt ∧ (x &&& y).toInt ≤ y.toInt := by
  obtain ⟨e, hl⟩ := sb_nat h
  have h1 : (x &&& y).toBitVec.toNat = x.toBitVec.toNat &&& y.toBitVec.toNat := by rw [Int32.toBitVec_and, BitVec.toNat_and]
  have h2 : x.toBitVec.toNat &&& y.toBitVec.toNat ≤ y.toBitVec.toNat := Nat.and_le_right
  rw [sb_of (by omega), e, h1]
  omega
theorem sb_andl (x y : Int32) (h : 0 ≤ x.toInt) : 0 ≤ (x &&& y).toInt ∧ (x &&& y).toInt ≤ x.toInt := by
  have := sb_and y x h
  rwa [show x &&& y = y &&& x from Int32.and_comm x y]
theorem sb_or {x y : Int32} (n : Nat) (hn : n ≤ 31) (hx : 0 ≤ x.toInt ∧ x.toInt < 2 ^ n) (hy : 0 ≤ y.toInt ∧ y.toInt < 2 ^ n) : 0 ≤ (x ||| y).toInt ∧ (x ||| y).toInt < 2 ^ n := by
  obtain ⟨e, hl⟩ := sb_nat hx.1
  obtain ⟨e2, hl2⟩ := sb_nat hy.1
  have h1 : (x ||| y).toBitVec.toNat = x.toBitVec.toNat ||| y.toBitVec.toNat := by rw [Int32.toBitVec_or, BitVec.toNat_or]
  have p : ((2 ^ n : Nat) : Int) = (2 : Int) ^ n := by simp
  have hp : 2 ^ n ≤ 2 ^ 31 := Nat.pow_le_pow_right (by decide) hn
  have h2 : x.toBitVec.toNat ||| y.toBitVec.toNat < 2 ^ n := Nat.or_lt_two_pow (by omega) (by omega)
  rw [sb_of (by omega), h1]
  omega
theorem sb_xor {x y : Int32} (n : Nat) (hn : n ≤ 31) (hx : 0 ≤ x.toInt ∧ x.toInt < 2 ^ n) (hy : 0 ≤ y.toInt ∧ y.toInt < 2 ^ n) : 0 ≤ (x ^^^ y).toInt ∧ (x ^^^ y).toInt < 2 ^ n := by
  obtain ⟨e, hl⟩ := sb_nat hx.1
  obtain ⟨e2, hl2⟩ := sb_nat hy.1
  have h1 : (x ^^^ y).toBitVec.toNat = x.toBitVec.toNat ^^^ y.toBitVec.toNat := by rw [Int32.toBitVec_xor, BitVec.toNat_xor]
  have p : ((2 ^ n : Nat) : Int) = (2 : Int) ^ n := by simp
  have hp : 2 ^ n ≤ 2 ^ 31 := Nat.pow_le_pow_right (by decide) hn
  have h2 : x.toBitVec.toNat ^^^ y.toBitVec.toNat < 2 ^ n := Nat.xor_lt_two_pow (by omega) (by omega)
  rw [sb_of (by omega), h1]
  omega
theorem sb_orl {x y : Int32} (hx : 0 ≤ x.toInt) (hy : 0 ≤ y.toInt) : x.toInt ≤ (x ||| y).toInt ∧ y.toInt ≤ (x ||| y).toInt := by
  obtain ⟨e, hl⟩ := sb_nat hx
  obtain ⟨e2, hl2⟩ := sb_nat hy
  have h1 : (x ||| y).toBitVec.toNat = x.toBitVec.toNat ||| y.toBitVec.toNat := by rw [Int32.toBitVec_or, BitVec.toNat_or]
  have h2 : x.toBitVec.toNat ||| y.toBitVec.toNat < 2 ^ 31 := Nat.or_lt_two_pow (by omega) (by omega)
  have h3 : x.toBitVec.toNat ≤ x.toBitVec.toNat ||| y.toBitVec.toNat := Nat.left_le_or
  have h4 : y.toBitVec.toNat ≤ x.toBitVec.toNat ||| y.toBitVec.toNat := Nat.right_le_or
  have h5 := sb_of (x := x ||| y) (by omega)
  omega
theorem sb_not (a : Int) : sI a ^^^ sI (-1) = sI (-1 - a) := by
  have h : ∀ x : Int32, x ^^^ (-1 : Int32) = -1 - x := by
    intro x
    apply Int32.toBitVec_inj.mp
    rw [Int32.toBitVec_xor, Int32.toBitVec_sub]
    have e : (-1 : Int32).toBitVec = BitVec.allOnes 32 := rfl
    rw [e, BitVec.xor_allOnes]
    apply BitVec.eq_of_toNat_eq
    rw [BitVec.toNat_sub, BitVec.toNat_not, BitVec.toNat_allOnes]
    have := x.toBitVec.isLt
    omega
  have e2 : sI (-1) = (-1 : Int32) := rfl
  rw [e2, h, ← e2]
  exact (Int32.ofInt_sub (-1) a).symm
theorem sb_shl {k : Int} (h : 0 ≤ k ∧ k ≤ 30) : sI 1 <<< (sI k &&& 31) = sI (2 ^ k.toNat) := by
  obtain ⟨n, rfl⟩ : ∃ n : Nat, k = n := ⟨k.toNat, by omega⟩
  rw [Int.toNat_natCast]
  have : ∀ n : Nat, n < 31 → sI 1 <<< (sI (n : Int) &&& 31) = sI (2 ^ n) := by decide
  exact this n (by omega)
theorem sb_shl2 {k : Int} (n : Nat) (h : 0 ≤ k ∧ k ≤ n) : (1 : Int) ≤ 2 ^ k.toNat ∧ (2 : Int) ^ k.toNat ≤ 2 ^ n := by
  have h1 : 2 ^ k.toNat ≤ 2 ^ n := Nat.pow_le_pow_right (by decide) (by omega)
  have h0 : 1 ≤ 2 ^ k.toNat := Nat.one_le_two_pow
  have p : ((2 ^ n : Nat) : Int) = (2 : Int) ^ n := by simp
  have p2 : ((2 ^ k.toNat : Nat) : Int) = (2 : Int) ^ k.toNat := by simp
  omega
theorem sb_shr {x y : Int32} (hx : 0 ≤ x.toInt) : 0 ≤ (x >>> y).toInt ∧ (x >>> y).toInt ≤ x.toInt := by
  have h1 : (x >>> y).toInt = x.toInt >>> (y.toBitVec.smod 32).toNat := by
    show (x >>> y).toBitVec.toInt = _
    rw [Int32.toBitVec_shiftRight, BitVec.sshiftRight', BitVec.toInt_sshiftRight]; rfl
  rw [h1, Int.shiftRight_eq_div_pow]
  constructor
  · exact Int.ediv_nonneg hx (by exact_mod_cast Nat.zero_le _)
  · exact Int.ediv_le_self _ hx
theorem sb_ushr (x : Int32) : 0 ≤ (x.toUInt32 >>> ((sI 16).toUInt32 &&& Int32.toUInt32 31)).toInt32.toInt ∧ (x.toUInt32 >>> ((sI 16).toUInt32 &&& Int32.toUInt32 31)).toInt32.toInt ≤ 65535 := by
  have e : ((sI 16).toUInt32 &&& Int32.toUInt32 31) = 16 := rfl
  rw [e]
  have h : (x.toUInt32 >>> 16).toInt32.toBitVec.toNat ≤ 65535 := by
    show (x.toUInt32 >>> 16).toNat ≤ 65535
    rw [UInt32.toNat_shiftRight]
    have := x.toUInt32.toNat_lt
    show x.toUInt32.toNat >>> (16 % 32) ≤ 65535
    rw [Nat.shiftRight_eq_div_pow]
    show x.toUInt32.toNat / 65536 ≤ 65535
    omega
  rw [sb_of (by omega)]
  omega
theorem sb_i8 (x : Int32) : -128 ≤ x.toInt8.toInt32.toInt ∧ x.toInt8.toInt32.toInt ≤ 127 := by
  have := x.toInt8.le_toInt
  have := x.toInt8.toInt_lt
  rw [Int8.toInt_toInt32]
  omega
theorem sb_i16 (x : Int32) : -32768 ≤ x.toInt16.toInt32.toInt ∧ x.toInt16.toInt32.toInt ≤ 32767 := by
  have := x.toInt16.le_toInt
  have := x.toInt16.toInt_lt
  rw [Int16.toInt_toInt32]
  omega
theorem sb_c16 (x : Int32) : 0 ≤ (x.toUInt32 % 65536).toInt32.toInt ∧ (x.toUInt32 % 65536).toInt32.toInt ≤ 65535 := by
  have h : (x.toUInt32 % 65536).toInt32.toBitVec.toNat ≤ 65535 := by
    show (x.toUInt32 % 65536).toNat ≤ 65535
    rw [UInt32.toNat_mod]
    show x.toUInt32.toNat % 65536 ≤ 65535
    omega
  rw [sb_of (by omega)]
  omega
theorem sb_xs (x y : Int32) : 0 ≤ (x ^^^ y).toInt ∧ (0 ≤ x.toInt ∧ 0 ≤ y.toInt ∨ x.toInt < 0 ∧ y.toInt < 0) ∨ (x ^^^ y).toInt < 0 ∧ (0 ≤ x.toInt ∧ y.toInt < 0 ∨ x.toInt < 0 ∧ 0 ≤ y.toInt) := by
  have h1 : ∀ z : Int32, z.toBitVec.msb = decide (z.toInt < 0) := fun z => BitVec.msb_eq_toInt
  have h2 : (x ^^^ y).toBitVec.msb = (x.toBitVec.msb ^^ y.toBitVec.msb) := by rw [Int32.toBitVec_xor, BitVec.msb_xor]
  rw [h1, h1, h1] at h2
  by_cases hx : x.toInt < 0 <;> by_cases hy : y.toInt < 0 <;> by_cases hz : (x ^^^ y).toInt < 0 <;> simp [hx, hy, hz] at h2 ⊢ <;> omega
theorem sI_remS {a b : Int} (ha : -2147483648 ≤ a ∧ a ≤ 2147483647) (hb : 0 < b ∧ b ≤ 2147483647) : (-b < (sI a - sI a / sI b * sI b).toInt ∧ (sI a - sI a / sI b * sI b).toInt < b) ∧ (0 ≤ a ∧ 0 ≤ (sI a - sI a / sI b * sI b).toInt ∨ a < 0 ∧ (sI a - sI a / sI b * sI b).toInt ≤ 0) := by
  refine ⟨sI_rem0 (sI a) hb, ?_⟩
  by_cases h : 0 ≤ a
  · left
    rw [sI_rem ⟨h, ha.2⟩ hb]
    have h1 := Int.emod_nonneg a (show b ≠ 0 by omega)
    have h2 := Int.emod_lt_of_pos a hb.1
    rw [sI_t (by omega)]
    exact ⟨h, h1⟩
  · right
    refine ⟨by omega, ?_⟩
    have e : sI a - sI a / sI b * sI b = sI (a.tmod b) := by
      have h1 : sI a / sI b = sI (a.tdiv b) := by
        apply Int32.toInt_inj.mp
        obtain ⟨y, hy, h3⟩ : ∃ y : Int, a = -y ∧ 0 ≤ y := ⟨-a, by omega, by omega⟩
        have h1 : y / b ≤ y := Int.ediv_le_self b h3
        have h2 : 0 ≤ y / b := Int.ediv_nonneg h3 (by omega)
        have q : a.tdiv b = -(y / b) := by rw [hy, Int.neg_tdiv, Int.tdiv_eq_ediv_of_nonneg h3]
        rw [Int32.toInt_div_of_ne_right, sI_t ha, sI_t (by omega), sI_t (by omega)]
        · intro h
          have := congrArg Int32.toInt h
          rw [sI_t (by omega)] at this
          simp at this
          omega
      rw [h1, sI_mul, sI_sub, Int.tmod_def, Int.mul_comm b]
    have h2 : a.tmod b < b := Int.tmod_lt_of_pos _ hb.1
    have h3 : -b < a.tmod b := Int.lt_tmod_of_pos _ hb.1
    have h4 : a.tmod b ≤ 0 := by
      obtain ⟨y, hy, h5⟩ : ∃ y : Int, a = -y ∧ 0 ≤ y := ⟨-a, by omega, by omega⟩
      have h6 := Int.emod_nonneg y (show b ≠ 0 by omega)
      rw [hy, Int.neg_tmod, Int.tmod_eq_emod_of_nonneg h5]
      omega
    rw [e, sI_t (by omega)]
    exact h4
theorem nar_char {a : Int} (h : 0 ≤ a ∧ a ≤ 127) : narrow .char (.int (sI a)) = .int (sI a) := by
  obtain ⟨n, rfl⟩ : ∃ n : Nat, a = n := ⟨a.toNat, by omega⟩
  have : ∀ n : Nat, n < 128 → narrow .char (.int (sI (n : Int))) = .int (sI (n : Int)) := by decide +kernel
  exact this n (by omega)
theorem nar_byte {a : Int} (h : 0 ≤ a ∧ a ≤ 127) : narrow .byte (.int (sI a)) = .int (sI a) := by
  obtain ⟨n, rfl⟩ : ∃ n : Nat, a = n := ⟨a.toNat, by omega⟩
  have : ∀ n : Nat, n < 128 → narrow .byte (.int (sI (n : Int))) = .int (sI (n : Int)) := by decide +kernel
  exact this n (by omega)
def s_cl : List Nat := [10, 20, 6, 21, 22, 23, 24, 6, 21, 22, 23, 24, 8, 25, 26, 8, 25, 26, 5, 27, 8, 25, 26, 8, 25, 26, 8, 25, 26, 8, 25, 26, 8, 25, 26, 8, 25, 26, 8, 25, 26, 8, 25, 26, 8, 25, 26, 8, 25, 26, 28, 9, 29, 9, 29, 9, 29, 9, 29, 30, 2, 6, 21, 22, 23, 24, 8, 25, 26, 2, 6, 21, 22, 23, 24, 8, 25, 26, 7, 31, 32, 3, 33, 34, 35, 36, 37, 1, 4, 38, 39, 40, 41, 41, 42, 0, 43, 44, 11, 45, 46, 47, 48, 49, 50, 51, 52, 53, 54, 55, 56, 57, 58, 59, 60, 61, 62, 63]
def s_c (i : Nat) : Nat := s_cl.getD i 999
def s_anl : List (Nat × Nat) := [(100, 900), (100, 6), (100, 6), (100, 6), (100, 900), (100, 8), (100, 8), (103, 10), (104, 4), (102, 40), (105, 2), (100, 901), (100, 901), (100, 864), (100, 8), (100, 8), (100, 8), (100, 64), (100, 1536), (100, 256), (100, 256), (102, 256), (102, 6), (100, 256), (100, 10), (100, 3543), (101, 2), (100, 900), (100, 1181), (100, 900), (100, 8), (100, 23), (100, 1536), (100, 256), (100, 256), (101, 256), (102, 256), (102, 256), (102, 6), (100, 256), (100, 9), (100, 4), (100, 4), (102, 160)]
def s_ak (c : Nat) : Nat := (s_anl.getD (c - 20) (999, 0)).1
def s_an (c : Nat) : Nat := (s_anl.getD (c - 20) (999, 0)).2
def bk (j : Nat) : Int × Int := if j = 0 then (0, 8) else if j = 1 ∨ j = 2 then (0, 255) else (-2147483648, 2147483647)
def bz (k : Nat) : Int × Int := if k = 1 then (0, 6) else if (4 ≤ k ∧ k ≤ 7) ∨ k = 280 then (0, 900) else if 20 ≤ k ∧ k ≤ 25 then (0, 9) else if 26 ≤ k ∧ k ≤ 48 then bk (k - 26) else if k = 49 then (0, 10) else if 50 ≤ k ∧ k ≤ 279 then bk ((k - 50) % 23) else (-2147483648, 2147483647)
def bf (k : Nat) : Int × Int := if 20 ≤ k ∧ k ≤ 25 then (0, 999) else bz k
/-- the places of all[] that tell the laws -/
def ca (k : Nat) : Bool := (Nat.ble 2 (k % 1181) && Nat.ble (k % 1181) 7) || Nat.ble 281 (k % 1181)
/-- the bounds of the ints, by the code of the cell and the place -/
def s_b (c k : Nat) : Int × Int := if c = 45 then bz (k % 1181) else if c = 48 then bf k else if c = 51 then bk k else if c = 2 then (if k = 0 then (0, 1) else (-2147483648, 2147483647)) else if c = 3 then (if k = 6 then (0, 8) else (-2147483648, 2147483647)) else if c = 4 then (if k = 11 then (0, 255) else if k = 12 then (0, 255) else if k = 13 then (0, 255) else (-2147483648, 2147483647)) else if c = 5 then (if k = 1 then (0, 9) else if k = 2 then (0, 10) else (-2147483648, 2147483647)) else if c = 6 then (if k = 0 then (0, 6) else if k = 6 then (0, 900) else if k = 7 then (0, 900) else if k = 8 then (0, 900) else if k = 9 then (0, 900) else if k = 10 then (0, 900) else (-2147483648, 2147483647)) else if c = 7 then (if k = 2 then (0, 901) else if k = 5 then (0, 4) else (-2147483648, 2147483647)) else if c = 8 then (if k = 0 then (0, 8) else if k = 3 then (0, 255) else if k = 4 then (0, 255) else (-2147483648, 2147483647)) else if c = 9 then (if k = 1 then (0, 3) else if k = 2 then ((-1), 40) else (-2147483648, 2147483647)) else if c = 10 then (if k = 1 then (0, 900) else (-2147483648, 2147483647)) else if c = 11 then (if k = 5 then (0, 900) else if k = 6 then (0, 900) else if k = 7 then (0, 900) else if k = 8 then (0, 900) else if k = 10 then (0, 999) else (-2147483648, 2147483647)) else if c = 20 then (0, 255) else if c = 38 then ((-1), 7) else if c = 46 then (0, 1) else if c = 55 then (0, 1) else if c = 47 then (0, 255) else if c = 52 then ((-1), 7) else if c = 53 then (0, 268435456) else if c = 59 then ((-1), 255) else if c = 61 then ((-1), 3) else if c = 62 then (0, 40) else if c = 54 then (0, 5) else (-2147483648, 2147483647)
/-- references that change: the code of what they point at -/
def s_m (c k : Nat) : Nat := if c = 3 ∧ k = 5 then 6 else if c = 4 ∧ k = 4 then 41 else if c = 4 ∧ k = 5 then 41 else if c = 4 ∧ k = 9 then 6 else if c = 4 ∧ k = 10 then 8 else if c = 7 ∧ k = 3 then 6 else if c = 7 ∧ k = 4 then 8 else if c = 10 ∧ k = 4 then 6 else if c = 10 ∧ k = 5 then 6 else 0
def s_p0l : List (List Nat) := [[1, 0, 0, 0, 2, 7, 12, 15, 18, 50, 59, 78, 81, 87, 88, 95], [], [0, 0, 3, 4, 5, 6], [], [], [], [], [0, 0, 8, 9, 10, 11], [], [], [], [], [0, 13, 14], [], [], [0, 16, 17], [], [], [19], [20, 23, 26, 29, 32, 35, 38, 41, 44, 47], [0, 21, 22], [], [], [0, 24, 25], [], [], [0, 27, 28], [], [], [0, 30, 31], [], [], [0, 33, 34], [], [], [0, 36, 37], [], [], [0, 39, 40], [], [], [0, 42, 43], [], [], [0, 45, 46], [], [], [0, 48, 49], [], [], [51, 53, 55, 57], [52], [], [54], [], [56], [], [58], [], [60, 69], [0, 61, 66], [0, 0, 62, 63, 64, 65], [], [], [], [], [0, 67, 68], [], [], [0, 70, 75], [0, 0, 71, 72, 73, 74], [], [], [], [], [0, 76, 77], [], [], [79, 80, 0, 7, 15], [], [], [82, 83, 84, 85, 86, 2], [], [], [], [], [], [81], [81, 89, 90, 91, 92, 93, 94, 0, 0, 2, 12], [], [], [], [], [], [], [88, 96, 97], [], [], [0, 99, 100, 101, 102, 0, 0, 0, 0, 0, 0, 0, 0, 0, 0, 103, 104, 105, 0, 106, 107, 108, 109, 110, 111, 112, 0, 113, 114, 115, 116, 117], [], [], [], [], [], [], [], [], [], [], [], [], [], [], [], [], [], [], []]
def s_p0 (i k : Nat) : Nat := (s_p0l.getD i []).getD k 0
/-- THE INVARIANT of every memory that can come: ints within their bounds, references as they were made or of their kind -/
def INV0 (M : mm_M) : Prop := (∀ i k, (s_b (s_c i) k).1 ≤ (M.1 i k).toInt ∧ (M.1 i k).toInt ≤ (s_b (s_c i) k).2) ∧ (∀ i k, s_m (s_c i) k = 0 → M.2.2 i k = s_p0 i k) ∧ (∀ i k, s_m (s_c i) k ≠ 0 → s_c (M.2.2 i k) = s_m (s_c i) k)
theorem s_c_lt {i c : Nat} (h : s_c i = c) (hc : c < 900) : i < mm_N := by
  rcases Nat.lt_or_ge i mm_N with h1 | h1
  · exact h1
  · have : s_c i = 999 := by unfold s_c; rw [List.getD_eq_getElem?_getD, List.getElem?_eq_none (by simpa [s_cl, mm_N] using h1)]; rfl
    omega
theorem s_tab : ∀ i, i < mm_N → (s_c i < 12 → mm_kc i = s_c i) ∧ (20 ≤ s_c i → mm_kc i = s_ak (s_c i) ∧ mm_kn i = s_an (s_c i)) := by decide +kernel
theorem s_lt {i c : Nat} (h : s_c i = c) (hc : Nat.ble c 899 = true) : i < mm_N := s_c_lt h (by have := Nat.le_of_ble_eq_true hc; omega)
theorem s_kc {i c : Nat} (h : s_c i = c) (hc : Nat.ble c 11 = true) : mm_kc i = c := by
  have h0 := Nat.le_of_ble_eq_true hc
  rw [(s_tab i (s_c_lt h (by omega))).1 (by omega), h]
theorem s_ka {i c n : Nat} (h : s_c i = c) (hc : Nat.ble 20 c = true) (hc2 : Nat.ble c 899 = true) (hn : s_ak c = n) : mm_kc i = n := by
  have h0 := Nat.le_of_ble_eq_true hc
  have h1 := Nat.le_of_ble_eq_true hc2
  rw [((s_tab i (s_c_lt h (by omega))).2 (by omega)).1, h, hn]
theorem s_kn {i c n : Nat} (h : s_c i = c) (hc : Nat.ble 20 c = true) (hc2 : Nat.ble c 899 = true) (hn : s_an c = n) : mm_kn i = n := by
  have h0 := Nat.le_of_ble_eq_true hc
  have h1 := Nat.le_of_ble_eq_true hc2
  rw [((s_tab i (s_c_lt h (by omega))).2 (by omega)).2, h, hn]
theorem s_ne {a b c d : Nat} (h1 : s_c a = c) (h2 : s_c b = d) (h : ¬ c = d) : a ≠ b := fun e => h (by rw [← h1, ← h2, e])
theorem s_fa {M M' : mm_M} {i k a b : Nat} {v : Int32} {z : Int} (e : M' = wI M i k v) (h : a ≠ i) (q : z = (M'.1 a b).toInt) : z = (M.1 a b).toInt := by rw [q, e]; exact congrArg Int32.toInt (u2_a _ _ h)
theorem s_fb {M M' : mm_M} {i k a b : Nat} {v : Int32} {z : Int} (e : M' = wI M i k v) (h : b ≠ k) (q : z = (M'.1 a b).toInt) : z = (M.1 a b).toInt := by rw [q, e]; exact congrArg Int32.toInt (u2_b _ _ h)
theorem s_fJ {M M' : mm_M} {i k a b : Nat} {v : Int64} {z : Int} (e : M' = wJ M i k v) (q : z = (M'.1 a b).toInt) : z = (M.1 a b).toInt := by rw [q, e]
theorem s_fP {M M' : mm_M} {i k a b v : Nat} {z : Int} (e : M' = wP M i k v) (q : z = (M'.1 a b).toInt) : z = (M.1 a b).toInt := by rw [q, e]
theorem s_ga {M M' : mm_M} {i k a b : Nat} {v : Int64} {z : Int} (e : M' = wJ M i k v) (h : a ≠ i) (q : z = (M'.2.1 a b).toInt) : z = (M.2.1 a b).toInt := by rw [q, e]; exact congrArg Int64.toInt (u2_a _ _ h)
theorem s_gb {M M' : mm_M} {i k a b : Nat} {v : Int64} {z : Int} (e : M' = wJ M i k v) (h : b ≠ k) (q : z = (M'.2.1 a b).toInt) : z = (M.2.1 a b).toInt := by rw [q, e]; exact congrArg Int64.toInt (u2_b _ _ h)
theorem s_gI {M M' : mm_M} {i k a b : Nat} {v : Int32} {z : Int} (e : M' = wI M i k v) (q : z = (M'.2.1 a b).toInt) : z = (M.2.1 a b).toInt := by rw [q, e]
theorem s_gP {M M' : mm_M} {i k a b v : Nat} {z : Int} (e : M' = wP M i k v) (q : z = (M'.2.1 a b).toInt) : z = (M.2.1 a b).toInt := by rw [q, e]
theorem s_pI {M M' : mm_M} {i k a b z : Nat} {v : Int32} (e : M' = wI M i k v) (q : z = M.2.2 a b) : z = M'.2.2 a b := by rw [q, e]
theorem s_pJ {M M' : mm_M} {i k a b z : Nat} {v : Int64} (e : M' = wJ M i k v) (q : z = M.2.2 a b) : z = M'.2.2 a b := by rw [q, e]
theorem s_pP {M M' : mm_M} {i k a b z v : Nat} (e : M' = wP M i k v) (h : b ≠ k) (q : z = M.2.2 a b) : z = M'.2.2 a b := by rw [q, e]; exact (u2_b _ _ h).symm
theorem s_pQ {M M' : mm_M} {i k a b z v : Nat} (e : M' = wP M i k v) (h : a ≠ i) (q : z = M.2.2 a b) : z = M'.2.2 a b := by rw [q, e]; exact (u2_a _ _ h).symm
theorem s_pW {M M' : mm_M} {i k v : Nat} (e : M' = wP M i k v) : v = M'.2.2 i k := by rw [e]; exact (u2_s _ _ _ _).symm
/-- what a call leaves: ints of the other cells, and all references -/
def FR (S : List Nat) (M N : mm_M) : Prop := (∀ i k, i ∉ S → N.1 i k = M.1 i k) ∧ N.2.2 = M.2.2 ∧ ∀ i k, i ∉ S → N.2.1 i k = M.2.1 i k
theorem FR.rf {S : List Nat} {M : mm_M} : FR S M M := ⟨fun _ _ _ => rfl, rfl, fun _ _ _ => rfl⟩
theorem FR.wI {S : List Nat} {M N N' : mm_M} {i k : Nat} {v : Int32} (h : FR S M N) (e : N' = wI N i k v) (hi : i ∈ S) : FR S M N' := by
  refine ⟨fun a b ha => ?_, by rw [e]; exact h.2.1, by rw [e]; exact h.2.2⟩
  have hne : a ≠ i := fun q => ha (by rw [q]; exact hi)
  rw [e]
  exact (u2_a N.1 v hne).trans (h.1 a b ha)
theorem FR.wJ {S : List Nat} {M N N' : mm_M} {i k : Nat} {v : Int64} (h : FR S M N) (e : N' = wJ N i k v) (hi : i ∈ S) : FR S M N' := by
  refine ⟨by rw [e]; exact h.1, by rw [e]; exact h.2.1, fun a b ha => ?_⟩
  have hne : a ≠ i := fun q => ha (by rw [q]; exact hi)
  rw [e]
  exact (u2_a N.2.1 v hne).trans (h.2.2 a b ha)
theorem FR.tr {S T : List Nat} {M N N' : mm_M} (h : FR S M N) (h2 : FR T N N') (ht : ∀ x ∈ T, x ∈ S) : FR S M N' :=
  ⟨fun a b ha => by rw [h2.1 a b (fun q => ha (ht a q))]; exact h.1 a b ha, by rw [h2.2.1]; exact h.2.1, fun a b ha => by rw [h2.2.2 a b (fun q => ha (ht a q))]; exact h.2.2 a b ha⟩
theorem s_fF {S : List Nat} {M M' : mm_M} {a b : Nat} {z : Int} (e : FR S M M') (h : a ∉ S) (q : z = (M'.1 a b).toInt) : z = (M.1 a b).toInt := by rw [q, e.1 a b h]
theorem s_pF {S : List Nat} {M M' : mm_M} {a b z : Nat} (e : FR S M M') (q : z = M.2.2 a b) : z = M'.2.2 a b := by rw [q, e.2.1]
theorem s_gF {S : List Nat} {M M' : mm_M} {a b : Nat} {z : Int} (e : FR S M M') (h : a ∉ S) (q : z = (M'.2.1 a b).toInt) : z = (M.2.1 a b).toInt := by rw [q, e.2.2 a b h]
theorem s_nin {a c : Nat} {S : List Nat} (h : s_c a = c) (hS : ∀ x ∈ S, s_c x ≠ c) : a ∉ S := fun q => hS a q h
theorem s_wr {M M' : mm_M} {i k : Nat} {a : Int} (e : M' = wI M i k (sI a)) (h : -2147483648 ≤ a ∧ a ≤ 2147483647) : (M'.1 i k).toInt = a := by rw [e, show (wI M i k (sI a)).1 i k = sI a from u2_s _ _ _ _, sI_t h]
theorem INV0.rd {M : mm_M} (hM : INV0 M) {i c k : Nat} {lo hi : Int} (h : s_c i = c) (hb : s_b c k = (lo, hi)) : lo ≤ (M.1 i k).toInt ∧ (M.1 i k).toInt ≤ hi := by
  have := hM.1 i k
  rw [h, hb] at this
  exact this
theorem INV0.wr {M : mm_M} (hM : INV0 M) {i c k : Nat} {lo hi : Int} {v : Int32} (h : s_c i = c) (hb : s_b c k = (lo, hi)) (hv : lo ≤ v.toInt ∧ v.toInt ≤ hi) : INV0 (wI M i k v) := by
  refine ⟨fun a b => ?_, hM.2⟩
  by_cases ha : a = i
  · by_cases hk : b = k
    · subst ha; subst hk
      rw [show (wI M a b v).1 a b = v from u2_s _ _ _ _, h, hb]
      exact hv
    · rw [show (wI M i k v).1 a b = M.1 a b from u2_b _ _ hk]; exact hM.1 a b
  · rw [show (wI M i k v).1 a b = M.1 a b from u2_a _ _ ha]; exact hM.1 a b
theorem INV0.wJ {M : mm_M} (hM : INV0 M) (i k : Nat) (v : Int64) : INV0 (wJ M i k v) := hM
theorem INV0.rp {M : mm_M} (hM : INV0 M) {i c k v : Nat} (h : s_c i = c) (hm : s_m c k = 0) (hv : s_p0 i k = v) : M.2.2 i k = v := by
  rw [hM.2.1 i k (by rw [h]; exact hm), hv]
theorem INV0.rm {M : mm_M} (hM : INV0 M) {i c k t : Nat} (h : s_c i = c) (hm : s_m c k = t) (h0 : ¬ t = 0) : s_c (M.2.2 i k) = t := by
  have := hM.2.2 i k (by rw [h, hm]; exact h0)
  rw [this, h, hm]
theorem INV0.wp {M : mm_M} (hM : INV0 M) {i c k t v : Nat} (h : s_c i = c) (hm : s_m c k = t) (h0 : ¬ t = 0) (hv : s_c v = t) : INV0 (wP M i k v) := by
  refine ⟨hM.1, fun a b q => ?_, fun a b q => ?_⟩
  · by_cases ha : a = i
    · by_cases hk : b = k
      · subst ha; subst hk
        rw [h, hm] at q
        exact absurd q h0
      · rw [show (wP M i k v).2.2 a b = M.2.2 a b from u2_b _ _ hk]; exact hM.2.1 a b q
    · rw [show (wP M i k v).2.2 a b = M.2.2 a b from u2_a _ _ ha]; exact hM.2.1 a b q
  · by_cases ha : a = i
    · by_cases hk : b = k
      · subst ha; subst hk
        rw [show (wP M a b v).2.2 a b = v from u2_s _ _ _ _, h, hm]
        exact hv
      · rw [show (wP M i k v).2.2 a b = M.2.2 a b from u2_b _ _ hk]; exact hM.2.2 a b q
    · rw [show (wP M i k v).2.2 a b = M.2.2 a b from u2_a _ _ ha]; exact hM.2.2 a b q
theorem met_ofF {l : Launch} {y : MethodName} {ws ws' : List Cond} {rm : Room} {Pc : Array Value → State → Prop} {Qc : Array Value → State → Outcome → State → Prop} {mc ms : Nat} {free : Addr → Prop} {cc : ByteArray} {maxL : Nat} {ret : Option FieldType} (hy : plainFor y = true) (hw : ws = Cond.code y cc maxL ret :: ws')
    (body : ∀ (p : Program) (e : Env) (s : State) (m : MethodId) (args : Array Value) (below : List Frame) (meth : Method) (c : Code) (s₁ : State), BodyLoose p l y (headSpec ws rm) cc maxL ret e s m args below meth c s₁ → c.maxLocals = maxL → Pc args s → W p l e (headSpec ws rm).room s m args below meth c s.heap [] 0 0 (MQ below Qc args s mc ms free) (entryFrame m args maxL)) : Met l y ws rm Pc Qc mc ms free := by
  refine MetFree.of_bodySF (code := cc) (maxLocals := maxL) (ret := ret) hy ?_ ?_
  · intro args s m h hn
    obtain ⟨meth, c, h1, h2, h3, h4, h5, h6, -, -⟩ := Cond.code_spec hn (atoms_spec (ws := ws) h _ (by rw [hw]; exact List.mem_cons_self))
    exact ⟨meth, c, h1, h2, h3, h4, h5, h6⟩
  · intro p e s m args below meth c s₁ B hml hP _
    have hh0 : s₁.heap = s.heap := by rw [B.state]; rfl
    have K := body p e s m args below meth c s₁ B hml hP
    rw [← hh0] at K
    obtain ⟨t, a1, o, b1, b2, b3, L, b4, b5⟩ := K s₁ rfl (Stand.of_body B)
    exact ⟨t, o, a1, b1, b2, b3, L, b4, b5⟩
section CNF
variable {l : Launch} {d : Nat} {y : MethodName} {ws ws' : List Cond} {dC : Nat → ClassId} {dI : Nat → Nat → Nat} {ad : Nat → Nat} {cA : Nat → ClassId} {av : List Value} {M : mm_M} {cc : ByteArray} {maxL : Nat} {lv : List (Nat × Value)}
theorem ci_ofF {post : Int32 → mm_M → Prop} {ty : FieldType} (hy : plainFor y = true) (hw : ws = Cond.code y cc maxL (some ty) :: ws') (hn : ∀ r M', post r M' → narrow ty (.int r) = .int r) (hav : (lg_sl av).length ≤ maxL) (hlv : lv_args 0 av = lv)
    (body : ∀ (p : Program) (e : Env) (s : State) (m : MethodId) (args : Array Value) (below : List Frame) (meth : Method) (c : Code) (A : Nat → Prop) (Q : State → Prop), jj_C p (cn_R d) s m args c 0 0 cc maxL y.cls ws dC dI ad cA A → (∀ (r : Int32) (M' : mm_M) (pc : Nat) (lv' : List (Nat × Value)), decode cc pc = .ok (.ireturn, 1) → post r M' → jj p l e (cn_R d) s m args below meth c 0 0 Q maxL dC dI ad cA A M' pc lv' [.int r]) → jj p l e (cn_R d) s m args below meth c 0 0 Q maxL dC dI ad cA A M 0 lv []) : Ci l d y ws dC dI ad cA av M post := by
  intro sz
  refine met_ofF (cc := cc) (maxL := maxL) (ret := some ty) hy hw ?_
  intro p e s m args below meth c s₁ B hml hv
  obtain ⟨rfl, hsz, hDD, hP, hK, hST⟩ := hv
  have hts := atoms_spec (ws := ws) B.pre
  have hown : s.vm.findClass y.cls = some m.cls := findClass_of_methodNamed B.named
  have hlocks := B.notSynchronized
  subst hsz
  have hl := lv_entry av (n := maxL) hav
  rw [lg_entry_eq]
  generalize (lg_sl av ++ List.replicate (maxL - (lg_sl av).length) Slot.unset).toArray = ls at hl ⊢
  rw [hlv] at hl
  have hS : va_S (cn_A ad s.heap.size) s.heap s.heap [] := va_S.rf
  refine body p e s m _ below meth c (cn_A ad s.heap.size) _ ⟨⟨B.exec, B.bytes, hml, hown, hts⟩, hK, hDD, fun i hi => Or.inl ⟨i, hi, rfl⟩, fun q h => Or.inr h, Nat.le_refl _, Nat.le_refl _, hST⟩ ?_ s.heap [] ls hP hS hl
  intro r M' pc lv' hdg hpost H locs ls' hP' hS' hl'
  exact W.zret B.exec B.bytes B.returns (hn r M' hpost) (fun t ht hW => ⟨⟨r, M', rfl, hpost, hDD, by rw [ht]; exact hP', hK.moved hW.alike, hST.go (cn_Am (by rw [ht]; exact hS'.1)) (by rw [ht]; exact hS'.2.1) hW⟩, hS'.F ht⟩) hS'.2.2 hdg
end CNF
def s_t (c k : Nat) : Nat := if c = 30 ∧ k < 2 then 2 else if c = 28 ∧ k < 4 then 9 else if c = 27 ∧ k < 10 then 8 else if c = 0 ∧ k = 0 then 4 else if c = 0 ∧ k = 1 then 43 else if c = 0 ∧ k = 2 then 44 else if c = 1 ∧ k = 0 then 3 else if c = 2 ∧ k = 1 then 6 else if c = 2 ∧ k = 2 then 8 else if c = 3 ∧ k = 0 then 33 else if c = 3 ∧ k = 1 then 34 else if c = 3 ∧ k = 2 then 35 else if c = 3 ∧ k = 3 then 36 else if c = 3 ∧ k = 4 then 37 else if c = 4 ∧ k = 0 then 3 else if c = 4 ∧ k = 1 then 38 else if c = 4 ∧ k = 2 then 39 else if c = 4 ∧ k = 3 then 40 else if c = 4 ∧ k = 6 then 42 else if c = 5 ∧ k = 0 then 27 else if c = 6 ∧ k = 2 then 21 else if c = 6 ∧ k = 3 then 22 else if c = 6 ∧ k = 4 then 23 else if c = 6 ∧ k = 5 then 24 else if c = 7 ∧ k = 0 then 31 else if c = 7 ∧ k = 1 then 32 else if c = 8 ∧ k = 1 then 25 else if c = 8 ∧ k = 2 then 26 else if c = 9 ∧ k = 0 then 29 else if c = 10 ∧ k = 0 then 20 else if c = 10 ∧ k = 6 then 8 else if c = 10 ∧ k = 7 then 8 else if c = 10 ∧ k = 8 then 5 else if c = 10 ∧ k = 9 then 28 else if c = 10 ∧ k = 10 then 30 else if c = 10 ∧ k = 11 then 7 else if c = 10 ∧ k = 12 then 3 else if c = 10 ∧ k = 13 then 1 else if c = 10 ∧ k = 14 then 4 else if c = 10 ∧ k = 15 then 0 else if c = 11 ∧ k = 1 then 45 else if c = 11 ∧ k = 2 then 46 else if c = 11 ∧ k = 3 then 47 else if c = 11 ∧ k = 4 then 48 else if c = 11 ∧ k = 15 then 49 else if c = 11 ∧ k = 16 then 50 else if c = 11 ∧ k = 17 then 51 else if c = 11 ∧ k = 19 then 52 else if c = 11 ∧ k = 20 then 53 else if c = 11 ∧ k = 21 then 54 else if c = 11 ∧ k = 22 then 55 else if c = 11 ∧ k = 23 then 56 else if c = 11 ∧ k = 24 then 57 else if c = 11 ∧ k = 25 then 58 else if c = 11 ∧ k = 27 then 59 else if c = 11 ∧ k = 28 then 60 else if c = 11 ∧ k = 29 then 61 else if c = 11 ∧ k = 30 then 62 else if c = 11 ∧ k = 31 then 63 else 0
theorem s_t_all : ∀ i, i < mm_N → ∀ k, k < 32 → s_t (s_c i) k = 0 ∨ s_c (s_p0 i k) = s_t (s_c i) k := by decide +kernel
theorem INV0.rt {M : mm_M} (hM : INV0 M) {i c k t : Nat} (h : s_c i = c) (hc : Nat.ble c 899 = true) (hk : Nat.ble k 31 = true) (hm : s_m c k = 0) (ht : s_t c k = t) (h0 : ¬ t = 0) : s_c (M.2.2 i k) = t := by
  have h1 := s_t_all i (s_lt h hc) k (by have := Nat.le_of_ble_eq_true hk; omega)
  rw [h, ht] at h1
  rw [hM.2.1 i k (by rw [h]; exact hm)]
  rcases h1 with h1 | h1
  · exact absurd h1 h0
  · exact h1
theorem INV0.re {M : mm_M} (hM : INV0 M) {i c k t n : Nat} (h : s_c i = c) (hc : Nat.ble c 899 = true) (hn : Nat.ble n 32 = true) (hk : k < n) (hm : ∀ k, s_m c k = 0) (ht : ∀ k, k < n → s_t c k = t) (h0 : ¬ t = 0) : s_c (M.2.2 i k) = t := by
  have h1 := s_t_all i (s_lt h hc) k (by have := Nat.le_of_ble_eq_true hn; omega)
  rw [h, ht k hk] at h1
  rw [hM.2.1 i k (by rw [h]; exact hm k)]
  rcases h1 with h1 | h1
  · exact absurd h1 h0
  · exact h1
/-- the frozen part of a memory: what pr names stays, all else is 0 -/
def keep (pr : Nat → Nat → Bool) (M : mm_M) : mm_M := (fun i k => if pr i k = true then M.1 i k else 0, fun i k => if pr i k = true then M.2.1 i k else 0, fun i k => if pr i k = true then M.2.2 i k else 0)
theorem keep_I {pr : Nat → Nat → Bool} {M : mm_M} {i k : Nat} {v : Int32} (h : pr i k = false) : keep pr (wI M i k v) = keep pr M := by
  have : (fun a b => if pr a b = true then (wI M i k v).1 a b else 0) = (fun a b => if pr a b = true then M.1 a b else 0) := by
    funext a b
    by_cases q : pr a b = true
    · rw [if_pos q, if_pos q]
      by_cases ha : a = i
      · by_cases hb : b = k
        · subst ha; subst hb; rw [h] at q; cases q
        · exact u2_b _ _ hb
      · exact u2_a _ _ ha
    · rw [if_neg q, if_neg q]
  unfold keep
  rw [this]
theorem keep_J {pr : Nat → Nat → Bool} {M : mm_M} {i k : Nat} {v : Int64} (h : pr i k = false) : keep pr (wJ M i k v) = keep pr M := by
  have : (fun a b => if pr a b = true then (wJ M i k v).2.1 a b else 0) = (fun a b => if pr a b = true then M.2.1 a b else 0) := by
    funext a b
    by_cases q : pr a b = true
    · rw [if_pos q, if_pos q]
      by_cases ha : a = i
      · by_cases hb : b = k
        · subst ha; subst hb; rw [h] at q; cases q
        · exact u2_b _ _ hb
      · exact u2_a _ _ ha
    · rw [if_neg q, if_neg q]
  unfold keep
  rw [this]
theorem keep_P {pr : Nat → Nat → Bool} {M : mm_M} {i k v : Nat} (h : pr i k = false) : keep pr (wP M i k v) = keep pr M := by
  have : (fun a b => if pr a b = true then (wP M i k v).2.2 a b else 0) = (fun a b => if pr a b = true then M.2.2 a b else 0) := by
    funext a b
    by_cases q : pr a b = true
    · rw [if_pos q, if_pos q]
      by_cases ha : a = i
      · by_cases hb : b = k
        · subst ha; subst hb; rw [h] at q; cases q
        · exact u2_b _ _ hb
      · exact u2_a _ _ ha
    · rw [if_neg q, if_neg q]
  unfold keep
  rw [this]
/-- THE INVARIANT during a method: ints within their bounds, references of their kind, the frozen part as it was -/
def INV (pr : Nat → Nat → Bool) (Kz M : mm_M) : Prop := INV0 M ∧ keep pr M = Kz
theorem INV.fI {pr : Nat → Nat → Bool} {Kz M : mm_M} (h : INV pr Kz M) {i k : Nat} (hp : pr i k = true) : M.1 i k = Kz.1 i k := by
  rw [← h.2]; show _ = (if pr i k = true then M.1 i k else 0); rw [if_pos hp]
theorem INV.fJ {pr : Nat → Nat → Bool} {Kz M : mm_M} (h : INV pr Kz M) {i k : Nat} (hp : pr i k = true) : M.2.1 i k = Kz.2.1 i k := by
  rw [← h.2]; show _ = (if pr i k = true then M.2.1 i k else 0); rw [if_pos hp]
theorem INV.fP {pr : Nat → Nat → Bool} {Kz M : mm_M} (h : INV pr Kz M) {i k : Nat} (hp : pr i k = true) : M.2.2 i k = Kz.2.2 i k := by
  rw [← h.2]; show _ = (if pr i k = true then M.2.2 i k else 0); rw [if_pos hp]
section IV
variable {pr : Nat → Nat → Bool} {Kz M : mm_M}
theorem INV.rd (hM : INV pr Kz M) {i c k : Nat} {lo hi : Int} (h : s_c i = c) (hb : s_b c k = (lo, hi)) : lo ≤ (M.1 i k).toInt ∧ (M.1 i k).toInt ≤ hi := hM.1.rd h hb
theorem INV.wr (hM : INV pr Kz M) {i c k : Nat} {lo hi : Int} {v : Int32} (h : s_c i = c) (hb : s_b c k = (lo, hi)) (hv : lo ≤ v.toInt ∧ v.toInt ≤ hi) (hp : pr i k = false) : INV pr Kz (wI M i k v) := ⟨hM.1.wr h hb hv, (keep_I hp).trans hM.2⟩
theorem INV.wJ (hM : INV pr Kz M) (i k : Nat) (v : Int64) (hp : pr i k = false) : INV pr Kz (wJ M i k v) := ⟨hM.1, (keep_J hp).trans hM.2⟩
theorem INV.rp (hM : INV pr Kz M) {i c k v : Nat} (h : s_c i = c) (hm : s_m c k = 0) (hv : s_p0 i k = v) : M.2.2 i k = v := hM.1.rp h hm hv
theorem INV.rm (hM : INV pr Kz M) {i c k t : Nat} (h : s_c i = c) (hm : s_m c k = t) (h0 : ¬ t = 0) : s_c (M.2.2 i k) = t := hM.1.rm h hm h0
theorem INV.wp (hM : INV pr Kz M) {i c k t v : Nat} (h : s_c i = c) (hm : s_m c k = t) (h0 : ¬ t = 0) (hv : s_c v = t) (hp : pr i k = false) : INV pr Kz (wP M i k v) := ⟨hM.1.wp h hm h0 hv, (keep_P hp).trans hM.2⟩
theorem INV.rt (hM : INV pr Kz M) {i c k t : Nat} (h : s_c i = c) (hc : Nat.ble c 899 = true) (hk : Nat.ble k 31 = true) (hm : s_m c k = 0) (ht : s_t c k = t) (h0 : ¬ t = 0) : s_c (M.2.2 i k) = t := hM.1.rt h hc hk hm ht h0
theorem INV.re (hM : INV pr Kz M) {i c k t n : Nat} (h : s_c i = c) (hc : Nat.ble c 899 = true) (hn : Nat.ble n 32 = true) (hk : k < n) (hm : ∀ k, s_m c k = 0) (ht : ∀ k, k < n → s_t c k = t) (h0 : ¬ t = 0) : s_c (M.2.2 i k) = t := hM.1.re h hc hn hk hm ht h0
theorem INV.rH (hM : INV pr Kz M) {i c k : Nat} {lo hi : Int} (h : s_c i = c) (hb : lo ≤ (s_b c k).1 ∧ (s_b c k).2 ≤ hi) : lo ≤ (M.1 i k).toInt ∧ (M.1 i k).toInt ≤ hi := by
  have := hM.1.1 i k
  rw [h] at this
  exact ⟨Int.le_trans hb.1 this.1, Int.le_trans this.2 hb.2⟩
end IV
/-- what a method of a side may write, by code and place -/
def px (c k : Nat) : Bool := (Nat.ble c 10 || (Nat.ble 20 c && Nat.ble c 44)) && !((Nat.beq c 10 && Nat.beq k 1) || (Nat.beq c 2 && Nat.beq k 0) || (Nat.beq c 9 && Nat.beq k 1) || (Nat.beq c 9 && Nat.beq k 2) || (Nat.beq c 10 && Nat.beq k 2) || (Nat.beq c 10 && Nat.beq k 3) || (Nat.beq c 10 && Nat.beq k 4) || (Nat.beq c 10 && Nat.beq k 5) || (Nat.beq c 6 && Nat.beq k 0) || (Nat.beq c 6 && Nat.beq k 1) || (Nat.beq c 8 && Nat.beq k 0) || (Nat.beq c 7 && Nat.beq k 3) || (Nat.beq c 7 && Nat.beq k 4) || Nat.beq c 20)
def PX (pr : Nat → Nat → Bool) : Prop := ∀ i k, px (s_c i) k = true → pr i k = false
theorem PX.w {pr : Nat → Nat → Bool} (H : PX pr) {i c k : Nat} (h : s_c i = c) (hp : px c k = true) : pr i k = false := H i k (by rw [h]; exact hp)
def pm (c k : Nat) : Bool := (Nat.beq c 11 && !Nat.beq k 5 && !Nat.beq k 13 && !Nat.beq k 14) || (Nat.beq c 45 && !(ca k)) || (Nat.ble 47 c && Nat.ble c 63 && !Nat.beq c 61 && !Nat.beq c 62 && !Nat.beq c 47)
def PM (pr : Nat → Nat → Bool) : Prop := ∀ i k, pm (s_c i) k = true → pr i k = false
theorem PM.w {pr : Nat → Nat → Bool} (H : PM pr) {i c k : Nat} (h : s_c i = c) (hp : pm c k = true) : pr i k = false := H i k (by rw [h]; exact hp)
