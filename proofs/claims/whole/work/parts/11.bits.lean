-- ints and longs by their numbers
theorem iN_tb (n : Nat) : (nI n).toBitVec = BitVec.ofNat 32 n := rfl
theorem iN_inj {a b : Int32} (h : a.toBitVec = b.toBitVec) : a = b := Int32.toBitVec_inj.mp h
theorem iN_tn {n : Nat} (h : n < 4294967296) : (nI n).toBitVec.toNat = n := pk_tn h
theorem iN_mod (n : Nat) : nI (n % 4294967296) = nI n := iN_inj (by
  rw [iN_tb, iN_tb]
  apply BitVec.eq_of_toNat_eq
  rw [BitVec.toNat_ofNat, BitVec.toNat_ofNat]
  show n % 4294967296 % 4294967296 = n % 4294967296
  rw [Nat.mod_mod])
theorem iN_eq {a b : Nat} (ha : a < 4294967296) (hb : b < 4294967296) : nI a = nI b ↔ a = b := by
  constructor
  · intro h
    have h2 : (nI a).toBitVec.toNat = (nI b).toBitVec.toNat := by rw [h]
    rwa [iN_tn ha, iN_tn hb] at h2
  · intro h; rw [h]
theorem iN_of (x : Int32) : ∃ n, n < 4294967296 ∧ x = nI n := ⟨x.toBitVec.toNat, x.toBitVec.isLt, Int32.toBitVec_inj.mp (by show _ = BitVec.ofNat 32 _; simp)⟩
theorem iN_or (a b : Nat) : nI a ||| nI b = nI (a ||| b) := by
  apply Int32.toBitVec_inj.1
  show BitVec.ofNat 32 a ||| BitVec.ofNat 32 b = BitVec.ofNat 32 (a ||| b)
  apply BitVec.eq_of_getLsbD_eq
  intro i hi
  simp [hi]
theorem iN_and (a b : Nat) : nI a &&& nI b = nI (a &&& b) := by
  apply Int32.toBitVec_inj.1
  show BitVec.ofNat 32 a &&& BitVec.ofNat 32 b = BitVec.ofNat 32 (a &&& b)
  apply BitVec.eq_of_getLsbD_eq
  intro i hi
  simp [hi]
theorem iN_xor (a b : Nat) : nI a ^^^ nI b = nI (a ^^^ b) := by
  apply Int32.toBitVec_inj.1
  show BitVec.ofNat 32 a ^^^ BitVec.ofNat 32 b = BitVec.ofNat 32 (a ^^^ b)
  apply BitVec.eq_of_getLsbD_eq
  intro i hi
  simp [hi]
theorem iN_toInt {d : Nat} (h : d < 4294967296) : (nI d).toInt = if d < 2147483648 then (d : Int) else (d : Int) - 4294967296 := by
  show (nI d).toBitVec.toInt = _
  rw [BitVec.toInt_eq_toNat_cond, iN_tn h]
  by_cases hd : d < 2147483648
  · rw [if_pos hd, if_pos (by omega)]
  · rw [if_neg hd, if_neg (by omega)]
    rfl
theorem jN_tb (n : Nat) : (lN n).toBitVec = BitVec.ofNat 64 n := rfl
theorem jN_inj {a b : Int64} (h : a.toBitVec = b.toBitVec) : a = b := Int64.toBitVec_inj.mp h
theorem jN_tn {n : Nat} (h : n < 18446744073709551616) : (lN n).toBitVec.toNat = n := by
  rw [jN_tb, BitVec.toNat_ofNat]
  exact Nat.mod_eq_of_lt h
theorem jN_of (x : Int64) : ∃ n, n < 18446744073709551616 ∧ x = lN n := ⟨x.toBitVec.toNat, x.toBitVec.isLt, jN_inj (by rw [jN_tb]; simp)⟩
theorem jN_mod (n : Nat) : lN (n % 18446744073709551616) = lN n := jN_inj (by
  rw [jN_tb, jN_tb]
  apply BitVec.eq_of_toNat_eq
  rw [BitVec.toNat_ofNat, BitVec.toNat_ofNat]
  show n % 18446744073709551616 % 18446744073709551616 = n % 18446744073709551616
  rw [Nat.mod_mod])
theorem jN_toInt {m : Nat} (h : m < 18446744073709551616) : (lN m).toInt = if m < 9223372036854775808 then (m : Int) else (m : Int) - 18446744073709551616 := by
  show (lN m).toBitVec.toInt = _
  rw [BitVec.toInt_eq_toNat_cond, jN_tn h]
  by_cases hd : m < 9223372036854775808
  · rw [if_pos hd, if_pos (by omega)]
  · rw [if_neg hd, if_neg (by omega)]
    rfl
theorem jN_eq {a b : Nat} (ha : a < 18446744073709551616) (hb : b < 18446744073709551616) : lN a = lN b ↔ a = b := by
  constructor
  · intro h
    have h2 : (lN a).toBitVec.toNat = (lN b).toBitVec.toNat := by rw [h]
    rwa [jN_tn ha, jN_tn hb] at h2
  · intro h; rw [h]
theorem jN_neg {m : Nat} (h : m < 18446744073709551616) : lN m < 0 ↔ 9223372036854775808 ≤ m := by
  rw [Int64.lt_iff_toInt_lt, jN_toInt h]
  show _ < (0 : Int) ↔ _
  by_cases hd : m < 9223372036854775808
  · rw [if_pos hd]; omega
  · rw [if_neg hd]; omega
theorem jN_lt {a b : Nat} (ha : a < 9223372036854775808) (hb : b < 9223372036854775808) : lN a < lN b ↔ a < b := by
  rw [Int64.lt_iff_toInt_lt, jN_toInt (by omega), jN_toInt (by omega), if_pos ha, if_pos hb]
  omega
theorem jN_sub {a b : Nat} (h : b ≤ a + 18446744073709551616) : lN a - lN b = lN (a + 18446744073709551616 - b) := by
  rw [← lN_sub h, ← jN_mod (a + 18446744073709551616), Nat.add_mod_right, jN_mod]
theorem jN_xor (a b : Nat) : lN a ^^^ lN b = lN (a ^^^ b) := by
  apply Int64.toBitVec_inj.1
  show BitVec.ofNat 64 a ^^^ BitVec.ofNat 64 b = BitVec.ofNat 64 (a ^^^ b)
  apply BitVec.eq_of_getLsbD_eq
  intro i hi
  simp [hi]
theorem jN_or (a b : Nat) : lN a ||| lN b = lN (a ||| b) := by
  apply Int64.toBitVec_inj.1
  show BitVec.ofNat 64 a ||| BitVec.ofNat 64 b = BitVec.ofNat 64 (a ||| b)
  apply BitVec.eq_of_getLsbD_eq
  intro i hi
  simp [hi]
theorem jN_and (a b : Nat) : lN a &&& lN b = lN (a &&& b) := by
  apply Int64.toBitVec_inj.1
  show BitVec.ofNat 64 a &&& BitVec.ofNat 64 b = BitVec.ofNat 64 (a &&& b)
  apply BitVec.eq_of_getLsbD_eq
  intro i hi
  simp [hi]
theorem jN_lo (n : Nat) : lN n &&& 4294967295 = lN (n % 4294967296) := by
  show lN n &&& lN 4294967295 = _
  rw [jN_and, show (4294967295 : Nat) = 2 ^ 32 - 1 by decide, Nat.and_two_pow_sub_one_eq_mod]
theorem jN_a1 (n : Nat) : lN n &&& 1 = lN (n % 2) := by
  show lN n &&& lN 1 = _
  rw [jN_and, show (1 : Nat) = 2 ^ 1 - 1 by decide, Nat.and_two_pow_sub_one_eq_mod]
theorem jN_a255 (n : Nat) : lN n &&& 255 = lN (n % 256) := by
  show lN n &&& lN 255 = _
  rw [jN_and, show (255 : Nat) = 2 ^ 8 - 1 by decide, Nat.and_two_pow_sub_one_eq_mod]
theorem jN_c : ∀ k, k < 64 → ((nI k).toInt64 &&& 63) = lN k := by decide +kernel
theorem jN_cu : ∀ k, k < 64 → ((nI k).toInt64.toUInt64 &&& Int64.toUInt64 63) = UInt64.ofNat k := by decide +kernel
theorem jN_sm : ∀ k, k < 64 → (BitVec.ofNat 64 k).smod 64 = BitVec.ofNat 64 k := by decide +kernel
theorem jN_shr {n k : Nat} (hn : n < 18446744073709551616) (hk : k < 64) : ((lN n).toUInt64 >>> ((nI k).toInt64.toUInt64 &&& Int64.toUInt64 63)).toInt64 = lN (n / 2 ^ k) := by
  rw [jN_cu k hk]
  apply jN_inj
  apply BitVec.eq_of_toNat_eq
  show ((lN n).toUInt64 >>> UInt64.ofNat k).toNat = (BitVec.ofNat 64 _).toNat
  have h1 : (UInt64.ofNat k).toNat = k := by
    show (BitVec.ofNat 64 k).toNat = k
    rw [BitVec.toNat_ofNat, Nat.mod_eq_of_lt (by omega)]
  have h2 : (lN n).toUInt64.toNat = n := jN_tn hn
  rw [UInt64.toNat_shiftRight, h1, h2, Nat.mod_eq_of_lt hk, Nat.shiftRight_eq_div_pow, BitVec.toNat_ofNat, Nat.mod_eq_of_lt (Nat.lt_of_le_of_lt (Nat.div_le_self _ _) hn)]
theorem jN_shr32 {n : Nat} (hn : n < 18446744073709551616) : ((lN n).toUInt64 >>> ((32 : Int32).toInt64.toUInt64 &&& Int64.toUInt64 63)).toInt64 = lN (n / 4294967296) := jN_shr (k := 32) hn (by decide)
theorem jN_shl (n : Nat) {k : Nat} (hk : k < 64) : lN n <<< ((nI k).toInt64 &&& 63) = lN (n * 2 ^ k) := by
  rw [jN_c k hk]
  apply jN_inj
  rw [Int64.toBitVec_shiftLeft, jN_tb, jN_tb, jN_tb, jN_sm k hk]
  apply BitVec.eq_of_toNat_eq
  rw [BitVec.shiftLeft_eq', BitVec.toNat_shiftLeft, BitVec.toNat_ofNat, BitVec.toNat_ofNat, BitVec.toNat_ofNat, Nat.mod_eq_of_lt (show k < 2 ^ 64 by omega), Nat.shiftLeft_eq, Nat.mul_mod, Nat.mod_mod, ← Nat.mul_mod]
theorem jN_shl32 (n : Nat) : lN n <<< ((32 : Int32).toInt64 &&& 63) = lN (n * 4294967296) := jN_shl (k := 32) n (by decide)
theorem jN_shl1 (n : Nat) : lN n <<< ((1 : Int32).toInt64 &&& 63) = lN (n * 2) := jN_shl (k := 1) n (by decide)
theorem il_t {d : Nat} (h : d < 4294967296) : (nI d).toInt64 = lN (if d < 2147483648 then d else d + 18446744069414584320) := by
  apply Int64.toInt_inj.mp
  rw [Int32.toInt_toInt64, iN_toInt h]
  by_cases hd : d < 2147483648
  · rw [if_pos hd, if_pos hd, jN_toInt (by omega), if_pos (by omega)]
  · rw [if_neg hd, if_neg hd, jN_toInt (by omega), if_neg (by omega)]
    omega
theorem il_m {d : Nat} (h : d < 4294967296) : (nI d).toInt64 &&& 4294967295 = lN d := by
  rw [il_t h, jN_lo]
  by_cases hd : d < 2147483648
  · rw [if_pos hd, Nat.mod_eq_of_lt h]
  · rw [if_neg hd]
    exact congrArg lN (by omega)
-- bits
theorem tb_dm (x i : Nat) : x / 2 ^ i % 2 = (x.testBit i).toNat := by
  rw [Nat.testBit_eq_decide_div_mod_eq]
  by_cases h : x / 2 ^ i % 2 = 1
  · simp [h]
  · have h2 : x / 2 ^ i % 2 = 0 := by have := Nat.mod_lt (x / 2 ^ i) (show 0 < 2 by decide); omega
    simp [h2]
theorem dg_tb (v j k : Nat) : (dg v j).testBit k = (decide (k < 32) && v.testBit (32 * j + k)) := by
  unfold dg
  rw [show (4294967296 : Nat) = 2 ^ 32 by decide, Nat.testBit_mod_two_pow, Nat.testBit_div_two_pow, Nat.add_comm k]
theorem dg_bit {v b : Nat} : dg v (b / 32) / 2 ^ (b % 32) % 2 = v / 2 ^ b % 2 := by
  rw [tb_dm, tb_dm, dg_tb, decide_eq_true (Nat.mod_lt b (by decide)), Bool.true_and, Nat.div_add_mod]
theorem or_add {a b k : Nat} (hb : b < 2 ^ k) : a * 2 ^ k ||| b = a * 2 ^ k + b := by
  rw [Nat.mul_comm]
  exact (Nat.two_pow_add_eq_or_of_lt hb a).symm
