-- ints of the reference
theorem s_l : ∀ n, n < 32 → ((nI n &&& 31).toBitVec.smod 32).toNat = n := by decide +kernel
theorem s_u : ∀ n, n < 32 → (((nI n).toUInt32 &&& Int32.toUInt32 31).toBitVec % 32).toNat = n := by decide +kernel
theorem iN_shr5 {k : Nat} (h : k < 2 ^ 31) : nI k >>> (nI 5 &&& 31) = nI (k / 32) := pk_shrN h _ 5 (by decide)
theorem iN_and31 {k : Nat} (h : k < 4294967296) : nI k &&& nI 31 = nI (k % 32) := pk_andN h 5 (by decide)
theorem iN_ushr {n k : Nat} (hn : n < 4294967296) (hk : k < 32) : ((nI n).toUInt32 >>> ((nI k).toUInt32 &&& Int32.toUInt32 31)).toInt32 = nI (n / 2 ^ k) := pk_ushrN hn (nI k) k (s_u k hk)
theorem iN_and1 {n : Nat} (hn : n < 4294967296) : nI n &&& nI 1 = nI (n % 2) := pk_andN hn 1 (by decide)
theorem iN_shl (n : Nat) {k : Nat} (hk : k < 32) : nI n <<< (nI k &&& 31) = nI (n * 2 ^ k) := by
  rw [← iN_mod n, ← iN_mod (n * 2 ^ k)]
  apply iN_inj
  apply BitVec.eq_of_toNat_eq
  rw [pk_shl _ _ k (s_l k hk), iN_tn (Nat.mod_lt _ (by decide)), iN_tn (Nat.mod_lt _ (by decide))]
  show n % 4294967296 * 2 ^ k % 4294967296 = n * 2 ^ k % 4294967296
  rw [Nat.mul_mod, Nat.mod_mod, ← Nat.mul_mod]
theorem jN_sar32 {S : Nat} (h : S < 4294967296 ∨ 18446744069414584320 ≤ S ∧ S < 18446744073709551616) : lN S >>> ((nI 32).toInt64 &&& 63) = lN (18446744073709551615 * (if S < 4294967296 then 0 else 1)) := by
  apply Int64.toInt_inj.mp
  have e : (lN S >>> ((nI 32).toInt64 &&& 63)).toInt = (lN S).toInt >>> 32 := by
    show ((lN S).toBitVec.sshiftRight (((nI 32).toInt64 &&& 63).toBitVec.smod 64).toNat).toInt = _
    rw [show (((nI 32).toInt64 &&& 63).toBitVec.smod 64).toNat = 32 by decide +kernel, BitVec.toInt_sshiftRight]
    rfl
  rw [e, Int.shiftRight_eq_div_pow]
  rcases h with h | h
  · rw [if_pos h, jN_toInt (by omega), if_pos (by omega), Nat.mul_zero, jN_toInt (by decide), if_pos (by decide)]
    show (S : Int) / 4294967296 = 0
    omega
  · rw [if_neg (by omega), jN_toInt (by omega), if_neg (by omega), Nat.mul_one, jN_toInt (by decide), if_neg (by decide)]
    show ((S : Int) - 18446744073709551616) / 4294967296 = (18446744073709551615 : Nat) - 18446744073709551616
    omega
theorem iN_neg {d : Nat} (h : d < 4294967296) : 0 ≤ nI d ↔ d < 2147483648 := by
  rw [Int32.le_iff_toInt_le, iN_toInt h]
  show (0 : Int) ≤ _ ↔ _
  by_cases hd : d < 2147483648
  · rw [if_pos hd]; omega
  · rw [if_neg hd]; omega
theorem dg7 {v : Nat} (h : v < 2 ^ 256) : dg v 7 < 2147483648 ↔ ¬ 2 ^ 255 ≤ v := by
  unfold dg
  omega
theorem dg_all0 {v : Nat} (hv : v < 2 ^ 256) (h : ∀ j, j < 8 → dg v j = 0) : v = 0 := dg_ext (n := 8) hv (pw_pos 256) (fun j hj => by rw [h j hj, dg_0])
theorem NI_v64 {u : Nat} (hu : u < 18446744073709551616) {f : Nat → Int32} (h0 : NI f 8 0) : NI (upd (upd f 0 (nI u)) 1 (nI (u / 4294967296))) 8 u := by
  intro j hj
  by_cases e1 : j = 1
  · subst e1
    rw [pk_us]
    unfold dg
    exact congrArg nI (by omega)
  · rw [pk_un e1]
    by_cases e0 : j = 0
    · subst e0
      rw [pk_us, ← iN_mod]
      unfold dg
      exact congrArg nI (by omega)
    · rw [pk_un e0, h0 j hj, dg_0, dg_big (Nat.lt_of_lt_of_le hu (pw_le (i := 64) (by omega)))]
theorem v64 {v : Nat} (hv : v < 2 ^ 256) (h : ∀ j, 2 ≤ j → j < 8 → dg v j = 0) : v < 18446744073709551616 ∧ dg v 1 * 4294967296 ||| dg v 0 = v := by
  have e : v = v % 2 ^ (32 * 2) := by
    refine dg_ext (n := 8) hv (Nat.lt_of_lt_of_le (Nat.mod_lt _ (pw_pos _)) (pw_le (by decide))) (fun j hj => ?_)
    by_cases h2 : j < 2
    · rw [dg_mod h2]
    · rw [h j (by omega) hj, dg_big (Nat.lt_of_lt_of_le (Nat.mod_lt _ (pw_pos _)) (pw_le (by omega)))]
  have hl : v < 18446744073709551616 := by
    rw [e]
    exact Nat.mod_lt _ (by decide)
  refine ⟨hl, ?_⟩
  have h0 := dg_lt v 0
  rw [show (4294967296 : Nat) = 2 ^ 32 from rfl, or_add h0]
  unfold dg
  omega
theorem sb_S {dx dy b S : Nat} (h1 : dx < 4294967296) (h2 : dy < 4294967296) (hb : b ≤ 1) (hS : S = (18446744073709551615 * b + (dx + 18446744073709551616 - dy)) % 18446744073709551616) : (S < 4294967296 ∨ 18446744069414584320 ≤ S ∧ S < 18446744073709551616) ∧ (S < 4294967296 → dx + 4294967296 * 0 = S % 4294967296 + dy + b) ∧ (¬ S < 4294967296 → dx + 4294967296 * 1 = S % 4294967296 + dy + b) := by
  rcases (show b = 0 ∨ b = 1 by omega) with e | e
  · subst e
    omega
  · subst e
    omega
