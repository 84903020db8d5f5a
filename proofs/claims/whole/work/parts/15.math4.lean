-- products: a row's end
theorem mo_16 {i V r c dx vy : Nat} (hV : V < 2 ^ (32 * (i + 8))) (hy : vy < 2 ^ 256) (h : r + 2 ^ (32 * (i + 8)) * c = V % 2 ^ (32 * (i + 8)) + 2 ^ (32 * i) * (dx * (vy % 2 ^ (32 * 8)))) : r + 2 ^ (32 * (i + 8)) * c = V + 2 ^ (32 * i) * (dx * vy) := by
  rw [h, Nat.mod_eq_of_lt hV, Nat.mod_eq_of_lt hy]
theorem mo_8 {i V r c dx vy : Nat} (hi : i ≤ 8) (hr : r < 2 ^ 256) (h : r + 2 ^ (32 * (i + (8 - i))) * c = V % 2 ^ (32 * (i + (8 - i))) + 2 ^ (32 * i) * (dx * (vy % 2 ^ (32 * (8 - i))))) : r = (V + 2 ^ (32 * i) * (dx * vy)) % 2 ^ 256 := by
  rw [show 32 * (i + (8 - i)) = 256 by omega] at h
  have hPQ : 2 ^ (32 * i) * 2 ^ (32 * (8 - i)) = 2 ^ 256 := by rw [← Nat.pow_add]; congr 1; omega
  have e1 := Nat.div_add_mod vy (2 ^ (32 * (8 - i)))
  have e2 := Nat.div_add_mod V (2 ^ 256)
  generalize 2 ^ (32 * (8 - i)) = Q at *
  generalize 2 ^ (32 * i) = P at *
  generalize 2 ^ 256 = M at *
  have e3 : P * (dx * vy) = M * (dx * (vy / Q)) + P * (dx * (vy % Q)) := by
    conv => lhs; rw [← e1]
    rw [Nat.mul_add, Nat.mul_add, ← hPQ]
    congr 1
    rw [Nat.mul_left_comm dx Q, Nat.mul_assoc]
  have e4 : V + P * (dx * vy) = r + M * (c + V / M + dx * (vy / Q)) := by
    rw [e3, Nat.mul_add, Nat.mul_add]
    omega
  rw [e4, Nat.add_mul_mod_self_left, Nat.mod_eq_of_lt hr]
theorem mo_s (vx vy i : Nat) : vx % 2 ^ (32 * (i + 1)) * vy = vx % 2 ^ (32 * i) * vy + 2 ^ (32 * i) * (dg vx i * vy) := by
  rw [dg_mods, Nat.add_mul, Nat.mul_assoc]
theorem mo_lt {vx vy i : Nat} (hy : vy < 2 ^ 256) : vx % 2 ^ (32 * i) * vy < 2 ^ (32 * (i + 8)) := by
  rw [show 32 * (i + 8) = 32 * i + 256 by omega, Nat.pow_add]
  exact Nat.mul_lt_mul_of_lt_of_le (Nat.mod_lt _ (pw_pos _)) (Nat.le_of_lt hy) (pw_pos 256)
-- bits of moved numbers
theorem tb_mul (x s t : Nat) : (x * 2 ^ s).testBit t = (decide (s ≤ t) && x.testBit (t - s)) := by
  rw [← Nat.shiftLeft_eq, Nat.testBit_shiftLeft]
theorem tb_div (x s t : Nat) : (x / 2 ^ s).testBit t = x.testBit (s + t) := by
  rw [Nat.testBit_div_two_pow, Nat.add_comm]
theorem tb_mod (x s t : Nat) : (x % 2 ^ s).testBit t = (decide (t < s) && x.testBit t) := Nat.testBit_mod_two_pow x s t
theorem mv_l (vx b i : Nat) : dg (vx * 2 ^ b) i = (((if b / 32 ≤ i then dg vx (i - b / 32) else 0) * 4294967296 ||| (if b / 32 + 1 ≤ i then dg vx (i - (b / 32 + 1)) else 0)) * 2 ^ (b % 32) % 18446744073709551616) / 4294967296 := by
  apply Nat.eq_of_testBit_eq
  intro t
  rw [dg_tb, tb_mul, show (18446744073709551616 : Nat) = 2 ^ 64 by decide, show (4294967296 : Nat) = 2 ^ 32 by decide, tb_div, tb_mod, tb_mul, Nat.testBit_or, tb_mul]
  have hs := Nat.mod_lt b (show 0 < 32 by decide)
  have hb := Nat.div_add_mod b 32
  generalize b / 32 = L at *
  generalize b % 32 = s at *
  by_cases ht : t < 32
  · rw [decide_eq_true ht, decide_eq_true (show 32 + t < 64 by omega), decide_eq_true (show s ≤ 32 + t by omega), Bool.true_and, Bool.true_and, Bool.true_and]
    by_cases h1 : s ≤ t
    · rw [decide_eq_true (show 32 ≤ 32 + t - s by omega), Bool.true_and]
      have h2 : (if L + 1 ≤ i then dg vx (i - (L + 1)) else 0).testBit (32 + t - s) = false := by
        split
        · rw [dg_tb, decide_eq_false (by omega), Bool.false_and]
        · exact Nat.zero_testBit _
      rw [h2, Bool.or_false]
      by_cases h3 : L ≤ i
      · rw [if_pos h3, dg_tb, decide_eq_true (show 32 + t - s - 32 < 32 by omega), decide_eq_true (show b ≤ 32 * i + t by omega), Bool.true_and, Bool.true_and]
        congr 1
        omega
      · rw [if_neg h3, Nat.zero_testBit, decide_eq_false (show ¬ b ≤ 32 * i + t by omega), Bool.false_and]
    · rw [decide_eq_false (show ¬ 32 ≤ 32 + t - s by omega), Bool.false_and, Bool.false_or]
      by_cases h3 : L + 1 ≤ i
      · rw [if_pos h3, dg_tb, decide_eq_true (show 32 + t - s < 32 by omega), decide_eq_true (show b ≤ 32 * i + t by omega), Bool.true_and, Bool.true_and]
        congr 1
        omega
      · rw [if_neg h3, Nat.zero_testBit, decide_eq_false (show ¬ b ≤ 32 * i + t by omega), Bool.false_and]
  · rw [decide_eq_false ht, decide_eq_false (show ¬ 32 + t < 64 by omega), Bool.false_and, Bool.false_and]
theorem mv_r (w b i : Nat) : dg (w / 2 ^ b) i = ((dg w (i + b / 32 + 1) * 4294967296 ||| dg w (i + b / 32)) / 2 ^ (b % 32)) % 4294967296 := by
  apply Nat.eq_of_testBit_eq
  intro t
  rw [dg_tb, tb_div, show (4294967296 : Nat) = 2 ^ 32 by decide, tb_mod, tb_div, Nat.testBit_or, tb_mul]
  have hs := Nat.mod_lt b (show 0 < 32 by decide)
  have hb := Nat.div_add_mod b 32
  generalize b / 32 = L at *
  generalize b % 32 = s at *
  by_cases ht : t < 32
  · rw [decide_eq_true ht, Bool.true_and, Bool.true_and, dg_tb, dg_tb]
    by_cases h1 : 32 ≤ s + t
    · rw [decide_eq_true h1, decide_eq_true (show s + t - 32 < 32 by omega), decide_eq_false (show ¬ s + t < 32 by omega), Bool.true_and, Bool.true_and, Bool.false_and, Bool.or_false]
      congr 1
      omega
    · rw [decide_eq_false h1, decide_eq_true (show s + t < 32 by omega), Bool.false_and, Bool.true_and, Bool.false_or]
      congr 1
      omega
  · rw [decide_eq_false ht, Bool.false_and, Bool.false_and]
theorem lv_ss (a b : Nat) : nI a - nI b - nI 1 = nI a - nI (b + 1) := by
  have h : nI (b + 1) = nI b + nI 1 := (nI_add b 1).symm
  rw [h, Int32.sub_eq_add_neg, Int32.sub_eq_add_neg, Int32.sub_eq_add_neg, Int32.neg_add, Int32.add_assoc, ← Int32.sub_eq_add_neg (-nI b)]
theorem limb_l {f : Nat → Int64} {i L : Nat} (hi : i < 8) (hL : L < 16) (o : Int64) : limbV f (nI i - nI L) o = if L ≤ i then f (i - L) else o := by
  unfold limbV
  by_cases h : L ≤ i
  · rw [if_pos h, pk_sub h, if_neg (nI_pos (by omega)), if_neg (nI_ge (by omega) (by decide)), nI_clamp (by omega)]
  · rw [if_neg h, if_pos (pk_sneg (by omega) (by omega))]
theorem limb_r {f : Nat → Int64} {k : Nat} (hk : k < 32) (o : Int64) : limbV f (nI k) o = if k < 8 then f k else o := by
  unfold limbV
  rw [if_neg (nI_pos (by omega))]
  by_cases h : k < 8
  · rw [if_pos h, if_neg (nI_ge h (by decide)), nI_clamp (by omega)]
  · rw [if_neg h, if_pos (nI_le (by omega) (by omega))]
