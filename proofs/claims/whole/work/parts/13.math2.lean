-- rows of limbs that are the digits of one number; digits of and, or, xor, of the number with each bit the other one
theorem NL_up {f : Nat → Int64} {i v : Nat} (h : NL f i v) : NL (vp_updL f i (lN (dg v i))) (i + 1) v := by
  intro j hj
  by_cases e : j = i
  · subst e; rw [pk_uLs]
  · rw [pk_uLn e]; exact h j (by omega)
theorem NI_up {f : Nat → Int32} {i v : Nat} (h : NI f i v) : NI (upd f i (nI (dg v i))) (i + 1) v := by
  intro j hj
  by_cases e : j = i
  · subst e; rw [pk_us]
  · rw [pk_un e]; exact h j (by omega)
theorem dg_and (a b i : Nat) : dg (a &&& b) i = dg a i &&& dg b i := by
  apply Nat.eq_of_testBit_eq
  intro k
  rw [dg_tb, Nat.testBit_and, Nat.testBit_and, dg_tb, dg_tb]
  cases decide (k < 32) <;> simp
theorem dg_or (a b i : Nat) : dg (a ||| b) i = dg a i ||| dg b i := by
  apply Nat.eq_of_testBit_eq
  intro k
  rw [dg_tb, Nat.testBit_or, Nat.testBit_or, dg_tb, dg_tb]
  cases decide (k < 32) <;> simp
theorem dg_xor (a b i : Nat) : dg (a ^^^ b) i = dg a i ^^^ dg b i := by
  apply Nat.eq_of_testBit_eq
  intro k
  rw [dg_tb, Nat.testBit_xor, Nat.testBit_xor, dg_tb, dg_tb]
  cases decide (k < 32) <;> simp
theorem dg_not {a i : Nat} (ha : a < 2 ^ 256) (hi : i < 8) : dg (2 ^ 256 - (a + 1)) i = dg a i ^^^ 4294967295 := by
  apply Nat.eq_of_testBit_eq
  intro k
  rw [dg_tb, Nat.testBit_two_pow_sub_succ ha, Nat.testBit_xor, dg_tb, show (4294967295 : Nat) = 2 ^ 32 - 1 by decide, Nat.testBit_two_pow_sub_one]
  by_cases hk : k < 32
  · rw [decide_eq_true hk, decide_eq_true (show 32 * i + k < 256 by omega)]
    simp
  · rw [decide_eq_false hk]
    simp
theorem xor_lo {a : Nat} (h : a < 4294967296) : a ^^^ 4294967295 = 4294967295 - a := by
  have e := dg_not (a := a) (i := 0) (Nat.lt_of_lt_of_le h (by decide)) (by decide)
  have e2 : dg a 0 = a := by
    unfold dg
    rw [show 2 ^ (32 * 0) = 1 by decide, Nat.div_one, Nat.mod_eq_of_lt h]
  rw [e2] at e
  rw [← e]
  unfold dg
  rw [show 2 ^ (32 * 0) = 1 by decide, Nat.div_one]
  omega
/-- how two numbers stand -/
def ordv (x y : Nat) : Int32 := if x < y then -1 else if x = y then 0 else 1
/-- a limb of a row by its place, else what lies outside -/
def limbV (f : Nat → Int64) (i : Int32) (o : Int64) : Int64 := if i < 0 then o else if nI 8 ≤ i then o else f i.toNatClampNeg
theorem cmp_eq (a b : Int64) : lg_cmp a b = 0 ↔ a = b := lg_cmp_eq a b
theorem i_dec (i : Nat) : nI (i + 1) - 1 + Int32.ofInt (-1) = nI i - 1 := by
  rw [nI_pred, Int32.sub_eq_add_neg]
  rfl
