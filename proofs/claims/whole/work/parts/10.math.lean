-- digits of 32 bits of a number
def dg (v j : Nat) : Nat := v / 2 ^ (32 * j) % 4294967296
theorem dg_lt (v j : Nat) : dg v j < 4294967296 := Nat.mod_lt _ (by decide)
theorem pw_pos (i : Nat) : 0 < 2 ^ i := Nat.two_pow_pos i
theorem pw_s (i : Nat) : 2 ^ (32 * (i + 1)) = 2 ^ (32 * i) * 4294967296 := by
  rw [Nat.mul_add, Nat.pow_add]
theorem pw_le {i j : Nat} (h : i ≤ j) : 2 ^ i ≤ 2 ^ j := Nat.pow_le_pow_right (by decide) h
theorem dg_mods (v i : Nat) : v % 2 ^ (32 * (i + 1)) = v % 2 ^ (32 * i) + 2 ^ (32 * i) * dg v i := by
  rw [pw_s, Nat.mod_mul]; rfl
theorem dg_divs (v i : Nat) : v / 2 ^ (32 * i) = 4294967296 * (v / 2 ^ (32 * (i + 1))) + dg v i := by
  rw [pw_s, ← Nat.div_div_eq_div_mul]
  exact (Nat.div_add_mod _ _).symm
theorem dg_lo {r d i j : Nat} (h : j < i) : dg (r + 2 ^ (32 * i) * d) j = dg r j := by
  obtain ⟨k, rfl⟩ : ∃ k, i = j + k + 1 := ⟨i - j - 1, by omega⟩
  unfold dg
  have e : 2 ^ (32 * (j + k + 1)) * d = 2 ^ (32 * j) * (4294967296 * (2 ^ (32 * k) * d)) := by
    rw [show 32 * (j + k + 1) = 32 * j + (32 + 32 * k) by omega, Nat.pow_add, Nat.pow_add, Nat.mul_assoc, Nat.mul_assoc]
  rw [e, Nat.add_mul_div_left _ _ (pw_pos _), Nat.add_mul_mod_self_left]
theorem dg_hi {r d i : Nat} (hr : r < 2 ^ (32 * i)) (hd : d < 4294967296) : dg (r + 2 ^ (32 * i) * d) i = d := by
  unfold dg
  rw [Nat.add_mul_div_left _ _ (pw_pos _), Nat.div_eq_of_lt hr, Nat.zero_add, Nat.mod_eq_of_lt hd]
theorem dg_alt {r d i : Nat} (hr : r < 2 ^ (32 * i)) (hd : d < 4294967296) : r + 2 ^ (32 * i) * d < 2 ^ (32 * (i + 1)) := by
  rw [pw_s]
  have h : 2 ^ (32 * i) * (d + 1) ≤ 2 ^ (32 * i) * 4294967296 := Nat.mul_le_mul_left _ hd
  rw [Nat.mul_add, Nat.mul_one] at h
  omega
theorem dg_mod {v n j : Nat} (h : j < n) : dg (v % 2 ^ (32 * n)) j = dg v j := by
  have e : dg (v % 2 ^ (32 * n) + 2 ^ (32 * n) * (v / 2 ^ (32 * n))) j = dg (v % 2 ^ (32 * n)) j := dg_lo h
  rw [Nat.mod_add_div] at e
  exact e.symm
theorem dg_big {v j : Nat} (h : v < 2 ^ (32 * j)) : dg v j = 0 := by
  unfold dg
  rw [Nat.div_eq_of_lt h]
theorem dg_0 (j : Nat) : dg 0 j = 0 := by
  unfold dg
  rw [Nat.zero_div]
theorem dg_ext {n v w : Nat} (hv : v < 2 ^ (32 * n)) (hw : w < 2 ^ (32 * n)) (h : ∀ j, j < n → dg v j = dg w j) : v = w := by
  have key : ∀ i, i ≤ n → v % 2 ^ (32 * i) = w % 2 ^ (32 * i) := by
    intro i
    induction i with
    | zero => intro _; simp [Nat.mod_one]
    | succ i ih =>
      intro hi
      rw [dg_mods, dg_mods, ih (by omega), h i (by omega)]
  have e := key n (Nat.le_refl n)
  rwa [Nat.mod_eq_of_lt hv, Nat.mod_eq_of_lt hw] at e
-- a limb's step in a sum, a difference, a turned sign, a doubling: P stands for 2 ^ (32 i)
theorem st_add {P x y r c dx dy d c' : Nat} (h : r + P * c = x + y) (hd : d + 4294967296 * c' = dx + dy + c) : r + P * d + P * 4294967296 * c' = (x + P * dx) + (y + P * dy) := by
  have e : P * (d + 4294967296 * c') = P * (dx + dy + c) := by rw [hd]
  simp only [Nat.mul_add] at e
  have e3 : P * (4294967296 * c') = P * 4294967296 * c' := (Nat.mul_assoc _ _ _).symm
  omega
theorem st_sub {P x y r b dx dy d b' : Nat} (h : x + P * b = r + y) (hd : dx + 4294967296 * b' = d + dy + b) : (x + P * dx) + P * 4294967296 * b' = (r + P * d) + (y + P * dy) := by
  have e : P * (dx + 4294967296 * b') = P * (d + dy + b) := by rw [hd]
  simp only [Nat.mul_add] at e
  have e3 : P * (4294967296 * b') = P * 4294967296 * b' := (Nat.mul_assoc _ _ _).symm
  omega
theorem st_neg {P x r c dx d c' : Nat} (h : r + P * c + x = P) (hd : d + 4294967296 * c' + dx + 1 = 4294967296 + c) : (r + P * d) + P * 4294967296 * c' + (x + P * dx) = P * 4294967296 := by
  have e : P * (d + 4294967296 * c' + dx + 1) = P * (4294967296 + c) := by rw [hd]
  simp only [Nat.mul_add] at e
  have e3 : P * (4294967296 * c') = P * 4294967296 * c' := (Nat.mul_assoc _ _ _).symm
  omega
theorem st_dbl {P x r c dx d c' b : Nat} (h : r + P * c = 2 * x + b) (hd : d + 4294967296 * c' = 2 * dx + c) : (r + P * d) + P * 4294967296 * c' = 2 * (x + P * dx) + b := by
  have e : P * (d + 4294967296 * c') = P * (2 * dx + c) := by rw [hd]
  simp only [Nat.mul_add] at e
  have e3 : P * (4294967296 * c') = P * 4294967296 * c' := (Nat.mul_assoc _ _ _).symm
  have e4 : P * (2 * dx) = 2 * (P * dx) := Nat.mul_left_comm _ _ _
  omega
/-- a product's inner step: r + P c = w + Q (dx y), P = Q S, y's next digit dy, w's next digit dw -/
theorem st_mul {P Q S w y r c dx dy dw d c' : Nat} (hP : P = Q * S) (h : r + P * c = w + Q * (dx * y)) (hd : d + 4294967296 * c' = dx * dy + dw + c) : (r + P * d) + P * 4294967296 * c' = (w + P * dw) + Q * (dx * (y + S * dy)) := by
  have e : P * (d + 4294967296 * c') = P * (dx * dy + dw + c) := by rw [hd]
  simp only [Nat.mul_add] at e ⊢
  have e3 : P * (4294967296 * c') = P * 4294967296 * c' := (Nat.mul_assoc _ _ _).symm
  have e4 : P * (dx * dy) = Q * (dx * (S * dy)) := by
    rw [hP, Nat.mul_assoc, Nat.mul_left_comm S dx dy]
  omega
-- rows of limbs: longs, ints
def NL (f : Nat → Int64) (n v : Nat) : Prop := ∀ j, j < n → f j = lN (dg v j)
def NI (f : Nat → Int32) (n v : Nat) : Prop := ∀ j, j < n → f j = nI (dg v j)
theorem NL_put {f : Nat → Int64} {i r d : Nat} (h : NL f i r) (hr : r < 2 ^ (32 * i)) (hd : d < 4294967296) : NL (vp_updL f i (lN d)) (i + 1) (r + 2 ^ (32 * i) * d) := by
  intro j hj
  by_cases e : j = i
  · subst e
    rw [pk_uLs, dg_hi hr hd]
  · rw [pk_uLn e, dg_lo (by omega)]
    exact h j (by omega)
theorem NI_put {f : Nat → Int32} {i r d : Nat} (h : NI f i r) (hr : r < 2 ^ (32 * i)) (hd : d < 4294967296) : NI (upd f i (nI d)) (i + 1) (r + 2 ^ (32 * i) * d) := by
  intro j hj
  by_cases e : j = i
  · subst e
    rw [pk_us, dg_hi hr hd]
  · rw [pk_un e, dg_lo (by omega)]
    exact h j (by omega)
theorem NL_cut {f : Nat → Int64} {n k v : Nat} (h : NL f n v) (hk : k ≤ n) : NL f k (v % 2 ^ (32 * k)) := fun j hj => by
  rw [dg_mod hj]
  exact h j (by omega)
theorem NI_cut {f : Nat → Int32} {n k v : Nat} (h : NI f n v) (hk : k ≤ n) : NI f k (v % 2 ^ (32 * k)) := fun j hj => by
  rw [dg_mod hj]
  exact h j (by omega)
theorem NL_0 {f : Nat → Int64} {v : Nat} : NL f 0 v := fun j hj => absurd hj (Nat.not_lt_zero j)
theorem NI_0 {f : Nat → Int32} {v : Nat} : NI f 0 v := fun j hj => absurd hj (Nat.not_lt_zero j)
theorem NL_z {n : Nat} : NL (fun _ => 0) n 0 := fun j _ => by rw [dg_0]; rfl
theorem NI_z {n : Nat} : NI (fun _ => 0) n 0 := fun j _ => by rw [dg_0]; rfl
