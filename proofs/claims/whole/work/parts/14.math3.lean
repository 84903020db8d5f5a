section XC
variable {p : Program} {l : Launch} {e : Env} {R : Room} {s : State} {m : MethodId} {args : Array Value} {below : List Frame} {meth : Method} {c : Code} {cells slots : Nat} {Q : State → Prop} {H : Heap} {locs : List Loc}
/-- a place where roads meet: proved once for all states of I there -/
theorem x_cut {g : JFrame} (pc : Nat) (I : Heap → List Loc → Array Slot → Prop) (hk : ∀ (H : Heap) (locs : List Loc) (ls : Array Slot), I H locs ls → W p l e R s m args below meth c H locs cells slots Q (F0 m pc ls []))
    (hs : (∀ (H : Heap) (locs : List Loc) (ls : Array Slot), I H locs ls → W p l e R s m args below meth c H locs cells slots Q (F0 m pc ls [])) → W p l e R s m args below meth c H locs cells slots Q g) : W p l e R s m args below meth c H locs cells slots Q g := hs hk
end XC
theorem i_decn {n : Nat} (k : Nat) {z : Int} (hz : Int32.ofInt z = - nI k) (h : k ≤ n) : nI n + Int32.ofInt z = nI (n - k) := by
  rw [hz, ← Int32.sub_eq_add_neg, pk_sub h]
/-- n bits are needed for v -/
def ub (v n : Nat) : Prop := v < 2 ^ n ∧ (n = 0 ∨ 2 ^ (n - 1) ≤ v)
theorem nlz_end {d sh d1 : Nat} (h : d1 = d / 2 ^ sh) (h1 : 1 ≤ d1) (h4 : d1 < 4) (hs : sh ≤ 30) : 2 ^ (31 - (31 - sh - d1 / 2)) ≤ d ∧ d < 2 ^ (32 - (31 - sh - d1 / 2)) := by
  have hp := pw_pos sh
  have e1 := Nat.div_add_mod d (2 ^ sh)
  have e2 := Nat.mod_lt d hp
  rw [← h] at e1
  rcases (show d1 = 1 ∨ d1 = 2 ∨ d1 = 3 by omega) with e | e | e
  · subst e
    rw [show 31 - (31 - sh - 1 / 2) = sh by omega, show 32 - (31 - sh - 1 / 2) = sh + 1 by omega, Nat.pow_succ]
    omega
  · subst e
    rw [show 31 - (31 - sh - 2 / 2) = sh + 1 by omega, show 32 - (31 - sh - 2 / 2) = sh + 1 + 1 by omega, Nat.pow_succ, Nat.pow_succ]
    omega
  · subst e
    rw [show 31 - (31 - sh - 3 / 2) = sh + 1 by omega, show 32 - (31 - sh - 3 / 2) = sh + 1 + 1 by omega, Nat.pow_succ, Nat.pow_succ]
    omega
theorem sh_more {d sh k : Nat} : d / 2 ^ sh / 2 ^ k = d / 2 ^ (sh + k) := by rw [Nat.div_div_eq_div_mul, Nat.pow_add]
/-- the highest limb that isn't 0, and how many of its bits lead -/
theorem ub_of {v i k d : Nat} (hv : v / 2 ^ (32 * (i + 1)) = 0) (hd : d = dg v i) (hk : k ≤ 31) (h1 : 2 ^ (31 - k) ≤ d) (h2 : d < 2 ^ (32 - k)) : ub v (32 * (i + 1) - k) := by
  have e := dg_divs v i
  rw [hv, ← hd] at e
  have hp := pw_pos (32 * i)
  have e1 := Nat.div_add_mod v (2 ^ (32 * i))
  have e2 := Nat.mod_lt v hp
  have e3 : v / 2 ^ (32 * i) = d := by omega
  rw [e3] at e1
  refine ⟨?_, Or.inr ?_⟩
  · rw [show 32 * (i + 1) - k = 32 * i + (32 - k) by omega, Nat.pow_add]
    have h3 : 2 ^ (32 * i) * (d + 1) ≤ 2 ^ (32 * i) * 2 ^ (32 - k) := Nat.mul_le_mul_left _ h2
    rw [Nat.mul_add, Nat.mul_one] at h3
    omega
  · rw [show 32 * (i + 1) - k - 1 = 32 * i + (31 - k) by omega, Nat.pow_add]
    have h3 : 2 ^ (32 * i) * 2 ^ (31 - k) ≤ 2 ^ (32 * i) * d := Nat.mul_le_mul_left _ h1
    omega
theorem dg_z {v : Nat} (h : v < 4294967296) : dg v 0 = v := by
  unfold dg
  rw [show 2 ^ (32 * 0) = 1 by decide, Nat.div_one, Nat.mod_eq_of_lt h]
theorem pw_lt {i j : Nat} (h : i < j) : 2 ^ i < 2 ^ j := Nat.pow_lt_pow_right (by decide) h
theorem bit255 {v : Nat} (hv : v < 2 ^ 256) : v / 2 ^ 255 % 2 = if 2 ^ 255 ≤ v then 1 else 0 := by
  by_cases h : 2 ^ 255 ≤ v
  · rw [if_pos h]
    have h1 : v / 2 ^ 255 = 1 := by
      apply Nat.div_eq_of_lt_le <;> omega
    rw [h1]
  · rw [if_neg h, Nat.div_eq_of_lt (by omega)]
