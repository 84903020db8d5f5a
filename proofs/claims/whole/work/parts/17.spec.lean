-- what each operation answers, in numbers
def ab (v : Nat) : Nat := if 2 ^ 255 ≤ v then 2 ^ 256 - v else v
/-- the number with its sign drawn out far to the left -/
def sx (u : Nat) : Nat := if 2 ^ 255 ≤ u then u + 2 ^ 256 * (2 ^ 512 - 1) else u
def sdv (a b : Nat) : Nat := if decide (2 ^ 255 ≤ a) = decide (2 ^ 255 ≤ b) then ab a / ab b else (2 ^ 256 - ab a / ab b) % 2 ^ 256
def srm (a b : Nat) : Nat := if 2 ^ 255 ≤ a then (2 ^ 256 - (if ab b = 0 then 0 else ab a % ab b)) % 2 ^ 256 else (if ab b = 0 then 0 else ab a % ab b)
def opv (op a b : Nat) : Nat := match op with
  | 0 => (a + b) % 2 ^ 256
  | 1 => (a + (2 ^ 256 - b)) % 2 ^ 256
  | 2 => a * b % 2 ^ 256
  | 3 => a / b
  | 4 => if b = 0 then 0 else a % b
  | 5 => sdv a b
  | 6 => srm a b
  | 7 => a ^ b % 2 ^ 256
  | 8 => sx (b * 2 ^ (8 * (31 - min a 31)) % 2 ^ 256) / 2 ^ (8 * (31 - min a 31)) % 2 ^ 256
  | 9 => b * 2 ^ (min a 256) % 2 ^ 256
  | 10 => b / 2 ^ (min a 256)
  | 11 => sx b / 2 ^ (min a 256) % 2 ^ 256
  | 12 => if a < 32 then b / 2 ^ (8 * (31 - a)) % 256 else 0
  | 13 => a &&& b
  | 14 => a ||| b
  | _ => a ^^^ b
theorem ab_lt {v : Nat} (h : v < 2 ^ 256) : ab v < 2 ^ 256 := by
  unfold ab
  split <;> omega
theorem NL_m {f : Nat → Int64} {v : Nat} (h : NL f 8 v) : NL f 8 (v % 2 ^ 256) := NL_cut h (Nat.le_refl 8)
theorem NI_m {f : Nat → Int32} {v : Nat} (h : NI f 8 v) : NI f 8 (v % 2 ^ 256) := NI_cut h (Nat.le_refl 8)
theorem dg_hi8 {u T k : Nat} (hu : u < 2 ^ 256) (hk : 8 ≤ k) : dg (u + 2 ^ 256 * T) k = dg T (k - 8) := by
  unfold dg
  rw [show 32 * k = 256 + 32 * (k - 8) by omega, Nat.pow_add, ← Nat.div_div_eq_div_mul, Nat.add_mul_div_left _ _ (pw_pos 256), Nat.div_eq_of_lt hu, Nat.zero_add]
theorem dg_ones {k : Nat} (hk : k < 16) : dg (2 ^ 512 - 1) k = 4294967295 := by
  apply Nat.eq_of_testBit_eq
  intro t
  rw [dg_tb, Nat.testBit_two_pow_sub_one, show (4294967295 : Nat) = 2 ^ 32 - 1 by decide, Nat.testBit_two_pow_sub_one]
  by_cases h : t < 32
  · rw [decide_eq_true h, decide_eq_true (show 32 * k + t < 512 by omega)]
    rfl
  · rw [decide_eq_false h]
    rfl
theorem dg_lo8 {u T k : Nat} (hk : k < 8) : dg (u + 2 ^ 256 * T) k = dg u k := dg_lo (i := 8) hk
theorem sx_lo {u : Nat} (k : Nat) (hk : k < 8) : dg (sx u) k = dg u k := by
  unfold sx
  split
  · exact dg_lo8 hk
  · rfl
theorem sx_hi {u : Nat} (hu : u < 2 ^ 256) (k : Nat) (h1 : 8 ≤ k) (h2 : k < 24) : dg (sx u) k = if 2 ^ 255 ≤ u then 4294967295 else 0 := by
  unfold sx
  split
  · rw [dg_hi8 hu h1, dg_ones (by omega)]
  · exact dg_big (Nat.lt_of_lt_of_le hu (pw_le (by omega)))
theorem by_8 (v k : Nat) : dg v (8 * k / 32) / 2 ^ (8 * k % 32) % 256 = v / 2 ^ (8 * k) % 256 := by
  apply Nat.eq_of_testBit_eq
  intro u
  rw [show (256 : Nat) = 2 ^ 8 by decide, tb_mod, tb_mod, tb_div, tb_div, dg_tb]
  by_cases h : u < 8
  · rw [decide_eq_true h, Bool.true_and, Bool.true_and, decide_eq_true (show 8 * k % 32 + u < 32 by omega), Bool.true_and]
    congr 1
    omega
  · rw [decide_eq_false h]
    rfl
theorem NL_s {v : Nat} (h : v < 4294967296) {f : Nat → Int64} (h0 : ∀ j, j < 8 → f j = lN 0) : NL (vp_updL f 0 (lN v)) 8 v := by
  intro j hj
  by_cases e : j = 0
  · subst e; rw [pk_uLs, dg_z h]
  · rw [pk_uLn e, h0 j hj, dg_big (Nat.lt_of_lt_of_le h (pw_le (i := 32) (by omega)))]
theorem pw_sq (x T M : Nat) : x ^ T % M * (x ^ T % M) % M = x ^ (2 * T) % M := by
  rw [← Nat.mul_mod, ← Nat.pow_add, Nat.two_mul]
theorem pw_sq1 (x T M : Nat) : x ^ (2 * T) % M * x % M = x ^ (2 * T + 1) % M := by
  rw [Nat.pow_succ, Nat.mul_mod, Nat.mod_mod, ← Nat.mul_mod]
theorem opv_lt {op a b : Nat} (ha : a < 2 ^ 256) (hb : b < 2 ^ 256) : opv op a b < 2 ^ 256 := by
  have hM : ∀ v : Nat, v % 2 ^ 256 < 2 ^ 256 := fun v => Nat.mod_lt _ (pw_pos 256)
  have hq : ab a / ab b < 2 ^ 256 := Nat.lt_of_le_of_lt (Nat.div_le_self _ _) (ab_lt ha)
  have hr : (if ab b = 0 then 0 else ab a % ab b) < 2 ^ 256 := by
    split
    · exact pw_pos 256
    · exact Nat.lt_of_le_of_lt (Nat.mod_le _ _) (ab_lt ha)
  unfold opv
  split
  · exact hM _
  · exact hM _
  · exact hM _
  · exact Nat.lt_of_le_of_lt (Nat.div_le_self _ _) ha
  · split
    · exact pw_pos 256
    · exact Nat.lt_of_le_of_lt (Nat.mod_le _ _) ha
  · unfold sdv
    split
    · exact hq
    · exact hM _
  · unfold srm
    split
    · exact hM _
    · exact hr
  · exact hM _
  · exact hM _
  · exact hM _
  · exact Nat.lt_of_le_of_lt (Nat.div_le_self _ _) hb
  · exact hM _
  · split
    · exact Nat.lt_of_lt_of_le (Nat.mod_lt _ (by decide)) (show 256 ≤ 2 ^ 256 by decide)
    · exact pw_pos 256
  · exact Nat.and_lt_two_pow a hb
  · exact Nat.or_lt_two_pow ha hb
  · exact Nat.xor_lt_two_pow ha hb
-- the scratch rows
def SA (o : Nat) : Nat → Prop := fun q => o + 18 ≤ q ∧ q < o + 24
theorem SA1 {o z : Nat} {H0 H H1 : Heap} (h : XF (SA o) H0 H) (hF : XF (fun q => q = z) H H1) (hz : o + 18 ≤ z ∧ z < o + 24) : XF (SA o) H0 H1 := h.tr hF (fun q e => by have e : q = z := e; rw [e]; exact hz)
theorem SAD {o : Nat} {H0 H H1 : Heap} (h : XF (SA o) H0 H) (hF : XF (DA o) H H1) : XF (SA o) H0 H1 := h.tr hF (fun q e => by rcases e with e | e <;> (rw [e]; exact ⟨by omega, by omega⟩))
theorem SAS {o : Nat} {H0 H H1 : Heap} (h : XF (SA o) H0 H) (hF : XF (SA o) H H1) : XF (SA o) H0 H1 := h.tr hF (fun _ e => e)
theorem CB.fS {D : va_G} {cQ : ClassId} {o : Nat} {H H1 : Heap} (h : CB D cQ o H) (hF : XF (SA o) H H1) : CB D cQ o H1 := h.f hF (fun e => by have e := e.1; omega) (fun e => by have e := e.1; omega)
theorem nDA {o a : Nat} (h : a < o + 22 ∨ o + 24 ≤ a) : ¬ DA o a := fun e => by rcases e with e | e <;> omega
theorem nSA {o a : Nat} (h : a < o + 18 ∨ o + 24 ≤ a) : ¬ SA o a := fun e => by have e1 := e.1; have e2 := e.2; omega
def SC (cJ : ClassId) (o : Nat) (H : Heap) : Prop := (∃ f, hL H cJ (o + 18) 8 f) ∧ (∃ f, hL H cJ (o + 19) 8 f) ∧ (∃ f, hL H cJ (o + 20) 8 f) ∧ (∃ f, hL H cJ (o + 21) 16 f) ∧ (∃ f, hL H cJ (o + 22) 16 f) ∧ ∃ f, hL H cJ (o + 23) 8 f
