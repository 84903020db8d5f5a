-- rows of ints by their bits
def BT (f : Nat → Int32) (T : Nat → Bool) : Prop := ∀ j, j < 8 → ∃ d, d < 4294967296 ∧ f j = nI d ∧ ∀ t, t < 32 → d.testBit t = T (32 * j + t)
theorem BT_NI {f : Nat → Int32} {T : Nat → Bool} {v : Nat} (h : BT f T) (hv : ∀ i, i < 256 → v.testBit i = T i) : NI f 8 v := by
  intro j hj
  obtain ⟨d, h1, h2, h3⟩ := h j hj
  rw [h2]
  refine congrArg nI (Nat.eq_of_testBit_eq (fun t => ?_))
  rw [dg_tb]
  by_cases ht : t < 32
  · rw [h3 t ht, decide_eq_true ht, Bool.true_and, hv _ (by omega)]
  · rw [decide_eq_false ht, Bool.false_and]
    exact Nat.testBit_lt_two_pow (Nat.lt_of_lt_of_le h1 (pw_le (i := 32) (by omega)))
theorem NI_BT {f : Nat → Int32} {v : Nat} (h : NI f 8 v) : BT f (fun i => v.testBit i) := fun j hj => ⟨dg v j, dg_lt v j, h j hj, fun t ht => by rw [dg_tb, decide_eq_true ht, Bool.true_and]⟩
theorem BT_0 {f : Nat → Int32} (h : NI f 8 0) : BT f (fun _ => false) := fun j hj => ⟨0, by decide, by rw [h j hj, dg_0], fun t _ => Nat.zero_testBit t⟩
theorem BT_put {f : Nat → Int32} {T T' : Nat → Bool} {k d : Nat} (h : BT f T) (hd : d < 4294967296) (hb : ∀ t, t < 32 → d.testBit t = T' (32 * (k / 32) + t)) (ho : ∀ i, i < 256 → i / 32 ≠ k / 32 → T' i = T i) : BT (upd f (k / 32) (nI d)) T' := by
  intro j hj
  by_cases e : j = k / 32
  · subst e
    exact ⟨d, hd, by rw [pk_us], hb⟩
  · obtain ⟨d0, h1, h2, h3⟩ := h j hj
    exact ⟨d0, h1, by rw [pk_un e]; exact h2, fun t ht => by rw [h3 t ht, ho _ (by omega) (by omega)]⟩
theorem tb_b {b s t : Nat} (hb : b ≤ 1) : (b * 2 ^ s).testBit t = (decide (t = s) && decide (b = 1)) := by
  rcases (show b = 0 ∨ b = 1 by omega) with e | e
  · subst e
    simp
  · subst e
    rw [Nat.one_mul, Nat.testBit_two_pow]
    by_cases h : s = t
    · subst h; simp
    · rw [decide_eq_false h, decide_eq_false (fun q => h q.symm)]
      rfl
/-- a bit set to b: the others stay -/
theorem set_bit {d s b t : Nat} (hs : s < 32) (ht : t < 32) (hb : b ≤ 1) : ((d &&& (2 ^ s ^^^ 4294967295)) ||| b * 2 ^ s).testBit t = if t = s then decide (b = 1) else d.testBit t := by
  rw [Nat.testBit_or, Nat.testBit_and, Nat.testBit_xor, tb_b hb, Nat.testBit_two_pow, show (4294967295 : Nat) = 2 ^ 32 - 1 by decide, Nat.testBit_two_pow_sub_one, decide_eq_true ht]
  by_cases h : t = s
  · subst h
    simp
  · rw [if_neg h, decide_eq_false (fun q => h q.symm), decide_eq_false h]
    simp
theorem or_bit {d s b t : Nat} (hb : b ≤ 1) : (d ||| b * 2 ^ s).testBit t = (d.testBit t || (decide (t = s) && decide (b = 1))) := by
  rw [Nat.testBit_or, tb_b hb]
theorem and_lt32 {a b : Nat} (h : b < 4294967296) : a &&& b < 4294967296 := Nat.and_lt_two_pow (n := 32) a h
theorem or_lt32 {a b : Nat} (h : a < 4294967296) (h2 : b < 4294967296) : a ||| b < 4294967296 := Nat.or_lt_two_pow (n := 32) h h2
theorem xor_lt32 {a b : Nat} (h : a < 4294967296) (h2 : b < 4294967296) : a ^^^ b < 4294967296 := Nat.xor_lt_two_pow (n := 32) h h2
theorem b_lt32 {b s : Nat} (hb : b ≤ 1) (hs : s < 32) : b * 2 ^ s < 4294967296 := by
  have h1 : 2 ^ s ≤ 2 ^ 31 := pw_le (by omega)
  rcases (show b = 0 ∨ b = 1 by omega) with e | e
  · subst e; omega
  · subst e; omega
theorem tb_1 (v i : Nat) : decide (v / 2 ^ i % 2 = 1) = v.testBit i := (Nat.testBit_eq_decide_div_mod_eq).symm
theorem tb255 {u : Nat} (hu : u < 2 ^ 256) : u.testBit 255 = decide (2 ^ 255 ≤ u) := by
  rw [← tb_1, bit255 hu]
  by_cases h : 2 ^ 255 ≤ u
  · rw [if_pos h, decide_eq_true h]; rfl
  · rw [if_neg h, decide_eq_false h]; rfl
/-- the bits of a number with its sign drawn out -/
theorem sx_tb {u i : Nat} (hu : u < 2 ^ 256) (hi : i < 768) : (sx u).testBit i = if i < 256 then u.testBit i else u.testBit 255 := by
  have h1 : (sx u).testBit i = (dg (sx u) (i / 32)).testBit (i % 32) := by
    rw [dg_tb, decide_eq_true (Nat.mod_lt i (by decide)), Bool.true_and, Nat.div_add_mod]
  rw [h1]
  by_cases h : i < 256
  · rw [if_pos h, sx_lo _ (by omega), dg_tb, decide_eq_true (Nat.mod_lt i (by decide)), Bool.true_and, Nat.div_add_mod]
  · rw [if_neg h, sx_hi hu _ (by omega) (by omega), tb255 hu]
    by_cases h2 : 2 ^ 255 ≤ u
    · rw [if_pos h2, show (4294967295 : Nat) = 2 ^ 32 - 1 by decide, Nat.testBit_two_pow_sub_one, decide_eq_true (Nat.mod_lt i (by decide)), decide_eq_true h2]
    · rw [if_neg h2, Nat.zero_testBit, decide_eq_false h2]
theorem shl_tb {b n i : Nat} (hi : i < 256) : (b * 2 ^ n % 2 ^ 256).testBit i = (decide (n ≤ i) && b.testBit (i - n)) := by
  rw [tb_mod, decide_eq_true hi, Bool.true_and, tb_mul]
theorem sar_tb {b n i : Nat} (hb : b < 2 ^ 256) (hn : n ≤ 256) (hi : i < 256) : (sx b / 2 ^ n % 2 ^ 256).testBit i = if n + i < 256 then b.testBit (n + i) else b.testBit 255 := by
  rw [tb_mod, decide_eq_true hi, Bool.true_and, tb_div, sx_tb hb (by omega)]
theorem ext_tb {a b i : Nat} (ha : a ≤ 30) (hi : i < 256) : (opv 8 a b).testBit i = if i < 8 * a + 8 then b.testBit i else b.testBit (8 * a + 7) := by
  show (sx (b * 2 ^ (8 * (31 - min a 31)) % 2 ^ 256) / 2 ^ (8 * (31 - min a 31)) % 2 ^ 256).testBit i = _
  rw [show min a 31 = a by omega, sar_tb (Nat.mod_lt _ (pw_pos 256)) (by omega) hi]
  by_cases h : i < 8 * a + 8
  · rw [if_pos h, if_pos (by omega), shl_tb (by omega), decide_eq_true (by omega), Bool.true_and]
    congr 1
    omega
  · rw [if_neg h, if_neg (by omega), shl_tb (by omega), decide_eq_true (by omega), Bool.true_and]
    congr 1
    omega
theorem ext_big {a b : Nat} (ha : 31 ≤ a) (hb : b < 2 ^ 256) : opv 8 a b = b := by
  show sx (b * 2 ^ (8 * (31 - min a 31)) % 2 ^ 256) / 2 ^ (8 * (31 - min a 31)) % 2 ^ 256 = b
  rw [show 8 * (31 - min a 31) = 0 by omega, Nat.pow_zero, Nat.mul_one, Nat.div_one, Nat.mod_eq_of_lt hb]
  unfold sx
  split
  · rw [Nat.add_mul_mod_self_left, Nat.mod_eq_of_lt hb]
  · exact Nat.mod_eq_of_lt hb
-- the reference's scratch rows
def SM (cI : ClassId) (o : Nat) (H : Heap) : Prop := (∃ f, hI H cI (o + 18) 8 f) ∧ (∃ f, hI H cI (o + 19) 8 f) ∧ (∃ f, hI H cI (o + 20) 8 f) ∧ (∃ f, hI H cI (o + 21) 8 f ∧ NI f 8 0) ∧ (∃ f, hI H cI (o + 22) 17 f) ∧ (∃ f, hI H cI (o + 23) 16 f) ∧ ∃ f, hI H cI (o + 24) 9 f
theorem MSd {o : Nat} {H0 H H1 : Heap} (h : XF (MS o) H0 H) (hF : XF (fun q => q = o + 22 ∨ WA o q) H H1) : XF (MS o) H0 H1 := h.tr hF (fun q e => by
  rcases e with e | e | e <;> (rw [e]; exact ⟨by omega, by omega⟩))
theorem nDv {o a : Nat} (h : a < o + 22 ∨ o + 25 ≤ a) : ¬ (a = o + 22 ∨ WA o a) := fun e => by rcases e with e | e | e <;> omega
theorem MB.fd {D : va_G} {cR : ClassId} {o : Nat} {fl : Int32} {H H1 : Heap} (h : MB D cR o fl H) (hF : XF (fun q => q = o + 22 ∨ WA o q) H H1) : MB D cR o fl H1 := h.f hF (nDv (by omega)) (nDv (by omega))
