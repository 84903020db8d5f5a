-- the class's object at o: its array of rows at o + 1, the registers at o + 2 .. o + 17, result, first, second, whole, quotient, remainder at o + 18 .. o + 23
def CF (o : Nat) : List Value := [.ref (o + 1), .ref (o + 18), .ref (o + 19), .ref (o + 20), .ref (o + 21), .ref (o + 22), .ref (o + 23)]
def CB (D : va_G) (cQ : ClassId) (o : Nat) (H : Heap) : Prop := va_P D vwCl [(o, .inr (0, CF o))] H ∧ hQ H cQ (o + 1) 16 (fun i => if i < 16 then some (o + 2 + i) else none)
theorem CB.f {D : va_G} {cQ : ClassId} {o : Nat} {H H1 : Heap} {A : Nat → Prop} (h : CB D cQ o H) (hF : XF A H H1) (h0 : ¬ A o) (h1 : ¬ A (o + 1)) : CB D cQ o H1 := by
  refine ⟨h.1.kept (fun k q hq => ?_), hQ_f h.2 hF h1⟩
  have hl := (h.1 k q hq).lt
  match k, hq with
  | 0, hq => cases hq; exact hF.2 _ hl h0
  | k + 1, hq => cases hq
theorem CB.f1 {D : va_G} {cQ : ClassId} {o z : Nat} {H H1 : Heap} (h : CB D cQ o H) (hF : XF (fun q => q = z) H H1) (hz : o + 2 ≤ z) : CB D cQ o H1 := h.f hF (fun e => by have e : o = z := e; omega) (fun e => by have e : o + 1 = z := e; omega)
/-- the cells that the class's methods write -/
def CA (o : Nat) : Nat → Prop := fun q => o + 2 ≤ q ∧ q < o + 24
def DA (o : Nat) : Nat → Prop := fun q => q = o + 22 ∨ q = o + 23
theorem CB.fA {D : va_G} {cQ : ClassId} {o : Nat} {H H1 : Heap} (h : CB D cQ o H) (hF : XF (CA o) H H1) : CB D cQ o H1 := h.f hF (fun e => by have e := e.1; omega) (fun e => by have e := e.1; omega)
theorem CB.fD {D : va_G} {cQ : ClassId} {o : Nat} {H H1 : Heap} (h : CB D cQ o H) (hF : XF (DA o) H H1) : CB D cQ o H1 := h.f hF (fun e => by rcases e with e | e <;> omega) (fun e => by rcases e with e | e <;> omega)
theorem CB.rv {D : va_G} {cQ : ClassId} {o : Nat} {H : Heap} {s : State} {tys : List (ClassId × FieldType)} (h : CB D cQ o H) (hK : va_K D vwCl tys s) : ∃ cellB : Cell, H[o]? = some cellB ∧ cellB.vm.isStatics = false ∧ s.vm.findClass "WideNumbers" = some cellB.cls := va_recv (ci := 0) (q := ("WideNumbers", F_C, 7)) hK h.1 rfl (q0 := 0) rfl
-- division bit by bit
theorem dv_b (v t : Nat) : v / 2 ^ t = 2 * (v / 2 ^ (t + 1)) + v / 2 ^ t % 2 := by
  rw [Nat.pow_succ, ← Nat.div_div_eq_div_mul]
  exact (Nat.div_add_mod _ 2).symm
theorem dv_ge {T d b : Nat} (hb : b ≤ 1) (h : d ≤ 2 * (T % d) + b) (hd : 0 < d) : (2 * T + b) / d = 2 * (T / d) + 1 ∧ (2 * T + b) % d = 2 * (T % d) + b - d := by
  have e := Nat.div_add_mod T d
  have hm := Nat.mod_lt T hd
  generalize hR : T % d = R at *
  generalize hQ : T / d = Q at *
  have e2 : 2 * T + b = (2 * R + b - d) + d * (2 * Q + 1) := by
    rw [← e, Nat.mul_add d, Nat.mul_one, Nat.mul_left_comm d 2 Q]
    omega
  rw [e2, Nat.add_mul_div_left _ _ hd, Nat.add_mul_mod_self_left, Nat.div_eq_of_lt (by omega), Nat.mod_eq_of_lt (by omega)]
  omega
theorem dv_lt {T d b : Nat} (h : 2 * (T % d) + b < d) : (2 * T + b) / d = 2 * (T / d) ∧ (2 * T + b) % d = 2 * (T % d) + b := by
  have hd : 0 < d := by omega
  have e := Nat.div_add_mod T d
  generalize hR : T % d = R at *
  generalize hQ : T / d = Q at *
  have e2 : 2 * T + b = (2 * R + b) + d * (2 * Q) := by
    rw [← e, Nat.mul_left_comm d 2 Q]
    omega
  rw [e2, Nat.add_mul_div_left _ _ hd, Nat.add_mul_mod_self_left, Nat.div_eq_of_lt h, Nat.mod_eq_of_lt h]
  omega
theorem q_tw (Q t : Nat) : Q * 2 ^ (t + 1) = 2 * Q * 2 ^ t := by rw [Nat.pow_succ, Nat.mul_comm (2 ^ t) 2, ← Nat.mul_assoc, Nat.mul_comm Q 2]
theorem q_bit (Q t j : Nat) : dg ((2 * Q + 1) * 2 ^ t) j = if j = t / 32 then dg (2 * Q * 2 ^ t) j ||| 2 ^ (t % 32) else dg (2 * Q * 2 ^ t) j := by
  have key : ∀ k, ((2 * Q + 1) * 2 ^ t).testBit k = ((2 * Q * 2 ^ t).testBit k || decide (k = t)) := by
    intro k
    rw [tb_mul, tb_mul]
    by_cases h : t ≤ k
    · rw [decide_eq_true h, Bool.true_and, Bool.true_and]
      by_cases h2 : k = t
      · subst h2
        rw [Nat.sub_self, Nat.testBit_zero, decide_eq_true rfl, Bool.or_true]
        simp
      · rw [decide_eq_false h2, Bool.or_false]
        obtain ⟨u, hu⟩ : ∃ u, k - t = u + 1 := ⟨k - t - 1, by omega⟩
        rw [hu, Nat.testBit_succ, Nat.testBit_succ]
        congr 1
        omega
    · rw [decide_eq_false h, decide_eq_false (show ¬ k = t by omega)]
      rfl
  have hm := Nat.mod_lt t (show 0 < 32 by decide)
  have hd := Nat.div_add_mod t 32
  apply Nat.eq_of_testBit_eq
  intro u
  rw [dg_tb, key]
  by_cases hj : j = t / 32
  · rw [if_pos hj, Nat.testBit_or, dg_tb, Nat.testBit_two_pow]
    by_cases hu : u < 32
    · rw [decide_eq_true hu, Bool.true_and, Bool.true_and]
      congr 1
      exact decide_eq_decide.mpr ⟨fun h => by omega, fun h => by omega⟩
    · rw [decide_eq_false hu, Bool.false_and, Bool.false_and, decide_eq_false (show ¬ t % 32 = u by omega)]
      rfl
  · rw [if_neg hj, dg_tb]
    by_cases hu : u < 32
    · rw [decide_eq_false (show ¬ 32 * j + u = t by omega), Bool.or_false]
    · rw [decide_eq_false hu, Bool.false_and, Bool.false_and]
