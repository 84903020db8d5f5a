-- the registers
def RG (cJ : ClassId) (o : Nat) (V : Nat → Nat) (H : Heap) : Prop := ∀ r, r < 16 → ∃ f : Nat → Int64, hL H cJ (o + 2 + r) 8 f ∧ NL f 8 (V r)
def CO (D : va_G) (cJ cQ : ClassId) (o : Nat) (V : Nat → Nat) (H : Heap) : Prop := CB D cQ o H ∧ SC cJ o H ∧ RG cJ o V H
theorem RG.f {cJ : ClassId} {o : Nat} {V : Nat → Nat} {A : Nat → Prop} {H H1 : Heap} (h : RG cJ o V H) (hF : XF A H H1) (ha : ∀ r, r < 16 → ¬ A (o + 2 + r)) : RG cJ o V H1 := fun r hr => by
  obtain ⟨f, h1, h2⟩ := h r hr
  exact ⟨f, hL_f h1 hF (ha r hr), h2⟩
theorem RG.fS {cJ : ClassId} {o : Nat} {V : Nat → Nat} {H H1 : Heap} (h : RG cJ o V H) (hF : XF (SA o) H H1) : RG cJ o V H1 := h.f hF (fun r hr => nSA (by omega))
theorem RG.f1 {cJ : ClassId} {o z : Nat} {V : Nat → Nat} {H H1 : Heap} (h : RG cJ o V H) (hF : XF (fun q => q = z) H H1) (hz : o + 18 ≤ z) : RG cJ o V H1 := h.f hF (fun r hr e => by have e : o + 2 + r = z := e; omega)
theorem RG.fD {cJ : ClassId} {o : Nat} {V : Nat → Nat} {H H1 : Heap} (h : RG cJ o V H) (hF : XF (DA o) H H1) : RG cJ o V H1 := h.f hF (fun r hr => nDA (by omega))
theorem RG.put {cJ : ClassId} {o k v : Nat} {V : Nat → Nat} {f : Nat → Int64} {H H1 : Heap} (h : RG cJ o V H) (hF : XF (fun q => q = o + 2 + k) H H1) (hf : hL H1 cJ (o + 2 + k) 8 f) (hN : NL f 8 v) : RG cJ o (va_up V k v) H1 := fun r hr => by
  by_cases e : r = k
  · subst e
    exact ⟨f, hf, by rw [va_up_self]; exact hN⟩
  · obtain ⟨g, h1, h2⟩ := h r hr
    exact ⟨g, hL_f h1 hF (show o + 2 + r ≠ o + 2 + k by omega), by rw [va_up_ne _ _ e]; exact h2⟩
theorem SC.f1 {cJ : ClassId} {o z : Nat} {H H1 : Heap} (h : SC cJ o H) (hF : XF (fun q => q = z) H H1) (hz : z < o + 18) : SC cJ o H1 := by
  obtain ⟨⟨f18, h18⟩, ⟨f19, h19⟩, ⟨f20, h20⟩, ⟨f21, h21⟩, ⟨f22, h22⟩, ⟨f23, h23⟩⟩ := h
  exact ⟨⟨_, hL_f h18 hF (show o + 18 ≠ z by omega)⟩, ⟨_, hL_f h19 hF (show o + 19 ≠ z by omega)⟩, ⟨_, hL_f h20 hF (show o + 20 ≠ z by omega)⟩, ⟨_, hL_f h21 hF (show o + 21 ≠ z by omega)⟩, ⟨_, hL_f h22 hF (show o + 22 ≠ z by omega)⟩, ⟨_, hL_f h23 hF (show o + 23 ≠ z by omega)⟩⟩
theorem SA_CA {o q : Nat} (h : SA o q) : CA o q := ⟨by have := h.1; omega, h.2⟩
-- what the methods answer
def gp (v k : Nat) : Nat := dg v (2 * (3 - k) + 1) * 4294967296 ||| dg v (2 * (3 - k))
def sv (p0 p1 p2 p3 : Nat) : Nat := p3 + 18446744073709551616 * p2 + 340282366920938463463374607431768211456 * p1 + 6277101735386680763835789423207666416102355444464034512896 * p0
def cmpv (z : Int32) (a b : Nat) : Int32 := if z = 0 then ordv a b else if 2 ^ 255 ≤ a ∧ ¬ 2 ^ 255 ≤ b then -1 else if ¬ 2 ^ 255 ≤ a ∧ 2 ^ 255 ≤ b then 1 else ordv a b
def byv (v n : Nat) : Prop := v < 2 ^ (8 * n) ∧ (n = 0 ∨ 2 ^ (8 * (n - 1)) ≤ v)
def mdv (z : Int32) (a b c : Nat) : Nat := if c = 0 then 0 else (if z = 0 then a + b else a * b) % c
def trn (z : Int32) (a : Nat) : Nat := if z = 0 then (2 ^ 256 - a) % 2 ^ 256 else 2 ^ 256 - (a + 1)
theorem by_of {v k : Nat} (h : ub v k) : byv v ((k + 7) / 8) := by
  obtain ⟨h1, h2⟩ := h
  refine ⟨Nat.lt_of_lt_of_le h1 (pw_le (by omega)), ?_⟩
  by_cases h0 : (k + 7) / 8 = 0
  · exact Or.inl h0
  · exact Or.inr (Nat.le_trans (pw_le (by omega)) (h2.resolve_left (by omega)))
theorem sv_lt {p0 p1 p2 p3 : Nat} (h0 : p0 < 18446744073709551616) (h1 : p1 < 18446744073709551616) (h2 : p2 < 18446744073709551616) (h3 : p3 < 18446744073709551616) : sv p0 p1 p2 p3 < 2 ^ 256 := by
  unfold sv
  omega
theorem sv_dg {p0 p1 p2 p3 : Nat} (h0 : p0 < 18446744073709551616) (h1 : p1 < 18446744073709551616) (h2 : p2 < 18446744073709551616) (h3 : p3 < 18446744073709551616) :
    dg (sv p0 p1 p2 p3) 0 = p3 % 4294967296 ∧ dg (sv p0 p1 p2 p3) 1 = p3 / 4294967296 ∧ dg (sv p0 p1 p2 p3) 2 = p2 % 4294967296 ∧ dg (sv p0 p1 p2 p3) 3 = p2 / 4294967296 ∧ dg (sv p0 p1 p2 p3) 4 = p1 % 4294967296 ∧ dg (sv p0 p1 p2 p3) 5 = p1 / 4294967296 ∧ dg (sv p0 p1 p2 p3) 6 = p0 % 4294967296 ∧ dg (sv p0 p1 p2 p3) 7 = p0 / 4294967296 := by
  unfold dg sv
  refine ⟨?_, ?_, ?_, ?_, ?_, ?_, ?_, ?_⟩ <;> omega
theorem j8 {j : Nat} (h : j < 8) : j = 0 ∨ j = 1 ∨ j = 2 ∨ j = 3 ∨ j = 4 ∨ j = 5 ∨ j = 6 ∨ j = 7 := by omega
theorem opv_up {V : Nat → Nat} {k v : Nat} (hV : ∀ r, r < 16 → V r < 2 ^ 256) (hv : v < 2 ^ 256) : ∀ r, r < 16 → va_up V k v r < 2 ^ 256 := fun r hr => by
  by_cases e : r = k
  · subst e; rw [va_up_self]; exact hv
  · rw [va_up_ne _ _ e]; exact hV r hr
theorem mdv_lt {z : Int32} {a b c : Nat} (hc : c < 2 ^ 256) : mdv z a b c < 2 ^ 256 := by
  unfold mdv
  split
  · exact pw_pos 256
  · rename_i h
    exact Nat.lt_trans (Nat.mod_lt _ (Nat.pos_of_ne_zero h)) hc
theorem trn_lt {z : Int32} {a : Nat} : trn z a < 2 ^ 256 := by
  unfold trn
  split
  · exact Nat.mod_lt _ (pw_pos 256)
  · omega
