-- what the law's body stands on
theorem SM.f {cI : ClassId} {o : Nat} {A : Nat → Prop} {H H1 : Heap} (h : SM cI o H) (hF : XF A H H1) (ha : ∀ q, o ≤ q → q < o + 25 → ¬ A q) : SM cI o H1 := by
  obtain ⟨⟨f18, h18⟩, ⟨f19, h19⟩, ⟨f20, h20⟩, ⟨f21, h21, h21n⟩, ⟨f22, h22⟩, ⟨f23, h23⟩, ⟨f24, h24⟩⟩ := h
  exact ⟨⟨_, hI_f h18 hF (ha _ (by omega) (by omega))⟩, ⟨_, hI_f h19 hF (ha _ (by omega) (by omega))⟩, ⟨_, hI_f h20 hF (ha _ (by omega) (by omega))⟩, ⟨_, hI_f h21 hF (ha _ (by omega) (by omega)), h21n⟩, ⟨_, hI_f h22 hF (ha _ (by omega) (by omega))⟩, ⟨_, hI_f h23 hF (ha _ (by omega) (by omega))⟩, ⟨_, hI_f h24 hF (ha _ (by omega) (by omega))⟩⟩
theorem MO.f {D : va_G} {cI cR : ClassId} {o : Nat} {fl : Int32} {V : Nat → Nat} {A : Nat → Prop} {H H1 : Heap} (h : MO D cI cR o fl V H) (hF : XF A H H1) (ha : ∀ q, o ≤ q → q < o + 25 → ¬ A q) : MO D cI cR o fl V H1 := ⟨h.1.f hF (ha _ (by omega) (by omega)) (ha _ (by omega) (by omega)), h.2.1.f hF ha, h.2.2.f hF (fun r hr => ha _ (by omega) (by omega))⟩
theorem LAo {o z : Nat} (h : LA o (o + 49) z) : o ≤ z := by
  rcases h with h | h
  · have := h.1; omega
  · omega
theorem LAn {o z : Nat} (h : LA o (o + 49) z) (h1 : o + 24 ≤ z) (h2 : z < o + 49) : False := by
  rcases h with h | h
  · have := h.2; omega
  · omega
def PL (a b : Int32) : Int64 := (a.toInt64 <<< ((nI 32).toInt64 &&& 63)) ||| (b.toInt64 &&& 4294967295)
def PN (a b : Int32) : Nat := (PL a b).toBitVec.toNat
theorem PL_eq (a b : Int32) : (a.toInt64 <<< ((nI 32).toInt64 &&& 63)) ||| (b.toInt64 &&& 4294967295) = lN (PN a b) := jN_inj (by rw [jN_tb]; show (PL a b).toBitVec = BitVec.ofNat 64 (PL a b).toBitVec.toNat; simp)
theorem PN_lt (a b : Int32) : PN a b < 18446744073709551616 := (PL a b).toBitVec.isLt
theorem nI_un {a b n : Nat} (ha : a < n) (hb : b < n) (hn : n ≤ 16) {x : Int32} (h1 : x = nI a) (h2 : x = nI b) : a = b := (nI_eq (by omega) (by omega)).mp (h1.symm.trans h2)
theorem lgs (a : Int64) : lg_cmp a a = 0 := Int32.le_antisymm ((lg_cmp_le _ _).mpr (Int64.le_refl _)) ((lg_cmp_ge _ _).mpr (Int64.le_refl _))
theorem and7 (x : Int32) : ∃ k, k < 8 ∧ x &&& nI 7 = nI k := by
  obtain ⟨n, hn, rfl⟩ := iN_of x
  exact ⟨n % 8, Nat.mod_lt _ (by decide), pk_andN hn 3 (by decide)⟩
theorem l_neg : ∀ L : Nat, L < 10 → nI L - nI 10 < nI 0 := by decide +kernel
theorem gdS {own : String} {idx : Nat} {y : MethodName} {c : Cond} (hc : c ∈ WT) (h1 : Cond.methodLink own idx y ∈ WT) (h2 : Cond.static y ∈ WT) (h3 : Cond.initialized y.cls ∈ WT) : GoodIn WT (va_wsS own idx y (c :: WT)) := fun w hw => by
  have hw2 : w ∈ WT := by
    unfold va_wsS at hw
    rcases List.mem_append.mp hw with h | h
    · rcases List.mem_cons.mp h with h | h
      · rw [h]; exact h1
      · rcases List.mem_cons.mp h with h | h
        · rw [h]; exact h2
        · rw [List.mem_singleton.mp h]; exact h3
    · exact (List.mem_cons.mp h).elim (fun e => e ▸ hc) id
  exact ⟨hw2, good_of_word (List.mem_filter.mp hw2).2⟩
/-- the law's standing facts -/
def LCt (p : Program) (l : Launch) (s : State) (m : MethodId) (c : Code) (D : va_G) (cJ cI cQ cR : ClassId) (sa o b L : Nat) (xs : Nat → Int32) : Prop :=
  p.tables.exec = Jvm.exec ∧ c.code = code ∧ c.maxLocals = 8 ∧ s.vm.findClass "WideNumbersLaw" = some m.cls ∧ (∀ w ∈ WT, w.before #[Value.ref b] s = true) ∧ va_X b L xs s s.heap ∧ b < s.heap.size ∧ va_K D vwCl (TY cJ cI cQ cR) s ∧ XE o sa s ∧ l.stackTraces = false ∧ s.heap.size = o ∧ L ≤ 5120
/-- what holds between two steps -/
def LSt (D : va_G) (cJ cI cQ cR : ClassId) (s : State) (o : Nat) (V : Nat → Nat) (H : Heap) (locs : List Loc) : Prop :=
  (∀ q ∈ locs, o ≤ q.base) ∧ XF (fun z => o ≤ z) s.heap H ∧ (∀ r, r < 16 → V r < 2 ^ 256) ∧ CO D cJ cQ o V H ∧ (∃ fl, MO D cI cR (o + 24) fl V H) ∧ ∃ f : Nat → Int64, hL H cJ (o + 49) 1 f
abbrev LLt (o b i : Nat) : List (Nat × Value) := [(4, .int (nI i)), (0, .ref b), (1, .ref o), (2, .ref (o + 24)), (3, .ref (o + 49))]
section XS
variable {p : Program} {l : Launch} {e : Env} {R : Room} {s : State} {m : MethodId} {args : Array Value} {below : List Frame} {meth : Method} {c : Code} {H : Heap} {locs : List Loc} {cells slots : Nat} {Q : State → Prop}
variable {cc : ByteArray} {pc : Nat} {ls : Array Slot} {rest : List Value}
theorem x_sld (hexec : p.tables.exec = Jvm.exec) (hb : c.code = cc) {b L o : Nat} {xs : Nat → Int32} (ho : s.heap.size = o) (hX : va_X b L xs s s.heap) (hbl : b < s.heap.size) (hF : XF (fun z => o ≤ z) s.heap H) (hlo : ∀ q ∈ locs, o ≤ q.base) (k : Nat) (hk : k < L) (hL : L ≤ 5120) (hdg : decode cc pc = .ok (.iaload, 1))
    (kk : W p l e R s m args below meth c H locs cells slots Q (F0 m (pc + 1) ls (.int (xs k) :: rest))) : W p l e R s m args below meth c H locs cells slots Q (F0 m pc ls (.int (nI k) :: .ref b :: rest)) := by
  refine va_sld (A := fun z => o ≤ z) hexec hb hX hbl (fun h : o ≤ b => by omega) ⟨hF.1, hF.2, hlo⟩ (vp_in_nI hk (by omega)) hdg ?_
  rw [nI_clamp (show k < 2 ^ 31 by omega)]
  exact kk
/-- an object that comes -/
theorem x_newo (hexec : p.tables.exec = Jvm.exec) (hb : c.code = cc) {own C : String} {T : u_T} {N ci index : Nat} (htw : ∀ w ∈ WT, w.before args s = true) (hin : ∀ w ∈ u_ws C T N, w ∈ WT) (ty : Nat → FieldType) (hty : ∀ k, k < N → parseFieldDescriptor (T k).2.2.1 = some (ty k)) (hown : s.vm.findClass own = some m.cls) (hcl : (Cond.classLink own index C).before args s = true) (hinst : (Cond.instantiable C N).before args s = true) (hini : (Cond.initialized C).before args s = true)
    {D : va_G} {tys : List (ClassId × FieldType)} (hK : va_K D vwCl tys s) (hc : vwCl[ci]? = some (C, T, N)) {fs : List Value} (hfs : ∀ j, j < N → defaultValue (ty j) = vp_V fs j) (hcells : cells + 1 ≤ R.cells) (hslots : slots + N ≤ R.slots) {o : Nat} (ho : H.size = o) (hdg : decode cc pc = .ok (.new index, 3))
    (kk : ∀ H1 : Heap, va_P D vwCl [(o, .inr (ci, fs))] H1 → H1.size = o + 1 → XF (fun _ => False) H H1 → W p l e R s m args below meth c H1 locs (cells + 1) (slots + N) Q (F0 m (pc + 3) ls (.ref o :: rest))) : W p l e R s m args below meth c H locs cells slots Q (F0 m pc ls rest) := by
  have hKn := hK.1 ci _ hc
  refine W.newcK hexec hb hown hcl hinst hini rfl hdg hcells hslots hKn.2.1 ho fun H1 kC hkC e1 z1 o1 => ?_
  refine kk H1 (fun j q hq => ?_) z1 ⟨by omega, fun q hq _ => o1 q (by omega)⟩
  match j, hq with
  | 0, hq => cases hq; exact ⟨_, hc, (u_born ty htw hin hKn hkC e1 hty).to hfs⟩
  | j + 1, hq => cases hq
/-- a loop in which cells come at each turn -/
theorem x_loopC (pc : Nat) (I : Nat → Heap → List Loc → Array Slot → Prop) (n : Nat) (cs ss : Nat → Nat)
    (hstep : ∀ (i : Nat) (H : Heap) (locs : List Loc) (ls : Array Slot), i < n → I i H locs ls → (∀ (H' : Heap) (locs' : List Loc) (ls' : Array Slot), I (i + 1) H' locs' ls' → W p l e R s m args below meth c H' locs' (cs (i + 1)) (ss (i + 1)) Q (F0 m pc ls' [])) → W p l e R s m args below meth c H locs (cs i) (ss i) Q (F0 m pc ls []))
    (hend : ∀ (H : Heap) (locs : List Loc) (ls : Array Slot), I n H locs ls → W p l e R s m args below meth c H locs (cs n) (ss n) Q (F0 m pc ls [])) (H : Heap) (locs : List Loc) (ls : Array Slot) (h : I 0 H locs ls) : W p l e R s m args below meth c H locs (cs 0) (ss 0) Q (F0 m pc ls []) := by
  have key : ∀ (k i : Nat) (H : Heap) (locs : List Loc) (ls : Array Slot), i + k = n → I i H locs ls → W p l e R s m args below meth c H locs (cs i) (ss i) Q (F0 m pc ls []) := by
    intro k
    induction k with
    | zero =>
      intro i H locs ls hi h
      obtain rfl : i = n := by omega
      exact hend H locs ls h
    | succ k ih => exact fun i H locs ls hi h => hstep i H locs ls (by omega) h (fun H' locs' ls' h' => ih (i + 1) H' locs' ls' (by omega) h')
  exact key n 0 H locs ls (by omega) h
end XS
