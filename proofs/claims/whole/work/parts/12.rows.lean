-- rows over the heap itself: an array of longs, of ints, of references at an address
def hL (H : Heap) (cA : ClassId) (a n : Nat) (f : Nat → Int64) : Prop := H[a]? = some (vp_cell cA (n, .inr (.inl f)))
def hI (H : Heap) (cA : ClassId) (a n : Nat) (f : Nat → Int32) : Prop := H[a]? = some (vp_cell cA (n, .inl f))
def hQ (H : Heap) (cA : ClassId) (a n : Nat) (f : Nat → Option Nat) : Prop := H[a]? = some (vp_cell cA (n, .inr (.inr (.inr (.inr f)))))
theorem hL_lt {H : Heap} {cA : ClassId} {a n : Nat} {f : Nat → Int64} (h : hL H cA a n f) : a < H.size := (Array.getElem?_eq_some_iff.mp h).1
theorem hI_lt {H : Heap} {cA : ClassId} {a n : Nat} {f : Nat → Int32} (h : hI H cA a n f) : a < H.size := (Array.getElem?_eq_some_iff.mp h).1
theorem hL_eq {H : Heap} {cA : ClassId} {a n : Nat} {f g : Nat → Int64} (h : hL H cA a n f) (h2 : hL H cA a n g) {j : Nat} (hj : j < n) : f j = g j := by
  have e : vp_cell cA (n, .inr (.inl f)) = vp_cell cA (n, .inr (.inl g)) := Option.some.inj (h.symm.trans h2)
  rw [vp_cell_l, vp_cell_l] at e
  have e1 := congrArg (fun z : Cell => z.slots[j]?) e
  rw [arrV_read _ _ hj, arrV_read _ _ hj] at e1
  exact Value.long.inj (Option.some.inj e1)
theorem hI_eq {H : Heap} {cA : ClassId} {a n : Nat} {f g : Nat → Int32} (h : hI H cA a n f) (h2 : hI H cA a n g) {j : Nat} (hj : j < n) : f j = g j := by
  have e : vp_cell cA (n, .inl f) = vp_cell cA (n, .inl g) := Option.some.inj (h.symm.trans h2)
  rw [vp_cell_i, vp_cell_i] at e
  have e1 := congrArg (fun z : Cell => z.slots[j]?) e
  rw [arrV_read _ _ hj, arrV_read _ _ hj] at e1
  exact Value.int.inj (Option.some.inj e1)
/-- nothing that was there changes but what A names -/
def XF (A : Nat → Prop) (H0 H : Heap) : Prop := H0.size ≤ H.size ∧ ∀ q : Nat, q < H0.size → ¬ A q → H[q]? = H0[q]?
theorem XF.rf {A : Nat → Prop} {H : Heap} : XF A H H := ⟨Nat.le_refl _, fun _ _ _ => rfl⟩
theorem XF.tr {A B : Nat → Prop} {H0 H H1 : Heap} (h : XF A H0 H) (h1 : XF B H H1) (hB : ∀ q, B q → A q) : XF A H0 H1 := ⟨Nat.le_trans h.1 h1.1, fun q hl hq => (h1.2 q (Nat.lt_of_lt_of_le hl h.1) (fun z => hq (hB q z))).trans (h.2 q hl hq)⟩
theorem XF.wk {A B : Nat → Prop} {H0 H : Heap} (h : XF A H0 H) (hB : ∀ q, A q → B q) : XF B H0 H := ⟨h.1, fun q hl hq => h.2 q hl (fun z => hq (hB q z))⟩
theorem hL_f {A : Nat → Prop} {H H1 : Heap} {cA : ClassId} {a n : Nat} {f : Nat → Int64} (h : hL H cA a n f) (hF : XF A H H1) (ha : ¬ A a) : hL H1 cA a n f := (hF.2 a (Array.getElem?_eq_some_iff.mp h).1 ha).trans h
theorem hI_f {A : Nat → Prop} {H H1 : Heap} {cA : ClassId} {a n : Nat} {f : Nat → Int32} (h : hI H cA a n f) (hF : XF A H H1) (ha : ¬ A a) : hI H1 cA a n f := (hF.2 a (Array.getElem?_eq_some_iff.mp h).1 ha).trans h
theorem hQ_f {A : Nat → Prop} {H H1 : Heap} {cA : ClassId} {a n : Nat} {f : Nat → Option Nat} (h : hQ H cA a n f) (hF : XF A H H1) (ha : ¬ A a) : hQ H1 cA a n f := (hF.2 a (Array.getElem?_eq_some_iff.mp h).1 ha).trans h
/-- a store at place k of the row at a: another row, or the same one, holds what it held but at k -/
theorem hL_al {H H1 : Heap} {cA : ClassId} {a b n k : Nat} {f g : Nat → Int64} {v : Int64} (ha : hL H cA a n f) (h1 : hL H1 cA a n (vp_updL f k v)) (hF : XF (fun q => q = a) H H1) (hb : hL H cA b n g) : ∃ g', hL H1 cA b n g' ∧ ∀ j, j < n → j ≠ k → g' j = g j := by
  by_cases e : b = a
  · subst e
    exact ⟨_, h1, fun j hj hk => by rw [pk_uLn hk]; exact hL_eq ha hb hj⟩
  · exact ⟨g, hL_f hb hF e, fun _ _ _ => rfl⟩
theorem hI_al {H H1 : Heap} {cA : ClassId} {a b n k : Nat} {f g : Nat → Int32} {v : Int32} (ha : hI H cA a n f) (h1 : hI H1 cA a n (upd f k v)) (hF : XF (fun q => q = a) H H1) (hb : hI H cA b n g) : ∃ g', hI H1 cA b n g' ∧ ∀ j, j < n → j ≠ k → g' j = g j := by
  by_cases e : b = a
  · subst e
    exact ⟨_, h1, fun j hj hk => by rw [pk_un hk]; exact hI_eq ha hb hj⟩
  · exact ⟨g, hI_f hb hF e, fun _ _ _ => rfl⟩
section XR
variable {p : Program} {l : Launch} {e : Env} {R : Room} {s : State} {m : MethodId} {args : Array Value} {below : List Frame} {meth : Method} {c : Code} {H : Heap} {locs : List Loc} {cells slots : Nat} {Q : State → Prop}
variable {cc : ByteArray} {pc : Nat} {ls : Array Slot} {rest : List Value} {A : Nat → Prop} {cA : ClassId} {a n : Nat}
theorem x_locs {A : Nat → Prop} {locs : List Loc} {a k : Nat} (h : ∀ q ∈ locs, A q.base) (ha : A a) : ∀ q ∈ locs ++ [(⟨a, k⟩ : Loc)], A q.base := by
  intro q hq
  rcases List.mem_append.mp hq with h1 | h1
  · exact h q h1
  · rw [List.mem_singleton.mp h1]; exact ha
theorem x_topl {x v : Int64} (h : x = v) (k : W p l e R s m args below meth c H locs cells slots Q (F0 m pc ls (.long v :: rest))) : W p l e R s m args below meth c H locs cells slots Q (F0 m pc ls (.long x :: rest)) := by
  rw [h]; exact k
theorem x_topi {x v : Int32} (h : x = v) (k : W p l e R s m args below meth c H locs cells slots Q (F0 m pc ls (.int v :: rest))) : W p l e R s m args below meth c H locs cells slots Q (F0 m pc ls (.int x :: rest)) := by
  rw [h]; exact k
theorem x_lald (hexec : p.tables.exec = Jvm.exec) (hb : c.code = cc) (hA : ArrOfT s cA .long) {f : Nat → Int64} (ha : hL H cA a n f) {i : Int32} (k : Nat) (hi : i = nI k) (hk : k < n) (hn : n < 2 ^ 31) {v : Int64} (hv : f k = v) (hdg : decode cc pc = .ok (.laload, 1))
    (kk : W p l e R s m args below meth c H locs cells slots Q (F0 m (pc + 1) ls (.long v :: rest))) : W p l e R s m args below meth c H locs cells slots Q (F0 m pc ls (.int i :: .ref a :: rest)) := by
  subst hi
  subst hv
  have e1 : (nI k).toNatClampNeg = k := nI_clamp (by omega)
  exact W.lald (v := .long (f k)) hexec hb ha (hA n (fun j => .long (f j))) (fun q => by cases q) (by show ¬ (nI k < 0 ∨ (arrV _ _ _).slots.size ≤ _); rw [arrV_size]; exact vp_in_nI hk hn) (by show (arrV _ _ _).slots[_]? = _; rw [e1, arrV_read _ _ hk]) rfl rfl hdg kk
theorem x_iald (hexec : p.tables.exec = Jvm.exec) (hb : c.code = cc) (hA : ArrOfT s cA .int) {f : Nat → Int32} (ha : hI H cA a n f) {i : Int32} (k : Nat) (hi : i = nI k) (hk : k < n) (hn : n < 2 ^ 31) {v : Int32} (hv : f k = v) (hdg : decode cc pc = .ok (.iaload, 1))
    (kk : W p l e R s m args below meth c H locs cells slots Q (F0 m (pc + 1) ls (.int v :: rest))) : W p l e R s m args below meth c H locs cells slots Q (F0 m pc ls (.int i :: .ref a :: rest)) := by
  subst hi
  subst hv
  have e1 : (nI k).toNatClampNeg = k := nI_clamp (by omega)
  exact W.iald (v := .int (f k)) hexec hb ha (hA n (fun j => .int (f j))) (fun q => by cases q) (by show ¬ (nI k < 0 ∨ (arrV _ _ _).slots.size ≤ _); rw [arrV_size]; exact vp_in_nI hk hn) (by show (arrV _ _ _).slots[_]? = _; rw [e1, arrV_read _ _ hk]) rfl rfl hdg kk
theorem x_aald (hexec : p.tables.exec = Jvm.exec) (hb : c.code = cc) {ty : FieldType} (hr : ty.isReference = true) (hA : ArrOfT s cA ty) {f : Nat → Option Nat} (ha : hQ H cA a n f) {i : Int32} (k : Nat) (hi : i = nI k) (hk : k < n) (hn : n < 2 ^ 31) {v : Nat} (hv : f k = some v) (hdg : decode cc pc = .ok (.aaload, 1))
    (kk : W p l e R s m args below meth c H locs cells slots Q (F0 m (pc + 1) ls (.ref v :: rest))) : W p l e R s m args below meth c H locs cells slots Q (F0 m pc ls (.int i :: .ref a :: rest)) := by
  subst hi
  have e1 : (nI k).toNatClampNeg = k := nI_clamp (by omega)
  exact W.aald (v := .ref v) (ty := ty) hexec hb ha (hA n (fun j => va_rf (f j))) hr (fun q => by cases q) (by show ¬ (nI k < 0 ∨ (arrV _ _ _).slots.size ≤ _); rw [arrV_size]; exact vp_in_nI hk hn) (by show (arrV _ _ _).slots[_]? = _; rw [e1, arrV_read _ _ hk, hv]; rfl) rfl rfl hdg kk
theorem x_last (hexec : p.tables.exec = Jvm.exec) (hb : c.code = cc) (hA : ArrOfT s cA .long) {f : Nat → Int64} (ha : hL H cA a n f) (hlo : ∀ q ∈ locs, A q.base) (hAa : A a) {i : Int32} {x : Int64} (k : Nat) (hi : i = nI k) (hk : k < n) (hn : n < 2 ^ 31) (hdg : decode cc pc = .ok (.lastore, 1))
    (kk : ∀ (H1 : Heap) (locs1 : List Loc), hL H1 cA a n (vp_updL f k x) → XF (fun q => q = a) H H1 → (∀ q ∈ locs1, A q.base) → W p l e R s m args below meth c H1 locs1 cells slots Q (F0 m (pc + 1) ls rest)) : W p l e R s m args below meth c H locs cells slots Q (F0 m pc ls (.long x :: .int i :: .ref a :: rest)) := by
  subst hi
  have e1 : (nI k).toNatClampNeg = k := nI_clamp (by omega)
  refine W.last hexec hb ha (hA n (fun j => .long (f j))) (fun q => by cases q) (by show ¬ (nI k < 0 ∨ (arrV _ _ _).slots.size ≤ _); rw [arrV_size]; exact vp_in_nI hk hn) rfl rfl hdg fun H1 e2 z oq => ?_
  refine kk H1 _ ?_ ⟨Nat.le_of_eq z.symm, fun q _ hq => oq q hq⟩ (x_locs hlo hAa)
  show H1[a]? = some (vp_cell _ _)
  rw [e2, vp_cell_l, vp_cell_l, arrV_store, e1]
  congr 2
  funext q
  by_cases hq : q = k
  · subst hq
    simp [updV, vp_updL]
  · simp [updV, vp_updL, hq]
theorem x_iast (hexec : p.tables.exec = Jvm.exec) (hb : c.code = cc) (hA : ArrOfT s cA .int) {f : Nat → Int32} (ha : hI H cA a n f) (hlo : ∀ q ∈ locs, A q.base) (hAa : A a) {i : Int32} {x : Int32} (k : Nat) (hi : i = nI k) (hk : k < n) (hn : n < 2 ^ 31) (hdg : decode cc pc = .ok (.iastore, 1))
    (kk : ∀ (H1 : Heap) (locs1 : List Loc), hI H1 cA a n (upd f k x) → XF (fun q => q = a) H H1 → (∀ q ∈ locs1, A q.base) → W p l e R s m args below meth c H1 locs1 cells slots Q (F0 m (pc + 1) ls rest)) : W p l e R s m args below meth c H locs cells slots Q (F0 m pc ls (.int x :: .int i :: .ref a :: rest)) := by
  subst hi
  have e1 : (nI k).toNatClampNeg = k := nI_clamp (by omega)
  refine W.iast hexec hb ha (hA n (fun j => .int (f j))) (fun q => by cases q) (by show ¬ (nI k < 0 ∨ (arrV _ _ _).slots.size ≤ _); rw [arrV_size]; exact vp_in_nI hk hn) rfl rfl hdg fun H1 e2 z oq => ?_
  refine kk H1 _ ?_ ⟨Nat.le_of_eq z.symm, fun q _ hq => oq q hq⟩ (x_locs hlo hAa)
  show H1[a]? = some (vp_cell _ _)
  rw [e2, vp_cell_i, vp_cell_i, arrV_store, e1]
  congr 2
  funext q
  by_cases hq : q = k
  · subst hq
    simp [updV, upd]
  · simp [updV, upd, hq]
theorem x_len (hexec : p.tables.exec = Jvm.exec) (hb : c.code = cc) (hA : ArrOfT s cA .long) {f : Nat → Int64} (ha : hL H cA a n f) (hdg : decode cc pc = .ok (.arraylength, 1))
    (kk : W p l e R s m args below meth c H locs cells slots Q (F0 m (pc + 1) ls (.int (nI n) :: rest))) : W p l e R s m args below meth c H locs cells slots Q (F0 m pc ls (.ref a :: rest)) :=
  W.alen (n := Int32.ofNat n) hexec hb ha (hA n (fun j => .long (f j))) (by rw [vp_cell_l, arrV_size] <;> rfl) rfl rfl hdg kk
/-- a call's start: its arguments, the tables, what the heap holds -/
def xP (D : va_G) (cl : List vw_C) (tys : List (ClassId × FieldType)) (av : List Value) (B : Heap → Prop) : Array Value → State → Prop := fun v U => v = av.toArray ∧ va_K D cl tys U ∧ B U.heap
theorem xP_blind {D : va_G} {cl : List vw_C} {tys : List (ClassId × FieldType)} {av : List Value} {B : Heap → Prop} : FrameBlind (xP D cl tys av B) := fun a U g mk h => ⟨h.1, va_K.moved (u := U) (U := U.calling g mk a) (Vm.Alike.refl U.vm) h.2.1, h.2.2⟩
theorem xPre {D : va_G} {cl : List vw_C} {tys : List (ClassId × FieldType)} {As : List Value} {B : Heap → Prop} (hK : va_K D cl tys s) (hB : B H) : PreS s H (xP D cl tys As B) As := ⟨xP_blind, fun U hU hW => ⟨rfl, va_K.moved hW.alike hK, by rw [hU]; exact hB⟩⟩
theorem xPreV {D : va_G} {cl : List vw_C} {tys : List (ClassId × FieldType)} {As : List Value} {C : String} {b : Addr} {B : Heap → Prop} (hK : va_K D cl tys s) (hr : ∃ cellB : Cell, H[b]? = some cellB ∧ cellB.vm.isStatics = false ∧ s.vm.findClass C = some cellB.cls) (hB : B H) : PreV s H C b (xP D cl tys (.ref b :: As) B) As := ⟨xP_blind, hr, fun U hU hW => ⟨rfl, va_K.moved hW.alike hK, by rw [hU]; exact hB⟩⟩
/-- a call's end: the answer, the heap before and behind it -/
def xQv (B : Heap → Heap → Prop) : Array Value → State → Outcome → State → Prop := fun _ st o t => o = .returned none ∧ B st.heap t.heap
def xQi (B : Int32 → Heap → Heap → Prop) : Array Value → State → Outcome → State → Prop := fun _ st o t => ∃ r : Int32, o = .returned (some (.int r)) ∧ B r st.heap t.heap
def xQl (B : Int64 → Heap → Heap → Prop) : Array Value → State → Outcome → State → Prop := fun _ st o t => ∃ r : Int64, o = .returned (some (.long r)) ∧ B r st.heap t.heap
theorem x_lapp {A free : Nat → Prop} {locs L : List Loc} (h : ∀ q ∈ locs, A q.base) (hf : ∀ q, free q → A q) (hL : ∀ q ∈ L, free q.base) : ∀ q ∈ locs ++ L, A q.base := by
  intro q hq
  rcases List.mem_append.mp hq with h1 | h1
  · exact h q h1
  · exact hf _ (hL q h1)
theorem x_callv {st0 : List Value} {av : Array Value} {mc ms : Nat} {free : Addr → Prop} {B : Heap → Heap → Prop} (hr : va_Run p l e R s m args below meth c H locs cells slots mc ms (F0 m pc ls st0) rest (xQv B av) free) (hlo : ∀ q ∈ locs, A q.base) (hf : ∀ q, free q → A q)
    (kk : ∀ (H1 : Heap) (locs1 : List Loc), B H H1 → (∀ q ∈ locs1, A q.base) → W p l e R s m args below meth c H1 locs1 (cells + mc) (slots + ms) Q (F0 m (pc + 3) ls rest)) : W p l e R s m args below meth c H locs cells slots Q (F0 m pc ls st0) := by
  intro T hT X
  obtain ⟨v, st₀, t, T', L, h0, X', hL, e1, e2, ⟨hv, hb⟩, st⟩ := hr T hT X
  cases hv
  rw [h0] at hb
  obtain ⟨t2, a1, b1⟩ := kk t.heap (locs ++ L) hb (x_lapp hlo hf hL) T' e1 X'
  exact ⟨t2, st t2 a1, b1⟩
theorem x_calli {st0 : List Value} {av : Array Value} {mc ms : Nat} {free : Addr → Prop} {B : Int32 → Heap → Heap → Prop} (hr : va_Run p l e R s m args below meth c H locs cells slots mc ms (F0 m pc ls st0) rest (xQi B av) free) (hlo : ∀ q ∈ locs, A q.base) (hf : ∀ q, free q → A q)
    (kk : ∀ (r : Int32) (H1 : Heap) (locs1 : List Loc), B r H H1 → (∀ q ∈ locs1, A q.base) → W p l e R s m args below meth c H1 locs1 (cells + mc) (slots + ms) Q (F0 m (pc + 3) ls (.int r :: rest))) : W p l e R s m args below meth c H locs cells slots Q (F0 m pc ls st0) := by
  intro T hT X
  obtain ⟨v, st₀, t, T', L, h0, X', hL, e1, e2, ⟨r, hv, hb⟩, st⟩ := hr T hT X
  cases hv
  rw [h0] at hb
  obtain ⟨t2, a1, b1⟩ := kk r t.heap (locs ++ L) hb (x_lapp hlo hf hL) T' e1 X'
  exact ⟨t2, st t2 a1, b1⟩
theorem x_calll {st0 : List Value} {av : Array Value} {mc ms : Nat} {free : Addr → Prop} {B : Int64 → Heap → Heap → Prop} (hr : va_Run p l e R s m args below meth c H locs cells slots mc ms (F0 m pc ls st0) rest (xQl B av) free) (hlo : ∀ q ∈ locs, A q.base) (hf : ∀ q, free q → A q)
    (kk : ∀ (r : Int64) (H1 : Heap) (locs1 : List Loc), B r H H1 → (∀ q ∈ locs1, A q.base) → W p l e R s m args below meth c H1 locs1 (cells + mc) (slots + ms) Q (F0 m (pc + 3) ls (.long r :: rest))) : W p l e R s m args below meth c H locs cells slots Q (F0 m pc ls st0) := by
  intro T hT X
  obtain ⟨v, st₀, t, T', L, h0, X', hL, e1, e2, ⟨r, hv, hb⟩, st⟩ := hr T hT X
  cases hv
  rw [h0] at hb
  obtain ⟨t2, a1, b1⟩ := kk r t.heap (locs ++ L) hb (x_lapp hlo hf hL) T' e1 X'
  exact ⟨t2, st t2 a1, b1⟩
end XR
abbrev TY (cJ cI cQ cR : ClassId) : List (ClassId × FieldType) := [(cJ, .long), (cI, .int), (cQ, .array .long), (cR, .array .int)]
section XL
variable {p : Program} {l : Launch} {e : Env} {R : Room} {s : State} {m : MethodId} {args : Array Value} {below : List Frame} {meth : Method} {c : Code} {cells slots : Nat} {Q : State → Prop}
/-- a loop that counts up to n: from every state of the invariant at its head -/
theorem x_loop (pc : Nat) (I : Nat → Heap → List Loc → Array Slot → Prop) (n : Nat)
    (hstep : ∀ (i : Nat) (H : Heap) (locs : List Loc) (ls : Array Slot), i < n → I i H locs ls → (∀ (H' : Heap) (locs' : List Loc) (ls' : Array Slot), I (i + 1) H' locs' ls' → W p l e R s m args below meth c H' locs' cells slots Q (F0 m pc ls' [])) → W p l e R s m args below meth c H locs cells slots Q (F0 m pc ls []))
    (hend : ∀ (H : Heap) (locs : List Loc) (ls : Array Slot), I n H locs ls → W p l e R s m args below meth c H locs cells slots Q (F0 m pc ls [])) (i : Nat) (H : Heap) (locs : List Loc) (ls : Array Slot) (hi : i ≤ n) (h : I i H locs ls) : W p l e R s m args below meth c H locs cells slots Q (F0 m pc ls []) := by
  have key : ∀ (k i : Nat) (H : Heap) (locs : List Loc) (ls : Array Slot), i + k = n → I i H locs ls → W p l e R s m args below meth c H locs cells slots Q (F0 m pc ls []) := by
    intro k
    induction k with
    | zero =>
      intro i H locs ls hi h
      have e1 : i = n := by omega
      subst e1
      exact hend H locs ls h
    | succ k ih => exact fun i H locs ls hi h => hstep i H locs ls (by omega) h (fun H' locs' ls' h' => ih (i + 1) H' locs' ls' (by omega) h')
  exact key (n - i) i H locs ls (by omega) h
/-- a loop that counts down to 0 -/
theorem x_loopD (pc : Nat) (I : Nat → Heap → List Loc → Array Slot → Prop)
    (hstep : ∀ (i : Nat) (H : Heap) (locs : List Loc) (ls : Array Slot), I (i + 1) H locs ls → (∀ (H' : Heap) (locs' : List Loc) (ls' : Array Slot), I i H' locs' ls' → W p l e R s m args below meth c H' locs' cells slots Q (F0 m pc ls' [])) → W p l e R s m args below meth c H locs cells slots Q (F0 m pc ls []))
    (hend : ∀ (H : Heap) (locs : List Loc) (ls : Array Slot), I 0 H locs ls → W p l e R s m args below meth c H locs cells slots Q (F0 m pc ls [])) (i : Nat) (H : Heap) (locs : List Loc) (ls : Array Slot) (h : I i H locs ls) : W p l e R s m args below meth c H locs cells slots Q (F0 m pc ls []) := by
  have key : ∀ (k : Nat) (H : Heap) (locs : List Loc) (ls : Array Slot), I k H locs ls → W p l e R s m args below meth c H locs cells slots Q (F0 m pc ls []) := by
    intro k
    induction k with
    | zero => exact hend
    | succ k ih => exact fun H locs ls h => hstep k H locs ls h (fun H' locs' ls' h' => ih H' locs' ls' h')
  exact key i H locs ls h
theorem xcS {own : String} {index maxL mc ms : Nat} {y : MethodName} {bytes : ByteArray} {ret : Option FieldType} {rm : Room} (n : Nat) (hts : ∀ w ∈ WT, w.before args s = true) (hc : Cond.code y bytes maxL ret ∈ WT) (hini : Cond.initialized y.cls ∈ WT) (hl : Cond.methodLink own index y ∈ WT) (hst : Cond.static y ∈ WT) (hrc : rm.cells = mc) (hrs : rm.slots = ms)
    (hd : y.cls ≠ "java/lang/invoke/MethodHandle" ∧ y.cls ≠ "java/lang/invoke/VarHandle" ∧ (parseMethodDescriptor y.desc).map (fun d => d.parameters.length) = some n) (hR : rm.frames + 1 ≤ R.frames ∧ 8 + (maxL + 11) + rm.locals ≤ R.locals) :
    CallB R s args own index y bytes maxL ret (Cond.code y bytes maxL ret :: WT) rm mc ms n ∧ (Cond.static y).before args s = true := ⟨callB_of n hts (gdL hc) rfl hrc hrs (hts _ hini) (hts _ hl) hd hR, hts _ hst⟩
theorem xcV {own : String} {index maxL mc ms : Nat} {y : MethodName} {bytes : ByteArray} {ret : Option FieldType} {rm : Room} (n : Nat) (hts : ∀ w ∈ WT, w.before args s = true) (hc : Cond.code y bytes maxL ret ∈ WT) (hini : Cond.initialized y.cls ∈ WT) (hl : Cond.methodLink own index y ∈ WT) (hin : Cond.instanceMethod y ∈ WT) (hse : Cond.selects y.cls y y ∈ WT) (hrc : rm.cells = mc) (hrs : rm.slots = ms)
    (hd : y.cls ≠ "java/lang/invoke/MethodHandle" ∧ y.cls ≠ "java/lang/invoke/VarHandle" ∧ (parseMethodDescriptor y.desc).map (fun d => d.parameters.length) = some n) (hR : rm.frames + 1 ≤ R.frames ∧ 8 + (maxL + 11) + rm.locals ≤ R.locals) :
    CallW R s args own y.cls index y bytes maxL ret (Cond.code y bytes maxL ret :: WT) rm mc ms n := ⟨callB_of n hts (gdL hc) rfl hrc hrs (hts _ hini) (hts _ hl) hd hR, hts _ hin, hts _ hse⟩
end XL
