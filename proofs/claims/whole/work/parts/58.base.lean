-- the classes, the arrays' classes, what a throw reads
theorem law_K {s : State} {args : Array Value} (hts : ∀ w ∈ lw_tbl, w.before args s = true) (htw : ∀ w ∈ WT, w.before args s = true) : ∃ (D : va_G) (cJ cI cQ cR : ClassId), va_K D vwCl (TY cJ cI cQ cR) s ∧ AO s := by
  obtain ⟨c0, i0, h0⟩ := u_known htw inC (htw _ kw_11)
  obtain ⟨c1, i1, h1⟩ := u_known htw inM (htw _ kw_269)
  have hov : (Cond.arrayOver (.array .long)).before args s = true := hts _ (List.mem_append_right _ (List.mem_of_getElem? (i := 19) (by decide +kernel)))
  have hov2 : (Cond.arrayOver (.array .int)).before args s = true := hts _ (List.mem_append_right _ (List.mem_of_getElem? (i := 275) (by decide +kernel)))
  obtain ⟨cJ, kJ, jJ, hJ1, hJ2, hJ3⟩ := Cond.arrayClass_spec (htw _ kw_42)
  obtain ⟨cI, kI, jI, hI1, hI2, hI3⟩ := Cond.arrayClass_spec (htw _ kw_304)
  obtain ⟨q1, cQ, kQ, -, hQ2, hQ3, hQ4⟩ := Cond.arrayOver_specA hov
  obtain ⟨r1, cR, kR, -, hR2, hR3, hR4⟩ := Cond.arrayOver_specA hov2
  refine ⟨(fun k => if k = 0 then c0 else c1, fun k => if k = 0 then i0 else i1), cJ, cI, cQ, cR, ⟨fun k q hq => ?_, fun k q hq => ?_⟩, arrayOver_alikeB (Vm.Alike.refl s.vm) hov, arrayOver_alikeB (Vm.Alike.refl s.vm) hov2⟩
  · match k, hq with
    | 0, hq => cases hq; exact h0
    | 1, hq => cases hq; exact h1
    | k + 2, hq => cases hq
  · match k, hq with
    | 0, hq => cases hq; exact ⟨fun _ _ => ⟨fun _ h => (by cases h), kJ, hJ2, jJ, hJ3⟩, hJ1⟩
    | 1, hq => cases hq; exact ⟨fun _ _ => ⟨fun _ h => (by cases h), kI, hI2, jI, hI3⟩, hI1⟩
    | 2, hq => cases hq; exact ⟨fun _ _ => ⟨fun _ h => (by cases h), kQ, hQ2, q1, hQ3⟩, hQ4⟩
    | 3, hq => cases hq; exact ⟨fun _ _ => ⟨fun _ h => (by cases h), kR, hR2, r1, hR3⟩, hR4⟩
    | k + 4, hq => cases hq
theorem law_E {s : State} {b : Nat} (hts : ∀ w ∈ lw_tbl, w.before #[Value.ref b] s = true) (htw : ∀ w ∈ WT, w.before #[Value.ref b] s = true) (hgs : ∀ c ∈ flatC (Jvm.Cond.and given_1 narrow_1), c.before #[Value.ref b] s = true) : ∃ sa, XE s.heap.size sa s := by
  have tb : ∀ (i : Nat) {w : Cond}, tables_1[i]? = some w → w.before #[Value.ref b] s = true := fun i w h => hts _ (List.mem_append_right _ (List.mem_of_getElem? h))
  have hex : (Cond.exactly (.string "WideNumbers" 93) "java/lang/String").before #[Value.ref b] s = true := hgs _ (by decide +kernel)
  obtain ⟨sa, -, -, -, hev, -⟩ := Cond.exactly_spec hex
  have hsr : (Cond.stringRef "WideNumbers" 93 "a number out of range").before #[Value.ref b] s = true := tb 93 (by decide +kernel)
  refine ⟨sa, ⟨va_Nw.of rfl (tb 56 (by decide +kernel)), va_Nw.of rfl (tb 58 (by decide +kernel)), va_Nw.of rfl (tb 60 (by decide +kernel)), va_Nw.of rfl (tb 62 (by decide +kernel))⟩, vk_R.of hsr hev, vx_Zqof (tb 81 (by decide +kernel)) (htw _ kw_3) (hgs _ (by decide +kernel)) (fun a h1 h2 => by omega), vx_Zqof (tb 83 (by decide +kernel)) (htw _ kw_3) (hgs _ (by decide +kernel)) (fun a h1 h2 => by omega)⟩
