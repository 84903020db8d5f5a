-- contracts of the leaves
set_option maxHeartbeats 4000000 in
set_option maxRecDepth 100000 in
theorem c_copy (l : Launch) (D : va_G) (cJ cI cQ cR : ClassId) (z x n vx : Nat) (fz fx : Nat → Int64) (hn : 8 ≤ n ∧ n ≤ 16) (hxz : x ≠ z) (hNx : NL fx 8 vx) : Met l y_C_copyNumber w_C_copyNumber { frames := 1, cells := 0, slots := 0, locals := 64 } (xP D vwCl (TY cJ cI cQ cR) [.ref z, .ref x] (fun H => hL H cJ z 8 fz ∧ hL H cJ x n fx)) (xQv (fun H0 H => XF (fun q => q = z) H0 H ∧ ∃ (f : Nat → Int64), hL H cJ z 8 f ∧ NL f 8 vx)) 0 0 (fun q => q = z ∨ q = x) := by
  refine Met.ofW (cc := b_C_copyNumber) (maxL := 2) (ret := none) (by decide) rfl ?_
  intro p e s m args below meth c s₁ B hml hv
  obtain ⟨rfl, hK, ⟨hz, hX⟩⟩ := hv
  have hx := B.exec
  have hb := B.bytes
  have hr := B.returns
  have hts := atoms_spec (ws := w_C_copyNumber) B.pre
  have htw : ∀ w ∈ WT, w.before _ s = true := fun w h => hts w (List.mem_cons_of_mem _ h)
  have hown : s.vm.findClass "WideNumbers" = some m.cls := findClass_of_methodNamed B.named
  have hlocks := B.notSynchronized
  have hJ : ArrOfT s cJ .long := (hK.2 0 _ rfl).1
  have hI9 : ArrOfT s cI .int := (hK.2 1 _ rfl).1
  have hl := lv_entry ([.ref z, .ref x]) (n := 2) (Nat.le_of_ble_eq_true rfl)
  rw [lg_entry_eq]
  generalize (lg_sl ([.ref z, .ref x]) ++ List.replicate (2 - (lg_sl ([.ref z, .ref x])).length) Slot.unset).toArray = ls at hl ⊢
  have hl : lv_has ls 2 [(0, .ref z), (1, .ref x)] := hl
  refine lv_aload_n hx hb d_C_copyNumber_0 rfl (lv_at hl 1 rfl) ?_
  refine lv_iconst (v := nI 0) hx hb d_C_copyNumber_1 (by decide) ?_
  refine lv_aload_n hx hb d_C_copyNumber_2 rfl (lv_at hl 0 rfl) ?_
  refine lv_iconst (v := nI 0) hx hb d_C_copyNumber_3 (by decide) ?_
  refine lv_bipush (v := nI 8) hx hb d_C_copyNumber_4 (by decide) ?_
  have hP : va_P D vwCl [(x, .inl (cJ, n, .inr (.inl fx))), (z, .inl (cJ, 8, .inr (.inl fz)))] s.heap := by
    intro k q hq
    match k, hq with
    | 0, hq => cases hq; exact hX
    | 1, hq => cases hq; exact hz
    | k + 2, hq => cases hq
  have hD : va_D (fun q => q = z ∨ q = x) [(x, .inl (cJ, n, .inr (.inl fx))), (z, .inl (cJ, 8, .inr (.inl fz)))] := by
    refine ⟨?_, ?_⟩
    · intro i j p q hp hq e
      match i, j, hp, hq with
      | 0, 0, _, _ => rfl
      | 1, 1, _, _ => rfl
      | 0, 1, hp, hq => cases hp; cases hq; exact absurd e hxz
      | 1, 0, hp, hq => cases hp; cases hq; exact absurd e.symm hxz
      | i + 2, _, hp, _ => cases hp
      | _, j + 2, _, hq => cases hq
    · intro k q hq
      match k, hq with
      | 0, hq => cases hq; exact Or.inr rfl
      | 1, hq => cases hq; exact Or.inl rfl
      | k + 2, hq => cases hq
  have hS : va_S (fun q => q = z ∨ q = x) s.heap s.heap [] := va_S.rf
  refine va_copyl (sp := nI 0) (dp := nI 0) (n := nI 8) hx hb (hml.trans hl.1.symm) hown (htw _ kw_180) (htw _ kw_182) (htw _ kw_181) (htw _ kw_9) hK hP hD hS 0 1 0 0 rfl rfl rfl rfl rfl (by decide) (by decide) (by decide) (by show 0 + 8 ≤ n; omega) (by decide) (fun _ _ => rfl) (by decide) (Nat.le_of_ble_eq_true (by decide +kernel)) d_C_copyNumber_6 (fun H1 locs1 hP1 hD1 hS1 => ?_)
  have e1 : hL H1 cJ x n fx := hP1 0 _ rfl
  have e2 : hL H1 cJ z 8 (va_cpy fx fz 0 0 8) := hP1 1 _ rfl
  have hF : XF (fun q => q = z) s.heap H1 := by
    refine ⟨hS1.1, fun q hlt hq => ?_⟩
    by_cases ex : q = x
    · subst ex
      exact e1.trans hX.symm
    · exact hS1.2.1 q hlt (fun h => h.elim hq ex)
  exact W.vret hx hb hr (fun t ht hW => ⟨rfl, by rw [ht]; exact hF, _, by rw [ht]; exact e2, fun j hj => by rw [pk_cpy_in (Nat.zero_le j) (by omega)]; simpa using hNx j hj⟩) hS1.2.2 d_C_copyNumber_9
