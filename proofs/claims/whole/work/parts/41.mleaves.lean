-- contracts of the reference's leaves
set_option maxHeartbeats 4000000 in
set_option maxRecDepth 100000 in
theorem m_clear (l : Launch) (D : va_G) (cJ cI cQ cR : ClassId) (z : Nat) (fz : Nat → Int32) : Met l y_M_clear w_M_clear { frames := 0, cells := 0, slots := 0, locals := 0 } (xP D vwCl (TY cJ cI cQ cR) [.ref z] (fun H => hI H cI z 8 fz)) (xQv (fun H0 H => XF (fun q => q = z) H0 H ∧ ∃ f : Nat → Int32, hI H cI z 8 f ∧ NI f 8 0)) 0 0 (fun q => q = z) := by
  refine Met.ofW (cc := b_M_clear) (maxL := 2) (ret := none) (by decide) rfl ?_
  intro p e s m args below meth c s₁ B hml hv
  obtain ⟨rfl, hK, hz⟩ := hv
  have hx := B.exec
  have hb := B.bytes
  have hr := B.returns
  have hts := atoms_spec (ws := w_M_clear) B.pre
  have htw : ∀ w ∈ WT, w.before _ s = true := fun w h => hts w (List.mem_cons_of_mem _ h)
  have hown : s.vm.findClass "WideNumbersModel" = some m.cls := findClass_of_methodNamed B.named
  have hlocks := B.notSynchronized
  have hJ : ArrOfT s cJ .long := (hK.2 0 _ rfl).1
  have hI9 : ArrOfT s cI .int := (hK.2 1 _ rfl).1
  have hl := lv_entry ([.ref z]) (n := 2) (Nat.le_of_ble_eq_true rfl)
  rw [lg_entry_eq]
  generalize (lg_sl ([.ref z]) ++ List.replicate (2 - (lg_sl ([.ref z])).length) Slot.unset).toArray = ls at hl ⊢
  have hl : lv_has ls 2 [(0, .ref z)] := hl
  refine lv_iconst (v := nI 0) hx hb d_M_clear_0 (by decide) ?_
  refine lv_istore_n hx hb d_M_clear_1 rfl hl (by decide) rfl (fun ls hl => ?_)
  have hl : lv_has ls 2 [(1, .int (nI 0)), (0, .ref z)] := hl
  refine x_loop 2 (fun i H locs ls => ∃ f : Nat → Int32, lv_has ls 2 [(1, .int (nI i)), (0, .ref z)] ∧ (∀ q ∈ locs, q.base = z) ∧ XF (fun q => q = z) s.heap H ∧ hI H cI z 8 f ∧ NI f i 0) 8 ?_ ?_ 0 _ _ _ (by omega) ?_
  · intro i H locs ls hi ⟨f, hl, hlo, hF, hf, hN⟩ ih
    refine lv_iload_n hx hb d_M_clear_2 rfl (lv_at hl 0 rfl) ?_
    refine lv_bipush (v := nI 8) hx hb d_M_clear_3 (by decide) ?_
    refine lv_icmp_ge (tgt := 18) hx hb d_M_clear_5 (by decide) (fun hc => absurd hc (nI_ge (by omega) (by omega))) (fun _ => ?_)
    refine lv_aload_n hx hb d_M_clear_8 rfl (lv_at hl 1 rfl) ?_
    refine lv_iload_n hx hb d_M_clear_9 rfl (lv_at hl 0 rfl) ?_
    refine lv_iconst (v := nI 0) hx hb d_M_clear_10 (by decide) ?_
    refine x_topi (v := nI (dg 0 i)) (by rw [dg_0]) ?_
    refine x_iast (A := fun q => q = z) hx hb hI9 hf hlo (rfl) (i) (rfl) (by omega) (by omega) d_M_clear_11 (fun H1 locs1 h1 hF1 hlo1 => ?_)
    refine lv_iinc (v := nI (i + 1)) (k := 0) hx hb d_M_clear_12 hl rfl (nI_1 i) (by decide) rfl (fun ls hl => ?_)
    have hl : lv_has ls 2 [(1, .int (nI (i + 1))), (0, .ref z)] := hl
    refine lv_goto (tgt := 2) hx hb d_M_clear_15 (by decide) ?_
    exact ih H1 locs1 ls ⟨_, hl, hlo1, hF.tr hF1 (fun _ h => h), h1, NI_up hN⟩
  · intro H locs ls ⟨f, hl, hlo, hF, hf, hN⟩
    refine lv_iload_n hx hb d_M_clear_2 rfl (lv_at hl 0 rfl) ?_
    refine lv_bipush (v := nI 8) hx hb d_M_clear_3 (by decide) ?_
    refine lv_icmp_ge (tgt := 18) hx hb d_M_clear_5 (by decide) (fun _ => ?_) (fun hc => absurd (nI_le (Nat.le_refl _) (by omega)) hc)
    exact W.vret hx hb hr (fun t ht hW => ⟨rfl, by rw [ht]; exact hF, f, by rw [ht]; exact hf, hN⟩) hlo d_M_clear_18
  · exact ⟨fz, hl, (fun _ h => nomatch h), XF.rf, hz, NI_0⟩
set_option maxHeartbeats 4000000 in
set_option maxRecDepth 100000 in
theorem m_copy (l : Launch) (D : va_G) (cJ cI cQ cR : ClassId) (z x n vx : Nat) (fz fx : Nat → Int32) (hn : 8 ≤ n ∧ n ≤ 17) (hxz : x ≠ z) (hNx : NI fx 8 vx) : Met l y_M_copy w_M_copy { frames := 0, cells := 0, slots := 0, locals := 0 } (xP D vwCl (TY cJ cI cQ cR) [.ref z, .ref x] (fun H => hI H cI z 8 fz ∧ hI H cI x n fx)) (xQv (fun H0 H => XF (fun q => q = z) H0 H ∧ ∃ f : Nat → Int32, hI H cI z 8 f ∧ NI f 8 vx)) 0 0 (fun q => q = z) := by
  refine Met.ofW (cc := b_M_copy) (maxL := 3) (ret := none) (by decide) rfl ?_
  intro p e s m args below meth c s₁ B hml hv
  obtain ⟨rfl, hK, ⟨hz, hX⟩⟩ := hv
  have hx := B.exec
  have hb := B.bytes
  have hr := B.returns
  have hts := atoms_spec (ws := w_M_copy) B.pre
  have htw : ∀ w ∈ WT, w.before _ s = true := fun w h => hts w (List.mem_cons_of_mem _ h)
  have hown : s.vm.findClass "WideNumbersModel" = some m.cls := findClass_of_methodNamed B.named
  have hlocks := B.notSynchronized
  have hJ : ArrOfT s cJ .long := (hK.2 0 _ rfl).1
  have hI9 : ArrOfT s cI .int := (hK.2 1 _ rfl).1
  have hl := lv_entry ([.ref z, .ref x]) (n := 3) (Nat.le_of_ble_eq_true rfl)
  rw [lg_entry_eq]
  generalize (lg_sl ([.ref z, .ref x]) ++ List.replicate (3 - (lg_sl ([.ref z, .ref x])).length) Slot.unset).toArray = ls at hl ⊢
  have hl : lv_has ls 3 [(0, .ref z), (1, .ref x)] := hl
  refine lv_iconst (v := nI 0) hx hb d_M_copy_0 (by decide) ?_
  refine lv_istore_n hx hb d_M_copy_1 rfl hl (by decide) rfl (fun ls hl => ?_)
  have hl : lv_has ls 3 [(2, .int (nI 0)), (0, .ref z), (1, .ref x)] := hl
  have hl : lv_has ls 3 [(2, .int (nI 0)), (0, .ref z), (1, .ref x)] := lv_sub hl [0, 1, 2] rfl
  refine x_loop 2 (fun i H locs ls => ∃ f : Nat → Int32, lv_has ls 3 [(2, .int (nI i)), (0, .ref z), (1, .ref x)] ∧ (∀ q ∈ locs, q.base = z) ∧ XF (fun q => q = z) s.heap H ∧ hI H cI z 8 f ∧ NI f i vx) 8 ?_ ?_ 0 _ _ _ (by omega) ?_
  · intro i H locs ls hi ⟨f, hl, hlo, hF, hf, hN⟩ ih
    refine lv_iload_n hx hb d_M_copy_2 rfl (lv_at hl 0 rfl) ?_
    refine lv_bipush (v := nI 8) hx hb d_M_copy_3 (by decide) ?_
    refine lv_icmp_ge (tgt := 20) hx hb d_M_copy_5 (by decide) (fun hc => absurd hc (nI_ge (by omega) (by omega))) (fun _ => ?_)
    refine lv_aload_n hx hb d_M_copy_8 rfl (lv_at hl 1 rfl) ?_
    refine lv_iload_n hx hb d_M_copy_9 rfl (lv_at hl 0 rfl) ?_
    refine lv_aload_n hx hb d_M_copy_10 rfl (lv_at hl 2 rfl) ?_
    refine lv_iload_n hx hb d_M_copy_11 rfl (lv_at hl 0 rfl) ?_
    refine x_iald hx hb hI9 (hI_f hX hF hxz) (i) (rfl) (by omega) (by omega) (v := nI (dg vx i)) (hNx i hi) d_M_copy_12 ?_
    refine x_iast (A := fun q => q = z) hx hb hI9 hf hlo (rfl) (i) (rfl) (by omega) (by omega) d_M_copy_13 (fun H1 locs1 h1 hF1 hlo1 => ?_)
    refine lv_iinc (v := nI (i + 1)) (k := 0) hx hb d_M_copy_14 hl rfl (nI_1 i) (by decide) rfl (fun ls hl => ?_)
    have hl : lv_has ls 3 [(2, .int (nI (i + 1))), (0, .ref z), (1, .ref x)] := hl
    refine lv_goto (tgt := 2) hx hb d_M_copy_17 (by decide) ?_
    have hl : lv_has ls 3 [(2, .int (nI (i + 1))), (0, .ref z), (1, .ref x)] := lv_sub hl [0, 1, 2] rfl
    exact ih H1 locs1 ls ⟨_, hl, hlo1, hF.tr hF1 (fun _ h => h), h1, NI_up hN⟩
  · intro H locs ls ⟨f, hl, hlo, hF, hf, hN⟩
    refine lv_iload_n hx hb d_M_copy_2 rfl (lv_at hl 0 rfl) ?_
    refine lv_bipush (v := nI 8) hx hb d_M_copy_3 (by decide) ?_
    refine lv_icmp_ge (tgt := 20) hx hb d_M_copy_5 (by decide) (fun _ => ?_) (fun hc => absurd (nI_le (Nat.le_refl _) (by omega)) hc)
    exact W.vret hx hb hr (fun t ht hW => ⟨rfl, by rw [ht]; exact hF, f, by rw [ht]; exact hf, hN⟩) hlo d_M_copy_20
  · exact ⟨fz, hl, (fun _ h => nomatch h), XF.rf, hz, NI_0⟩
set_option maxHeartbeats 4000000 in
set_option maxRecDepth 100000 in
theorem m_take (l : Launch) (D : va_G) (cJ cI cQ cR : ClassId) (z x n vx : Nat) (fz fx : Nat → Int32) (hn : 8 ≤ n ∧ n ≤ 17) (hxz : x ≠ z) (hNx : NI fx 8 vx) : Met l y_M_take w_M_take { frames := 0, cells := 0, slots := 0, locals := 0 } (xP D vwCl (TY cJ cI cQ cR) [.ref z, .ref x] (fun H => hI H cI z 8 fz ∧ hI H cI x n fx)) (xQv (fun H0 H => XF (fun q => q = z) H0 H ∧ ∃ f : Nat → Int32, hI H cI z 8 f ∧ NI f 8 vx)) 0 0 (fun q => q = z) := by
  refine Met.ofW (cc := b_M_take) (maxL := 3) (ret := none) (by decide) rfl ?_
  intro p e s m args below meth c s₁ B hml hv
  obtain ⟨rfl, hK, ⟨hz, hX⟩⟩ := hv
  have hx := B.exec
  have hb := B.bytes
  have hr := B.returns
  have hts := atoms_spec (ws := w_M_take) B.pre
  have htw : ∀ w ∈ WT, w.before _ s = true := fun w h => hts w (List.mem_cons_of_mem _ h)
  have hown : s.vm.findClass "WideNumbersModel" = some m.cls := findClass_of_methodNamed B.named
  have hlocks := B.notSynchronized
  have hJ : ArrOfT s cJ .long := (hK.2 0 _ rfl).1
  have hI9 : ArrOfT s cI .int := (hK.2 1 _ rfl).1
  have hl := lv_entry ([.ref z, .ref x]) (n := 3) (Nat.le_of_ble_eq_true rfl)
  rw [lg_entry_eq]
  generalize (lg_sl ([.ref z, .ref x]) ++ List.replicate (3 - (lg_sl ([.ref z, .ref x])).length) Slot.unset).toArray = ls at hl ⊢
  have hl : lv_has ls 3 [(0, .ref z), (1, .ref x)] := hl
  refine lv_iconst (v := nI 0) hx hb d_M_take_0 (by decide) ?_
  refine lv_istore_n hx hb d_M_take_1 rfl hl (by decide) rfl (fun ls hl => ?_)
  have hl : lv_has ls 3 [(2, .int (nI 0)), (0, .ref z), (1, .ref x)] := hl
  have hl : lv_has ls 3 [(2, .int (nI 0)), (0, .ref z), (1, .ref x)] := lv_sub hl [0, 1, 2] rfl
  refine x_loop 2 (fun i H locs ls => ∃ f : Nat → Int32, lv_has ls 3 [(2, .int (nI i)), (0, .ref z), (1, .ref x)] ∧ (∀ q ∈ locs, q.base = z) ∧ XF (fun q => q = z) s.heap H ∧ hI H cI z 8 f ∧ NI f i vx) 8 ?_ ?_ 0 _ _ _ (by omega) ?_
  · intro i H locs ls hi ⟨f, hl, hlo, hF, hf, hN⟩ ih
    refine lv_iload_n hx hb d_M_take_2 rfl (lv_at hl 0 rfl) ?_
    refine lv_bipush (v := nI 8) hx hb d_M_take_3 (by decide) ?_
    refine lv_icmp_ge (tgt := 20) hx hb d_M_take_5 (by decide) (fun hc => absurd hc (nI_ge (by omega) (by omega))) (fun _ => ?_)
    refine lv_aload_n hx hb d_M_take_8 rfl (lv_at hl 1 rfl) ?_
    refine lv_iload_n hx hb d_M_take_9 rfl (lv_at hl 0 rfl) ?_
    refine lv_aload_n hx hb d_M_take_10 rfl (lv_at hl 2 rfl) ?_
    refine lv_iload_n hx hb d_M_take_11 rfl (lv_at hl 0 rfl) ?_
    refine x_iald hx hb hI9 (hI_f hX hF hxz) (i) (rfl) (by omega) (by omega) (v := nI (dg vx i)) (hNx i hi) d_M_take_12 ?_
    refine x_iast (A := fun q => q = z) hx hb hI9 hf hlo (rfl) (i) (rfl) (by omega) (by omega) d_M_take_13 (fun H1 locs1 h1 hF1 hlo1 => ?_)
    refine lv_iinc (v := nI (i + 1)) (k := 0) hx hb d_M_take_14 hl rfl (nI_1 i) (by decide) rfl (fun ls hl => ?_)
    have hl : lv_has ls 3 [(2, .int (nI (i + 1))), (0, .ref z), (1, .ref x)] := hl
    refine lv_goto (tgt := 2) hx hb d_M_take_17 (by decide) ?_
    have hl : lv_has ls 3 [(2, .int (nI (i + 1))), (0, .ref z), (1, .ref x)] := lv_sub hl [0, 1, 2] rfl
    exact ih H1 locs1 ls ⟨_, hl, hlo1, hF.tr hF1 (fun _ h => h), h1, NI_up hN⟩
  · intro H locs ls ⟨f, hl, hlo, hF, hf, hN⟩
    refine lv_iload_n hx hb d_M_take_2 rfl (lv_at hl 0 rfl) ?_
    refine lv_bipush (v := nI 8) hx hb d_M_take_3 (by decide) ?_
    refine lv_icmp_ge (tgt := 20) hx hb d_M_take_5 (by decide) (fun _ => ?_) (fun hc => absurd (nI_le (Nat.le_refl _) (by omega)) hc)
    exact W.vret hx hb hr (fun t ht hW => ⟨rfl, by rw [ht]; exact hF, f, by rw [ht]; exact hf, hN⟩) hlo d_M_take_20
  · exact ⟨fz, hl, (fun _ h => nomatch h), XF.rf, hz, NI_0⟩
set_option maxHeartbeats 4000000 in
set_option maxRecDepth 100000 in
theorem m_zero (l : Launch) (D : va_G) (cJ cI cQ cR : ClassId) (x vx : Nat) (fx : Nat → Int32) (hvx : vx < 2 ^ 256) (hNx : NI fx 8 vx) : Met l y_M_zero w_M_zero { frames := 0, cells := 0, slots := 0, locals := 0 } (xP D vwCl (TY cJ cI cQ cR) [.ref x] (fun H => hI H cI x 8 fx)) (xQi (fun r H0 H => H = H0 ∧ r = if vx = 0 then 1 else 0)) 0 0 (fun _ => False) := by
  refine Met.ofW (cc := b_M_zero) (maxL := 2) (ret := some .boolean) (by decide) rfl ?_
  intro p e s m args below meth c s₁ B hml hv
  obtain ⟨rfl, hK, hX⟩ := hv
  have hx := B.exec
  have hb := B.bytes
  have hr := B.returns
  have hts := atoms_spec (ws := w_M_zero) B.pre
  have htw : ∀ w ∈ WT, w.before _ s = true := fun w h => hts w (List.mem_cons_of_mem _ h)
  have hown : s.vm.findClass "WideNumbersModel" = some m.cls := findClass_of_methodNamed B.named
  have hlocks := B.notSynchronized
  have hJ : ArrOfT s cJ .long := (hK.2 0 _ rfl).1
  have hI9 : ArrOfT s cI .int := (hK.2 1 _ rfl).1
  have hl := lv_entry ([.ref x]) (n := 2) (Nat.le_of_ble_eq_true rfl)
  rw [lg_entry_eq]
  generalize (lg_sl ([.ref x]) ++ List.replicate (2 - (lg_sl ([.ref x])).length) Slot.unset).toArray = ls at hl ⊢
  have hl : lv_has ls 2 [(0, .ref x)] := hl
  refine lv_iconst (v := nI 0) hx hb d_M_zero_0 (by decide) ?_
  refine lv_istore_n hx hb d_M_zero_1 rfl hl (by decide) rfl (fun ls hl => ?_)
  have hl : lv_has ls 2 [(1, .int (nI 0)), (0, .ref x)] := hl
  refine x_loop 2 (fun i H locs ls => lv_has ls 2 [(1, .int (nI i)), (0, .ref x)] ∧ locs = [] ∧ H = s.heap ∧ ∀ j, j < i → dg vx j = 0) 8 ?_ ?_ 0 _ _ _ (by omega) ?_
  · intro i H locs ls hi ⟨hl, hlo, hH, hz9⟩ ih
    refine lv_iload_n hx hb d_M_zero_2 rfl (lv_at hl 0 rfl) ?_
    refine lv_bipush (v := nI 8) hx hb d_M_zero_3 (by decide) ?_
    refine lv_icmp_ge (tgt := 22) hx hb d_M_zero_5 (by decide) (fun hc => absurd hc (nI_ge (by omega) (by omega))) (fun _ => ?_)
    subst hlo
    subst hH
    have hd1 := dg_lt vx i
    refine lv_aload_n hx hb d_M_zero_8 rfl (lv_at hl 1 rfl) ?_
    refine lv_iload_n hx hb d_M_zero_9 rfl (lv_at hl 0 rfl) ?_
    refine x_iald hx hb hI9 hX (i) (rfl) (by omega) (by omega) (v := nI (dg vx i)) (hNx i hi) d_M_zero_10 ?_
    refine lv_if_eq (tgt := 16) hx hb d_M_zero_11 (by decide) (fun hc => ?_) (fun hc => ?_)
    · have hd : dg vx i = 0 := (iN_eq hd1 (by decide)).mp (hc.trans nI_0.symm)
      refine lv_iinc (v := nI (i + 1)) (k := 0) hx hb d_M_zero_16 hl rfl (nI_1 i) (by decide) rfl (fun ls hl => ?_)
      have hl : lv_has ls 2 [(1, .int (nI (i + 1))), (0, .ref x)] := hl
      refine lv_goto (tgt := 2) hx hb d_M_zero_19 (by decide) ?_
      exact ih _ _ ls ⟨hl, rfl, rfl, fun j hj => by
        by_cases e9 : j = i
        · rw [e9]; exact hd
        · exact hz9 j (by omega)⟩
    · have hv : vx ≠ 0 := fun h => hc (by rw [h, dg_0]; rfl)
      refine lv_iconst (v := nI 0) hx hb d_M_zero_14 (by decide) ?_
      exact W.zret hx hb hr rfl (fun t ht hW => ⟨_, rfl, ht, by rw [if_neg hv]; rfl⟩) (fun _ h => nomatch h) d_M_zero_15
  · intro H locs ls ⟨hl, hlo, hH, hz9⟩
    refine lv_iload_n hx hb d_M_zero_2 rfl (lv_at hl 0 rfl) ?_
    refine lv_bipush (v := nI 8) hx hb d_M_zero_3 (by decide) ?_
    refine lv_icmp_ge (tgt := 22) hx hb d_M_zero_5 (by decide) (fun _ => ?_) (fun hc => absurd (nI_le (Nat.le_refl _) (by omega)) hc)
    subst hlo
    subst hH
    have hv : vx = 0 := dg_all0 hvx hz9
    refine lv_iconst (v := nI 1) hx hb d_M_zero_22 (by decide) ?_
    exact W.zret hx hb hr rfl (fun t ht hW => ⟨_, rfl, ht, by rw [if_pos hv]; rfl⟩) (fun _ h => nomatch h) d_M_zero_23
  · exact ⟨hl, rfl, rfl, fun j hj => absurd hj (Nat.not_lt_zero j)⟩
set_option maxHeartbeats 4000000 in
set_option maxRecDepth 100000 in
theorem m_less (l : Launch) (D : va_G) (cJ cI cQ cR : ClassId) (x y vx vy : Nat) (fx fy : Nat → Int32) (hvx : vx < 2 ^ 256) (hvy : vy < 2 ^ 256) (hNx : NI fx 8 vx) (hNy : NI fy 8 vy) : Met l y_M_less w_M_less { frames := 0, cells := 0, slots := 0, locals := 0 } (xP D vwCl (TY cJ cI cQ cR) [.ref x, .ref y] (fun H => hI H cI x 8 fx ∧ hI H cI y 8 fy)) (xQi (fun r H0 H => H = H0 ∧ r = if vx < vy then 1 else 0)) 0 0 (fun _ => False) := by
  refine Met.ofW (cc := b_M_less) (maxL := 3) (ret := some .boolean) (by decide) rfl ?_
  intro p e s m args below meth c s₁ B hml hv
  obtain ⟨rfl, hK, ⟨hX, hY⟩⟩ := hv
  have hx := B.exec
  have hb := B.bytes
  have hr := B.returns
  have hts := atoms_spec (ws := w_M_less) B.pre
  have htw : ∀ w ∈ WT, w.before _ s = true := fun w h => hts w (List.mem_cons_of_mem _ h)
  have hown : s.vm.findClass "WideNumbersModel" = some m.cls := findClass_of_methodNamed B.named
  have hlocks := B.notSynchronized
  have hJ : ArrOfT s cJ .long := (hK.2 0 _ rfl).1
  have hI9 : ArrOfT s cI .int := (hK.2 1 _ rfl).1
  have hl := lv_entry ([.ref x, .ref y]) (n := 3) (Nat.le_of_ble_eq_true rfl)
  rw [lg_entry_eq]
  generalize (lg_sl ([.ref x, .ref y]) ++ List.replicate (3 - (lg_sl ([.ref x, .ref y])).length) Slot.unset).toArray = ls at hl ⊢
  have hl : lv_has ls 3 [(0, .ref x), (1, .ref y)] := hl
  refine lv_bipush (v := nI 8 - 1) hx hb d_M_less_0 (by decide) ?_
  refine lv_istore_n hx hb d_M_less_2 rfl hl (by decide) rfl (fun ls hl => ?_)
  have hl : lv_has ls 3 [(2, .int (nI 8 - 1)), (0, .ref x), (1, .ref y)] := hl
  have hl : lv_has ls 3 [(2, .int (nI 8 - 1)), (0, .ref x), (1, .ref y)] := lv_sub hl [0, 1, 2] rfl
  refine x_loopD 3 (fun i H locs ls => i ≤ 8 ∧ lv_has ls 3 [(2, .int (nI i - 1)), (0, .ref x), (1, .ref y)] ∧ locs = [] ∧ H = s.heap ∧ vx / 2 ^ (32 * i) = vy / 2 ^ (32 * i)) ?_ ?_ 8 _ _ _ ?_
  · intro i H locs ls ⟨hi, hl, hlo, hH, he⟩ ih
    subst hlo
    subst hH
    refine lv_iload_n hx hb d_M_less_3 rfl (lv_at hl 0 rfl) ?_
    refine x_topi (v := nI i) (nI_pred i) ?_
    refine lv_if_lt (tgt := 48) hx hb d_M_less_4 (by decide) (fun hc => absurd hc (nI_pos (by omega))) (fun _ => ?_)
    have hd1 := dg_lt vx i
    have hd2 := dg_lt vy i
    have e1 := dg_divs vx i
    have e2 := dg_divs vy i
    refine lv_aload_n hx hb d_M_less_7 rfl (lv_at hl 1 rfl) ?_
    refine lv_iload_n hx hb d_M_less_8 rfl (lv_at hl 0 rfl) ?_
    refine x_iald hx hb hI9 hX (i) (nI_pred i) (by omega) (by omega) (v := nI (dg vx i)) (hNx i (by omega)) d_M_less_9 ?_
    refine lv_aload_n hx hb d_M_less_10 rfl (lv_at hl 2 rfl) ?_
    refine lv_iload_n hx hb d_M_less_11 rfl (lv_at hl 0 rfl) ?_
    refine x_iald hx hb hI9 hY (i) (nI_pred i) (by omega) (by omega) (v := nI (dg vy i)) (hNy i (by omega)) d_M_less_12 ?_
    refine lv_icmp_eq (tgt := 42) hx hb d_M_less_13 (by decide) (fun hc => ?_) (fun hc => ?_)
    · have hd := (iN_eq hd1 hd2).mp hc
      refine lv_iinc (v := nI i - 1) (k := 0) hx hb d_M_less_42 hl rfl (i_dec i) (by decide) rfl (fun ls hl => ?_)
      have hl : lv_has ls 3 [(2, .int (nI i - 1)), (0, .ref x), (1, .ref y)] := hl
      refine lv_goto (tgt := 3) hx hb d_M_less_45 (by decide) ?_
      exact ih _ _ ls ⟨by omega, hl, rfl, rfl, by rw [e1, e2, he, hd]⟩
    · have hd : dg vx i ≠ dg vy i := fun h => hc (by rw [h])
      refine lv_aload_n hx hb d_M_less_16 rfl (lv_at hl 1 rfl) ?_
      refine lv_iload_n hx hb d_M_less_17 rfl (lv_at hl 0 rfl) ?_
      refine x_iald hx hb hI9 hX (i) (nI_pred i) (by omega) (by omega) (v := nI (dg vx i)) (hNx i (by omega)) d_M_less_18 ?_
      refine lv_i2l (v := (nI (dg vx i)).toInt64) hx hb d_M_less_19 (rfl) ?_
      refine lv_ldc2 (v := (4294967295 : Int64)) hx hb hown (htw _ kw_328) d_M_less_20 ?_
      refine lv_land hx hb d_M_less_23 ?_
      refine x_topl (v := lN (dg vx i)) (il_m (dg_lt _ _)) ?_
      refine lv_aload_n hx hb d_M_less_24 rfl (lv_at hl 2 rfl) ?_
      refine lv_iload_n hx hb d_M_less_25 rfl (lv_at hl 0 rfl) ?_
      refine x_iald hx hb hI9 hY (i) (nI_pred i) (by omega) (by omega) (v := nI (dg vy i)) (hNy i (by omega)) d_M_less_26 ?_
      refine lv_i2l (v := (nI (dg vy i)).toInt64) hx hb d_M_less_27 (rfl) ?_
      refine lv_ldc2 (v := (4294967295 : Int64)) hx hb hown (htw _ kw_328) d_M_less_28 ?_
      refine lv_land hx hb d_M_less_31 ?_
      refine x_topl (v := lN (dg vy i)) (il_m (dg_lt _ _)) ?_
      refine W.lcmp hx hb d_M_less_32 ?_
      refine lv_if_ge (tgt := 40) hx hb d_M_less_33 (by decide) (fun hc2 => ?_) (fun hc2 => ?_)
      · have hlt : dg vy i < dg vx i := Nat.lt_of_le_of_ne (Nat.not_lt.mp (fun h => absurd ((lg_cmp_ge _ _).mp hc2) (Int64.not_le.mpr ((jN_lt (by omega) (by omega)).mpr h)))) (fun h => hd h.symm)
        have hv : vy < vx := Nat.lt_of_not_le (fun h => by have := Nat.div_le_div_right (c := 2 ^ (32 * i)) h; omega)
        refine lv_iconst (v := nI 0) hx hb d_M_less_40 (by decide) ?_
        exact W.zret hx hb hr rfl (fun t ht hW => ⟨_, rfl, ht, by rw [if_neg (by omega)]; rfl⟩) (fun _ h => nomatch h) d_M_less_41
      · have hlt : dg vx i < dg vy i := (jN_lt (by omega) (by omega)).mp (Int64.not_le.mp (fun h => hc2 ((lg_cmp_ge _ _).mpr h)))
        have hv : vx < vy := Nat.lt_of_not_le (fun h => by have := Nat.div_le_div_right (c := 2 ^ (32 * i)) h; omega)
        refine lv_iconst (v := nI 1) hx hb d_M_less_36 (by decide) ?_
        refine lv_goto (tgt := 41) hx hb d_M_less_37 (by decide) ?_
        exact W.zret hx hb hr rfl (fun t ht hW => ⟨_, rfl, ht, by rw [if_pos hv]; rfl⟩) (fun _ h => nomatch h) d_M_less_41
  · intro H locs ls ⟨hi, hl, hlo, hH, he⟩
    subst hlo
    subst hH
    refine lv_iload_n hx hb d_M_less_3 rfl (lv_at hl 0 rfl) ?_
    refine lv_if_lt (tgt := 48) hx hb d_M_less_4 (by decide) (fun _ => ?_) (fun hc => absurd (by decide) hc)
    refine lv_iconst (v := nI 0) hx hb d_M_less_48 (by decide) ?_
    have hv : vx = vy := by simpa using he
    exact W.zret hx hb hr rfl (fun t ht hW => ⟨_, rfl, ht, by rw [if_neg (by omega)]; rfl⟩) (fun _ h => nomatch h) d_M_less_49
  · exact ⟨by decide, hl, rfl, rfl, by rw [Nat.div_eq_of_lt hvx, Nat.div_eq_of_lt hvy]⟩
set_option maxHeartbeats 4000000 in
set_option maxRecDepth 100000 in
theorem m_setv (l : Launch) (D : va_G) (cJ cI cQ cR : ClassId) (z u : Nat) (fz : Nat → Int32) (hu : u < 18446744073709551616) : Met l y_M_set_IJV w_M_set_IJV { frames := 1, cells := 0, slots := 0, locals := 21 } (xP D vwCl (TY cJ cI cQ cR) [.ref z, .long (lN u)] (fun H => hI H cI z 8 fz)) (xQv (fun H0 H => XF (fun q => q = z) H0 H ∧ ∃ f : Nat → Int32, hI H cI z 8 f ∧ NI f 8 u)) 0 0 (fun q => q = z) := by
  refine Met.ofW (cc := b_M_set_IJV) (maxL := 3) (ret := none) (by decide) rfl ?_
  intro p e s m args below meth c s₁ B hml hv
  obtain ⟨rfl, hK, hz⟩ := hv
  have hx := B.exec
  have hb := B.bytes
  have hr := B.returns
  have hts := atoms_spec (ws := w_M_set_IJV) B.pre
  have htw : ∀ w ∈ WT, w.before _ s = true := fun w h => hts w (List.mem_cons_of_mem _ h)
  have hown : s.vm.findClass "WideNumbersModel" = some m.cls := findClass_of_methodNamed B.named
  have hlocks := B.notSynchronized
  have hJ : ArrOfT s cJ .long := (hK.2 0 _ rfl).1
  have hI9 : ArrOfT s cI .int := (hK.2 1 _ rfl).1
  have hl := lv_entry ([.ref z, .long (lN u)]) (n := 3) (Nat.le_of_ble_eq_true rfl)
  rw [lg_entry_eq]
  generalize (lg_sl ([.ref z, .long (lN u)]) ++ List.replicate (3 - (lg_sl ([.ref z, .long (lN u)])).length) Slot.unset).toArray = ls at hl ⊢
  have hl : lv_has ls 3 [(0, .ref z), (1, .long (lN u))] := hl
  have hlo : ∀ q ∈ ([] : List Loc), (fun q => q = z) q.base := fun _ h => nomatch h
  refine lv_aload_n hx hb d_M_set_IJV_0 rfl (lv_at hl 0 rfl) ?_
  refine x_callv (A := fun q => q = z) (va_runS (As := [.ref z]) (rest := []) ⟨hx, hb, hml, hown, htw⟩ (m_clear l D cJ cI cQ cR z fz) (xcS 1 htw kw_342 kw_2 kw_340 kw_341 rfl rfl ⟨by decide, by decide, by decide +kernel⟩ ⟨Nat.le_of_ble_eq_true rfl, Nat.le_of_ble_eq_true rfl⟩) (xPre hK hz) rfl rfl hl.1 rfl (lv_room (Nat.le_of_ble_eq_true rfl)) d_M_set_IJV_1 ⟨Nat.le_of_ble_eq_true rfl, Nat.le_of_ble_eq_true rfl⟩) hlo (fun _ h => h) (fun H1 locs1 hB1 hlo => ?_)
  obtain ⟨hF1, f1, hf1, hN1⟩ := hB1
  refine lv_aload_n hx hb d_M_set_IJV_4 rfl (lv_at hl 0 rfl) ?_
  refine lv_iconst (v := nI 0) hx hb d_M_set_IJV_5 (by decide) ?_
  refine lv_lload_n hx hb d_M_set_IJV_6 rfl (lv_at hl 1 rfl) ?_
  refine lv_l2i (v := nI u) hx hb d_M_set_IJV_7 (lN_i _) ?_
  refine x_iast (A := fun q => q = z) hx hb hI9 hf1 hlo (rfl) (0) (rfl) (by omega) (by omega) d_M_set_IJV_8 (fun H2 locs2 h2 hF2 hlo => ?_)
  refine lv_aload_n hx hb d_M_set_IJV_9 rfl (lv_at hl 0 rfl) ?_
  refine lv_iconst (v := nI 1) hx hb d_M_set_IJV_10 (by decide) ?_
  refine lv_lload_n hx hb d_M_set_IJV_11 rfl (lv_at hl 1 rfl) ?_
  refine lv_bipush (v := nI 32) hx hb d_M_set_IJV_12 (by decide) ?_
  refine lv_lushr (v := lN (u / 4294967296)) hx hb d_M_set_IJV_14 (jN_shr (k := 32) (by omega) (by decide)) ?_
  refine lv_l2i (v := nI (u / 4294967296)) hx hb d_M_set_IJV_15 (lN_i _) ?_
  refine x_iast (A := fun q => q = z) hx hb hI9 h2 hlo (rfl) (1) (rfl) (by omega) (by omega) d_M_set_IJV_16 (fun H3 locs3 h3 hF3 hlo => ?_)
  exact W.vret hx hb hr (fun t ht hW => ⟨rfl, by rw [ht]; exact (hF1.tr hF2 (fun _ h => h)).tr hF3 (fun _ h => h), _, by rw [ht]; exact h3, NI_v64 hu hN1⟩) hlo d_M_set_IJV_17
set_option maxHeartbeats 4000000 in
set_option maxRecDepth 100000 in
theorem m_add (l : Launch) (D : va_G) (cJ cI cQ cR : ClassId) (z x y vx vy : Nat) (fz fx fy : Nat → Int32) (hxz : x ≠ z) (hyz : y ≠ z) (hvx : vx < 2 ^ 256) (hvy : vy < 2 ^ 256) (hNx : NI fx 8 vx) (hNy : NI fy 8 vy) : Met l y_M_add w_M_add { frames := 0, cells := 0, slots := 0, locals := 0 } (xP D vwCl (TY cJ cI cQ cR) [.ref z, .ref x, .ref y] (fun H => hI H cI z 8 fz ∧ hI H cI x 8 fx ∧ hI H cI y 8 fy)) (xQi (fun r H0 H => XF (fun q => q = z) H0 H ∧ ∃ (c v : Nat) (f : Nat → Int32), r = nI c ∧ hI H cI z 8 f ∧ NI f 8 v ∧ v < 2 ^ 256 ∧ v + 2 ^ 256 * c = vx + vy ∧ c ≤ 1)) 0 0 (fun q => q = z) := by
  refine Met.ofW (cc := b_M_add) (maxL := 6) (ret := some .int) (by decide) rfl ?_
  intro p e s m args below meth c s₁ B hml hv
  obtain ⟨rfl, hK, ⟨hz, hX, hY⟩⟩ := hv
  have hx := B.exec
  have hb := B.bytes
  have hr := B.returns
  have hts := atoms_spec (ws := w_M_add) B.pre
  have htw : ∀ w ∈ WT, w.before _ s = true := fun w h => hts w (List.mem_cons_of_mem _ h)
  have hown : s.vm.findClass "WideNumbersModel" = some m.cls := findClass_of_methodNamed B.named
  have hlocks := B.notSynchronized
  have hJ : ArrOfT s cJ .long := (hK.2 0 _ rfl).1
  have hI9 : ArrOfT s cI .int := (hK.2 1 _ rfl).1
  have hl := lv_entry ([.ref z, .ref x, .ref y]) (n := 6) (Nat.le_of_ble_eq_true rfl)
  rw [lg_entry_eq]
  generalize (lg_sl ([.ref z, .ref x, .ref y]) ++ List.replicate (6 - (lg_sl ([.ref z, .ref x, .ref y])).length) Slot.unset).toArray = ls at hl ⊢
  have hl : lv_has ls 6 [(0, .ref z), (1, .ref x), (2, .ref y)] := hl
  refine lv_lconst (v := lN 0) hx hb d_M_add_0 (by decide) ?_
  refine lv_lstore_n hx hb d_M_add_1 rfl hl (by decide) rfl (fun ls hl => ?_)
  have hl : lv_has ls 6 [(3, .long (lN 0)), (0, .ref z), (1, .ref x), (2, .ref y)] := hl
  refine lv_iconst (v := nI 0) hx hb d_M_add_2 (by decide) ?_
  refine lv_istore hx hb d_M_add_3 hl (by decide) rfl (fun ls hl => ?_)
  have hl : lv_has ls 6 [(5, .int (nI 0)), (3, .long (lN 0)), (0, .ref z), (1, .ref x), (2, .ref y)] := hl
  have hl : lv_has ls 6 [(5, .int (nI 0)), (3, .long (lN 0)), (0, .ref z), (1, .ref x), (2, .ref y)] := lv_sub hl [0, 1, 2, 3, 4] rfl
  refine x_loop 5 (fun i H locs ls => ∃ (c9 r : Nat) (f : Nat → Int32), lv_has ls 6 [(5, .int (nI i)), (3, .long (lN c9)), (0, .ref z), (1, .ref x), (2, .ref y)] ∧ (∀ q ∈ locs, q.base = z) ∧ XF (fun q => q = z) s.heap H ∧ hI H cI z 8 f ∧ NI f i r ∧ r < 2 ^ (32 * i) ∧ r + 2 ^ (32 * i) * c9 = vx % 2 ^ (32 * i) + vy % 2 ^ (32 * i) ∧ c9 ≤ 1) 8 ?_ ?_ 0 _ _ _ (by omega) ?_
  · intro i H locs ls hi ⟨c9, r, f, hl, hlo, hF, hf, hN, hr9, he, hc9⟩ ih
    refine lv_iload hx hb d_M_add_5 (lv_at hl 0 rfl) ?_
    refine lv_bipush (v := nI 8) hx hb d_M_add_7 (by decide) ?_
    refine lv_icmp_ge (tgt := 51) hx hb d_M_add_9 (by decide) (fun hc => absurd hc (nI_ge (by omega) (by omega))) (fun _ => ?_)
    have hd1 := dg_lt vx i
    have hd2 := dg_lt vy i
    refine lv_lload_n hx hb d_M_add_12 rfl (lv_at hl 1 rfl) ?_
    refine lv_aload_n hx hb d_M_add_13 rfl (lv_at hl 3 rfl) ?_
    refine lv_iload hx hb d_M_add_14 (lv_at hl 0 rfl) ?_
    refine x_iald hx hb hI9 (hI_f hX hF hxz) (i) (rfl) (by omega) (by omega) (v := nI (dg vx i)) (hNx i hi) d_M_add_16 ?_
    refine lv_i2l (v := (nI (dg vx i)).toInt64) hx hb d_M_add_17 (rfl) ?_
    refine lv_ldc2 (v := (4294967295 : Int64)) hx hb hown (htw _ kw_328) d_M_add_18 ?_
    refine lv_land hx hb d_M_add_21 ?_
    refine x_topl (v := lN (dg vx i)) (il_m (dg_lt _ _)) ?_
    refine lv_aload_n hx hb d_M_add_22 rfl (lv_at hl 4 rfl) ?_
    refine lv_iload hx hb d_M_add_23 (lv_at hl 0 rfl) ?_
    refine x_iald hx hb hI9 (hI_f hY hF hyz) (i) (rfl) (by omega) (by omega) (v := nI (dg vy i)) (hNy i hi) d_M_add_25 ?_
    refine lv_i2l (v := (nI (dg vy i)).toInt64) hx hb d_M_add_26 (rfl) ?_
    refine lv_ldc2 (v := (4294967295 : Int64)) hx hb hown (htw _ kw_328) d_M_add_27 ?_
    refine lv_land hx hb d_M_add_30 ?_
    refine x_topl (v := lN (dg vy i)) (il_m (dg_lt _ _)) ?_
    refine lv_ladd hx hb d_M_add_31 ?_
    refine lv_ladd hx hb d_M_add_32 ?_
    refine x_topl (v := lN (dg vx i + dg vy i + c9)) (by rw [lN_add, lN_add, Nat.add_comm c9]) ?_
    obtain ⟨S, hS⟩ : ∃ S, S = dg vx i + dg vy i + c9 := ⟨_, rfl⟩
    rw [← hS]
    refine lv_lstore_n hx hb d_M_add_33 rfl hl (by decide) rfl (fun ls hl => ?_)
    have hl : lv_has ls 6 [(3, .long (lN S)), (5, .int (nI i)), (0, .ref z), (1, .ref x), (2, .ref y)] := hl
    refine lv_aload_n hx hb d_M_add_34 rfl (lv_at hl 2 rfl) ?_
    refine lv_iload hx hb d_M_add_35 (lv_at hl 1 rfl) ?_
    refine lv_lload_n hx hb d_M_add_37 rfl (lv_at hl 0 rfl) ?_
    refine lv_l2i (v := nI S) hx hb d_M_add_38 (lN_i _) ?_
    refine x_topi (v := nI (S % 4294967296)) ((iN_mod S).symm) ?_
    refine x_iast (A := fun q => q = z) hx hb hI9 hf hlo (rfl) (i) (rfl) (by omega) (by omega) d_M_add_39 (fun H1 locs1 h1 hF1 hlo1 => ?_)
    refine lv_lload_n hx hb d_M_add_40 rfl (lv_at hl 0 rfl) ?_
    refine lv_bipush (v := nI 32) hx hb d_M_add_41 (by decide) ?_
    refine lv_lushr (v := lN (S / 4294967296)) hx hb d_M_add_43 (jN_shr (k := 32) (by omega) (by decide)) ?_
    refine lv_lstore_n hx hb d_M_add_44 rfl hl (by decide) rfl (fun ls hl => ?_)
    have hl : lv_has ls 6 [(3, .long (lN (S / 4294967296))), (5, .int (nI i)), (0, .ref z), (1, .ref x), (2, .ref y)] := hl
    refine lv_iinc (v := nI (i + 1)) (k := 1) hx hb d_M_add_45 hl rfl (nI_1 i) (by decide) rfl (fun ls hl => ?_)
    have hl : lv_has ls 6 [(5, .int (nI (i + 1))), (3, .long (lN (S / 4294967296))), (0, .ref z), (1, .ref x), (2, .ref y)] := hl
    refine lv_goto (tgt := 5) hx hb d_M_add_48 (by decide) ?_
    have hl : lv_has ls 6 [(5, .int (nI (i + 1))), (3, .long (lN (S / 4294967296))), (0, .ref z), (1, .ref x), (2, .ref y)] := lv_sub hl [0, 1, 2, 3, 4] rfl
    refine ih H1 locs1 ls ⟨S / 4294967296, r + 2 ^ (32 * i) * (S % 4294967296), _, hl, hlo1, hF.tr hF1 (fun _ h => h), h1, NI_put hN hr9 (Nat.mod_lt _ (by decide)), dg_alt hr9 (Nat.mod_lt _ (by decide)), ?_, by omega⟩
    rw [dg_mods, dg_mods, pw_s]
    exact st_add he (by rw [← hS]; exact Nat.mod_add_div S 4294967296)
  · intro H locs ls ⟨c9, r, f, hl, hlo, hF, hf, hN, hr9, he, hc9⟩
    refine lv_iload hx hb d_M_add_5 (lv_at hl 0 rfl) ?_
    refine lv_bipush (v := nI 8) hx hb d_M_add_7 (by decide) ?_
    refine lv_icmp_ge (tgt := 51) hx hb d_M_add_9 (by decide) (fun _ => ?_) (fun hc => absurd (nI_le (Nat.le_refl _) (by omega)) hc)
    refine lv_lload_n hx hb d_M_add_51 rfl (lv_at hl 1 rfl) ?_
    refine lv_l2i (v := nI c9) hx hb d_M_add_52 (lN_i _) ?_
    rw [Nat.mod_eq_of_lt hvx, Nat.mod_eq_of_lt hvy] at he
    exact W.iret hx hb hr (fun t ht hW => ⟨_, rfl, by rw [ht]; exact hF, c9, r, f, rfl, by rw [ht]; exact hf, hN, hr9, he, hc9⟩) hlo d_M_add_53
  · exact ⟨0, 0, fz, hl, (fun _ h => nomatch h), XF.rf, hz, NI_0, by decide, by simp [Nat.mod_one], by decide⟩
set_option maxHeartbeats 4000000 in
set_option maxRecDepth 100000 in
theorem m_subtract (l : Launch) (D : va_G) (cJ cI cQ cR : ClassId) (z x y vx vy : Nat) (fz fx fy : Nat → Int32) (hxz : x ≠ z) (hvx : vx < 2 ^ 256) (hvy : vy < 2 ^ 256) (hNx : NI fx 8 vx) (hNy : NI fy 8 vy) : Met l y_M_subtract w_M_subtract { frames := 0, cells := 0, slots := 0, locals := 0 } (xP D vwCl (TY cJ cI cQ cR) [.ref z, .ref x, .ref y] (fun H => hI H cI z 8 fz ∧ hI H cI x 8 fx ∧ hI H cI y 8 fy)) (xQv (fun H0 H => XF (fun q => q = z) H0 H ∧ ∃ (v b9 : Nat) (f : Nat → Int32), hI H cI z 8 f ∧ NI f 8 v ∧ v < 2 ^ 256 ∧ vx + 2 ^ 256 * b9 = v + vy ∧ b9 ≤ 1)) 0 0 (fun q => q = z) := by
  refine Met.ofW (cc := b_M_subtract) (maxL := 6) (ret := none) (by decide) rfl ?_
  intro p e s m args below meth c s₁ B hml hv
  obtain ⟨rfl, hK, ⟨hz, hX, hY⟩⟩ := hv
  have hx := B.exec
  have hb := B.bytes
  have hr := B.returns
  have hts := atoms_spec (ws := w_M_subtract) B.pre
  have htw : ∀ w ∈ WT, w.before _ s = true := fun w h => hts w (List.mem_cons_of_mem _ h)
  have hown : s.vm.findClass "WideNumbersModel" = some m.cls := findClass_of_methodNamed B.named
  have hlocks := B.notSynchronized
  have hJ : ArrOfT s cJ .long := (hK.2 0 _ rfl).1
  have hI9 : ArrOfT s cI .int := (hK.2 1 _ rfl).1
  have hl := lv_entry ([.ref z, .ref x, .ref y]) (n := 6) (Nat.le_of_ble_eq_true rfl)
  rw [lg_entry_eq]
  generalize (lg_sl ([.ref z, .ref x, .ref y]) ++ List.replicate (6 - (lg_sl ([.ref z, .ref x, .ref y])).length) Slot.unset).toArray = ls at hl ⊢
  have hl : lv_has ls 6 [(0, .ref z), (1, .ref x), (2, .ref y)] := hl
  refine lv_lconst (v := lN 0) hx hb d_M_subtract_0 (by decide) ?_
  refine x_topl (v := lN (18446744073709551615 * 0)) (rfl) ?_
  refine lv_lstore_n hx hb d_M_subtract_1 rfl hl (by decide) rfl (fun ls hl => ?_)
  have hl : lv_has ls 6 [(3, .long (lN (18446744073709551615 * 0))), (0, .ref z), (1, .ref x), (2, .ref y)] := hl
  refine lv_iconst (v := nI 0) hx hb d_M_subtract_2 (by decide) ?_
  refine lv_istore hx hb d_M_subtract_3 hl (by decide) rfl (fun ls hl => ?_)
  have hl : lv_has ls 6 [(5, .int (nI 0)), (3, .long (lN (18446744073709551615 * 0))), (0, .ref z), (1, .ref x), (2, .ref y)] := hl
  have hl : lv_has ls 6 [(5, .int (nI 0)), (3, .long (lN (18446744073709551615 * 0))), (0, .ref z), (1, .ref x), (2, .ref y)] := lv_sub hl [0, 1, 2, 3, 4] rfl
  refine x_loop 5 (fun i H locs ls => ∃ (b9 r : Nat) (f gy : Nat → Int32), lv_has ls 6 [(5, .int (nI i)), (3, .long (lN (18446744073709551615 * b9))), (0, .ref z), (1, .ref x), (2, .ref y)] ∧ (∀ q ∈ locs, q.base = z) ∧ XF (fun q => q = z) s.heap H ∧ hI H cI z 8 f ∧ hI H cI y 8 gy ∧ (∀ j, i ≤ j → j < 8 → gy j = nI (dg vy j)) ∧ NI f i r ∧ r < 2 ^ (32 * i) ∧ vx % 2 ^ (32 * i) + 2 ^ (32 * i) * b9 = r + vy % 2 ^ (32 * i) ∧ b9 ≤ 1) 8 ?_ ?_ 0 _ _ _ (by omega) ?_
  · intro i H locs ls hi ⟨b9, r, f, gy, hl, hlo, hF, hf, hgy, hgv, hN, hr9, he, hb9⟩ ih
    refine lv_iload hx hb d_M_subtract_5 (lv_at hl 0 rfl) ?_
    refine lv_bipush (v := nI 8) hx hb d_M_subtract_7 (by decide) ?_
    refine lv_icmp_ge (tgt := 51) hx hb d_M_subtract_9 (by decide) (fun hc => absurd hc (nI_ge (by omega) (by omega))) (fun _ => ?_)
    have hd1 := dg_lt vx i
    have hd2 := dg_lt vy i
    refine lv_lload_n hx hb d_M_subtract_12 rfl (lv_at hl 1 rfl) ?_
    refine lv_aload_n hx hb d_M_subtract_13 rfl (lv_at hl 3 rfl) ?_
    refine lv_iload hx hb d_M_subtract_14 (lv_at hl 0 rfl) ?_
    refine x_iald hx hb hI9 (hI_f hX hF hxz) (i) (rfl) (by omega) (by omega) (v := nI (dg vx i)) (hNx i hi) d_M_subtract_16 ?_
    refine lv_i2l (v := (nI (dg vx i)).toInt64) hx hb d_M_subtract_17 (rfl) ?_
    refine lv_ldc2 (v := (4294967295 : Int64)) hx hb hown (htw _ kw_328) d_M_subtract_18 ?_
    refine lv_land hx hb d_M_subtract_21 ?_
    refine x_topl (v := lN (dg vx i)) (il_m (dg_lt _ _)) ?_
    refine lv_aload_n hx hb d_M_subtract_22 rfl (lv_at hl 4 rfl) ?_
    refine lv_iload hx hb d_M_subtract_23 (lv_at hl 0 rfl) ?_
    refine x_iald hx hb hI9 hgy (i) (rfl) (by omega) (by omega) (v := nI (dg vy i)) (hgv i (Nat.le_refl i) hi) d_M_subtract_25 ?_
    refine lv_i2l (v := (nI (dg vy i)).toInt64) hx hb d_M_subtract_26 (rfl) ?_
    refine lv_ldc2 (v := (4294967295 : Int64)) hx hb hown (htw _ kw_328) d_M_subtract_27 ?_
    refine lv_land hx hb d_M_subtract_30 ?_
    refine x_topl (v := lN (dg vy i)) (il_m (dg_lt _ _)) ?_
    refine lv_lsub hx hb d_M_subtract_31 ?_
    refine lv_ladd hx hb d_M_subtract_32 ?_
    refine x_topl (v := lN ((18446744073709551615 * b9 + (dg vx i + 18446744073709551616 - dg vy i)) % 18446744073709551616)) (by rw [jN_sub (by omega), lN_add, jN_mod]) ?_
    obtain ⟨S, hS⟩ : ∃ S, S = (18446744073709551615 * b9 + (dg vx i + 18446744073709551616 - dg vy i)) % 18446744073709551616 := ⟨_, rfl⟩
    rw [← hS]
    have hSS := sb_S hd1 hd2 hb9 hS
    refine lv_lstore_n hx hb d_M_subtract_33 rfl hl (by decide) rfl (fun ls hl => ?_)
    have hl : lv_has ls 6 [(3, .long (lN S)), (5, .int (nI i)), (0, .ref z), (1, .ref x), (2, .ref y)] := hl
    refine lv_aload_n hx hb d_M_subtract_34 rfl (lv_at hl 2 rfl) ?_
    refine lv_iload hx hb d_M_subtract_35 (lv_at hl 1 rfl) ?_
    refine lv_lload_n hx hb d_M_subtract_37 rfl (lv_at hl 0 rfl) ?_
    refine lv_l2i (v := nI S) hx hb d_M_subtract_38 (lN_i _) ?_
    refine x_topi (v := nI (S % 4294967296)) ((iN_mod S).symm) ?_
    refine x_iast (A := fun q => q = z) hx hb hI9 hf hlo (rfl) (i) (rfl) (by omega) (by omega) d_M_subtract_39 (fun H1 locs1 h1 hF1 hlo1 => ?_)
    obtain ⟨gy1, hgy1, hgv1⟩ := hI_al hf h1 hF1 hgy
    refine lv_lload_n hx hb d_M_subtract_40 rfl (lv_at hl 0 rfl) ?_
    refine lv_bipush (v := nI 32) hx hb d_M_subtract_41 (by decide) ?_
    refine lv_lshr (v := lN (18446744073709551615 * (if S < 4294967296 then 0 else 1))) hx hb d_M_subtract_43 (jN_sar32 hSS.1) ?_
    obtain ⟨b8, hb8⟩ : ∃ b8, b8 = (if S < 4294967296 then 0 else 1) := ⟨_, rfl⟩
    rw [← hb8]
    have hb8c : S < 4294967296 ∧ b8 = 0 ∨ ¬ S < 4294967296 ∧ b8 = 1 := by
      by_cases h : S < 4294967296
      · exact Or.inl ⟨h, by rw [hb8, if_pos h]⟩
      · exact Or.inr ⟨h, by rw [hb8, if_neg h]⟩
    refine lv_lstore_n hx hb d_M_subtract_44 rfl hl (by decide) rfl (fun ls hl => ?_)
    have hl : lv_has ls 6 [(3, .long (lN (18446744073709551615 * b8))), (5, .int (nI i)), (0, .ref z), (1, .ref x), (2, .ref y)] := hl
    refine lv_iinc (v := nI (i + 1)) (k := 1) hx hb d_M_subtract_45 hl rfl (nI_1 i) (by decide) rfl (fun ls hl => ?_)
    have hl : lv_has ls 6 [(5, .int (nI (i + 1))), (3, .long (lN (18446744073709551615 * b8))), (0, .ref z), (1, .ref x), (2, .ref y)] := hl
    refine lv_goto (tgt := 5) hx hb d_M_subtract_48 (by decide) ?_
    have hl : lv_has ls 6 [(5, .int (nI (i + 1))), (3, .long (lN (18446744073709551615 * b8))), (0, .ref z), (1, .ref x), (2, .ref y)] := lv_sub hl [0, 1, 2, 3, 4] rfl
    refine ih H1 locs1 ls ⟨b8, r + 2 ^ (32 * i) * (S % 4294967296), _, gy1, hl, hlo1, hF.tr hF1 (fun _ h => h), h1, hgy1, fun j hj hj8 => by rw [hgv1 j hj8 (by omega)]; exact hgv j (by omega) hj8, NI_put hN hr9 (Nat.mod_lt _ (by decide)), dg_alt hr9 (Nat.mod_lt _ (by decide)), ?_, by omega⟩
    rw [dg_mods, dg_mods, pw_s]
    rcases hb8c with ⟨q1, q2⟩ | ⟨q1, q2⟩
    · rw [q2]; exact st_sub he (hSS.2.1 q1)
    · rw [q2]; exact st_sub he (hSS.2.2 q1)
  · intro H locs ls ⟨b9, r, f, gy, hl, hlo, hF, hf, hgy, hgv, hN, hr9, he, hb9⟩
    refine lv_iload hx hb d_M_subtract_5 (lv_at hl 0 rfl) ?_
    refine lv_bipush (v := nI 8) hx hb d_M_subtract_7 (by decide) ?_
    refine lv_icmp_ge (tgt := 51) hx hb d_M_subtract_9 (by decide) (fun _ => ?_) (fun hc => absurd (nI_le (Nat.le_refl _) (by omega)) hc)
    rw [Nat.mod_eq_of_lt hvx, Nat.mod_eq_of_lt hvy] at he
    exact W.vret hx hb hr (fun t ht hW => ⟨rfl, by rw [ht]; exact hF, r, b9, f, by rw [ht]; exact hf, hN, hr9, he, hb9⟩) hlo d_M_subtract_51
  · exact ⟨0, 0, fz, fy, hl, (fun _ h => nomatch h), XF.rf, hz, hY, (fun j _ h => hNy j h), NI_0, by decide, by simp [Nat.mod_one], by decide⟩
set_option maxHeartbeats 4000000 in
set_option maxRecDepth 100000 in
theorem m_bit (l : Launch) (D : va_G) (cJ cI cQ cR : ClassId) (x n k vx : Nat) (fx : Nat → Int32) (hn : n ≤ 17) (hk : k < 32 * n) (hNx : NI fx n vx) : Met l y_M_bit w_M_bit { frames := 0, cells := 0, slots := 0, locals := 0 } (xP D vwCl (TY cJ cI cQ cR) [.ref x, .int (nI k)] (fun H => hI H cI x n fx)) (xQi (fun r H0 H => H = H0 ∧ r = nI (vx / 2 ^ k % 2))) 0 0 (fun _ => False) := by
  refine Met.ofW (cc := b_M_bit) (maxL := 2) (ret := some .int) (by decide) rfl ?_
  intro p e s m args below meth c s₁ B hml hv
  obtain ⟨rfl, hK, hX⟩ := hv
  have hx := B.exec
  have hb := B.bytes
  have hr := B.returns
  have hts := atoms_spec (ws := w_M_bit) B.pre
  have htw : ∀ w ∈ WT, w.before _ s = true := fun w h => hts w (List.mem_cons_of_mem _ h)
  have hown : s.vm.findClass "WideNumbersModel" = some m.cls := findClass_of_methodNamed B.named
  have hlocks := B.notSynchronized
  have hJ : ArrOfT s cJ .long := (hK.2 0 _ rfl).1
  have hI9 : ArrOfT s cI .int := (hK.2 1 _ rfl).1
  have hl := lv_entry ([.ref x, .int (nI k)]) (n := 2) (Nat.le_of_ble_eq_true rfl)
  rw [lg_entry_eq]
  generalize (lg_sl ([.ref x, .int (nI k)]) ++ List.replicate (2 - (lg_sl ([.ref x, .int (nI k)])).length) Slot.unset).toArray = ls at hl ⊢
  have hl : lv_has ls 2 [(0, .ref x), (1, .int (nI k))] := hl
  refine lv_aload_n hx hb d_M_bit_0 rfl (lv_at hl 0 rfl) ?_
  refine lv_iload_n hx hb d_M_bit_1 rfl (lv_at hl 1 rfl) ?_
  refine lv_iconst (v := nI 5) hx hb d_M_bit_2 (by decide) ?_
  refine lv_ishr hx hb d_M_bit_3 ?_
  refine x_topi (v := nI (k / 32)) (iN_shr5 (by omega)) ?_
  refine x_iald hx hb hI9 hX (k / 32) (rfl) (by omega) (by omega) (v := nI (dg vx (k / 32))) (hNx _ (by omega)) d_M_bit_4 ?_
  have hd := dg_lt vx (k / 32)
  have hd2 : dg vx (k / 32) / 2 ^ (k % 32) < 4294967296 := Nat.lt_of_le_of_lt (Nat.div_le_self _ _) hd
  refine lv_iload_n hx hb d_M_bit_5 rfl (lv_at hl 1 rfl) ?_
  refine lv_bipush (v := nI 31) hx hb d_M_bit_6 (by decide) ?_
  refine lv_iand hx hb d_M_bit_8 ?_
  refine x_topi (v := nI (k % 32)) (iN_and31 (by omega)) ?_
  refine lv_iushr (v := nI (dg vx (k / 32) / 2 ^ (k % 32))) hx hb d_M_bit_9 (iN_ushr hd (by omega)) ?_
  refine lv_iconst (v := nI 1) hx hb d_M_bit_10 (by decide) ?_
  refine lv_iand hx hb d_M_bit_11 ?_
  refine x_topi (v := nI (vx / 2 ^ k % 2)) (by rw [iN_and1 hd2, dg_bit]) ?_
  exact W.iret hx hb hr (fun t ht hW => ⟨_, rfl, ht, rfl⟩) (fun _ h => nomatch h) d_M_bit_12
set_option maxHeartbeats 4000000 in
set_option maxRecDepth 100000 in
theorem m_part (l : Launch) (D : va_G) (cJ cI cQ cR : ClassId) (x k vx : Nat) (fx : Nat → Int32) (hk : k < 4) (hNx : NI fx 8 vx) : Met l y_M_part w_M_part { frames := 0, cells := 0, slots := 0, locals := 0 } (xP D vwCl (TY cJ cI cQ cR) [.ref x, .int (nI k)] (fun H => hI H cI x 8 fx)) (xQl (fun r H0 H => H = H0 ∧ r = lN (gp vx k))) 0 0 (fun _ => False) := by
  refine Met.ofW (cc := b_M_part) (maxL := 3) (ret := some .long) (by decide) rfl ?_
  intro p e s m args below meth c s₁ B hml hv
  obtain ⟨rfl, hK, hX⟩ := hv
  have hx := B.exec
  have hb := B.bytes
  have hr := B.returns
  have hts := atoms_spec (ws := w_M_part) B.pre
  have htw : ∀ w ∈ WT, w.before _ s = true := fun w h => hts w (List.mem_cons_of_mem _ h)
  have hown : s.vm.findClass "WideNumbersModel" = some m.cls := findClass_of_methodNamed B.named
  have hlocks := B.notSynchronized
  have hJ : ArrOfT s cJ .long := (hK.2 0 _ rfl).1
  have hI9 : ArrOfT s cI .int := (hK.2 1 _ rfl).1
  have hl := lv_entry ([.ref x, .int (nI k)]) (n := 3) (Nat.le_of_ble_eq_true rfl)
  rw [lg_entry_eq]
  generalize (lg_sl ([.ref x, .int (nI k)]) ++ List.replicate (3 - (lg_sl ([.ref x, .int (nI k)])).length) Slot.unset).toArray = ls at hl ⊢
  have hl : lv_has ls 3 [(0, .ref x), (1, .int (nI k))] := hl
  refine lv_iconst (v := nI 2) hx hb d_M_part_0 (by decide) ?_
  refine lv_iconst (v := nI 3) hx hb d_M_part_1 (by decide) ?_
  refine lv_iload_n hx hb d_M_part_2 rfl (lv_at hl 1 rfl) ?_
  refine lv_isub hx hb d_M_part_3 ?_
  refine x_topi (v := nI (3 - k)) (pk_sub (by omega)) ?_
  refine lv_imul hx hb d_M_part_4 ?_
  refine x_topi (v := nI (2 * (3 - k))) (pk_mul _ _) ?_
  refine lv_istore_n hx hb d_M_part_5 rfl hl (by decide) rfl (fun ls hl => ?_)
  have hl : lv_has ls 3 [(2, .int (nI (2 * (3 - k)))), (0, .ref x), (1, .int (nI k))] := hl
  refine lv_aload_n hx hb d_M_part_6 rfl (lv_at hl 1 rfl) ?_
  refine lv_iload_n hx hb d_M_part_7 rfl (lv_at hl 0 rfl) ?_
  refine lv_iconst (v := nI 1) hx hb d_M_part_8 (by decide) ?_
  refine lv_iadd hx hb d_M_part_9 ?_
  refine x_topi (v := nI (2 * (3 - k) + 1)) (nI_1 _) ?_
  refine x_iald hx hb hI9 hX (2 * (3 - k) + 1) (rfl) (by omega) (by omega) (v := nI (dg vx (2 * (3 - k) + 1))) (hNx _ (by omega)) d_M_part_10 ?_
  refine lv_i2l (v := (nI (dg vx (2 * (3 - k) + 1))).toInt64) hx hb d_M_part_11 (rfl) ?_
  refine lv_ldc2 (v := (4294967295 : Int64)) hx hb hown (htw _ kw_328) d_M_part_12 ?_
  refine lv_land hx hb d_M_part_15 ?_
  refine x_topl (v := lN (dg vx (2 * (3 - k) + 1))) (il_m (dg_lt _ _)) ?_
  refine lv_bipush (v := nI 32) hx hb d_M_part_16 (by decide) ?_
  refine lv_lshl (v := lN (dg vx (2 * (3 - k) + 1) * 4294967296)) hx hb d_M_part_18 (jN_shl (k := 32) _ (by decide)) ?_
  refine lv_aload_n hx hb d_M_part_19 rfl (lv_at hl 1 rfl) ?_
  refine lv_iload_n hx hb d_M_part_20 rfl (lv_at hl 0 rfl) ?_
  refine x_iald hx hb hI9 hX (2 * (3 - k)) (rfl) (by omega) (by omega) (v := nI (dg vx (2 * (3 - k)))) (hNx _ (by omega)) d_M_part_21 ?_
  refine lv_i2l (v := (nI (dg vx (2 * (3 - k)))).toInt64) hx hb d_M_part_22 (rfl) ?_
  refine lv_ldc2 (v := (4294967295 : Int64)) hx hb hown (htw _ kw_328) d_M_part_23 ?_
  refine lv_land hx hb d_M_part_26 ?_
  refine x_topl (v := lN (dg vx (2 * (3 - k)))) (il_m (dg_lt _ _)) ?_
  refine lv_lor hx hb d_M_part_27 ?_
  refine x_topl (v := lN (gp vx k)) (jN_or _ _) ?_
  exact W.lret hx hb hr (fun t ht hW => ⟨_, rfl, ht, rfl⟩) (fun _ h => nomatch h) d_M_part_28
set_option maxHeartbeats 4000000 in
set_option maxRecDepth 100000 in
theorem m_out (l : Launch) (D : va_G) (cJ cI cQ cR : ClassId) (o : Nat) (r : Int32) : Met l y_M_out w_M_out { frames := 0, cells := 0, slots := 0, locals := 0 } (xP D vwCl (TY cJ cI cQ cR) [.ref o, .int r] (fun H => True)) (xQi (fun x H0 H => H = H0 ∧ (x = 0 ∧ vd r 16 ∨ x = 1 ∧ ¬ vd r 16))) 0 0 (fun _ => False) := by
  refine Met.ofW (cc := b_M_out) (maxL := 2) (ret := some .boolean) (by decide) rfl ?_
  intro p e s m args below meth c s₁ B hml hv
  obtain ⟨rfl, hK, hB⟩ := hv
  have hx := B.exec
  have hb := B.bytes
  have hr := B.returns
  have hts := atoms_spec (ws := w_M_out) B.pre
  have htw : ∀ w ∈ WT, w.before _ s = true := fun w h => hts w (List.mem_cons_of_mem _ h)
  have hown : s.vm.findClass "WideNumbersModel" = some m.cls := findClass_of_methodNamed B.named
  have hlocks := B.notSynchronized
  have hJ : ArrOfT s cJ .long := (hK.2 0 _ rfl).1
  have hI9 : ArrOfT s cI .int := (hK.2 1 _ rfl).1
  have hl := lv_entry ([.ref o, .int r]) (n := 2) (Nat.le_of_ble_eq_true rfl)
  rw [lg_entry_eq]
  generalize (lg_sl ([.ref o, .int r]) ++ List.replicate (2 - (lg_sl ([.ref o, .int r])).length) Slot.unset).toArray = ls at hl ⊢
  have hl : lv_has ls 2 [(0, .ref o), (1, .int r)] := hl
  refine lv_iload_n hx hb d_M_out_0 rfl (lv_at hl 1 rfl) ?_
  refine lv_if_lt (tgt := 10) hx hb d_M_out_1 (by decide) (fun hc => ?_) (fun hc => ?_)
  · refine lv_iconst (v := nI 1) hx hb d_M_out_10 (by decide) ?_
    refine lv_goto (tgt := 15) hx hb d_M_out_11 (by decide) ?_
    exact W.zret hx hb hr rfl (fun t ht hW => ⟨_, rfl, ht, Or.inr ⟨rfl, fun h => by obtain ⟨k, hk, rfl⟩ := h; exact nI_pos (by omega) hc⟩⟩) (fun _ h => nomatch h) d_M_out_15
  · obtain ⟨k, hk, ek⟩ := nI_of hc
    refine lv_iload_n hx hb d_M_out_4 rfl (lv_at hl 1 rfl) ?_
    refine lv_bipush (v := nI 15) hx hb d_M_out_5 (by decide) ?_
    refine lv_icmp_le (tgt := 14) hx hb d_M_out_7 (by decide) (fun hc2 => ?_) (fun hc2 => ?_)
    · refine lv_iconst (v := nI 0) hx hb d_M_out_14 (by decide) ?_
      exact W.zret hx hb hr rfl (fun t ht hW => ⟨_, rfl, ht, Or.inl ⟨rfl, k, by subst ek; have := (nI_leI hk (by decide)).mp hc2; omega, ek⟩⟩) (fun _ h => nomatch h) d_M_out_15
    · refine lv_iconst (v := nI 1) hx hb d_M_out_10 (by decide) ?_
      refine lv_goto (tgt := 15) hx hb d_M_out_11 (by decide) ?_
      exact W.zret hx hb hr rfl (fun t ht hW => ⟨_, rfl, ht, Or.inr ⟨rfl, fun h => by obtain ⟨q, hq, rfl⟩ := h; exact hc2 (nI_le (by omega) (by decide))⟩⟩) (fun _ h => nomatch h) d_M_out_15
set_option maxHeartbeats 4000000 in
set_option maxRecDepth 100000 in
theorem m_below (l : Launch) (D : va_G) (cJ cI cQ cR : ClassId) (o x vx : Nat) (fx : Nat → Int32) (hvx : vx < 2 ^ 256) (hNx : NI fx 8 vx) : Met l y_M_below w_M_below { frames := 0, cells := 0, slots := 0, locals := 0 } (xP D vwCl (TY cJ cI cQ cR) [.ref o, .ref x] (fun H => hI H cI x 8 fx)) (xQi (fun r H0 H => H = H0 ∧ r = if 2 ^ 255 ≤ vx then 1 else 0)) 0 0 (fun _ => False) := by
  refine Met.ofW (cc := b_M_below) (maxL := 2) (ret := some .boolean) (by decide) rfl ?_
  intro p e s m args below meth c s₁ B hml hv
  obtain ⟨rfl, hK, hX⟩ := hv
  have hx := B.exec
  have hb := B.bytes
  have hr := B.returns
  have hts := atoms_spec (ws := w_M_below) B.pre
  have htw : ∀ w ∈ WT, w.before _ s = true := fun w h => hts w (List.mem_cons_of_mem _ h)
  have hown : s.vm.findClass "WideNumbersModel" = some m.cls := findClass_of_methodNamed B.named
  have hlocks := B.notSynchronized
  have hJ : ArrOfT s cJ .long := (hK.2 0 _ rfl).1
  have hI9 : ArrOfT s cI .int := (hK.2 1 _ rfl).1
  have hl := lv_entry ([.ref o, .ref x]) (n := 2) (Nat.le_of_ble_eq_true rfl)
  rw [lg_entry_eq]
  generalize (lg_sl ([.ref o, .ref x]) ++ List.replicate (2 - (lg_sl ([.ref o, .ref x])).length) Slot.unset).toArray = ls at hl ⊢
  have hl : lv_has ls 2 [(0, .ref o), (1, .ref x)] := hl
  have hd := dg_lt vx 7
  refine lv_aload_n hx hb d_M_below_0 rfl (lv_at hl 1 rfl) ?_
  refine lv_bipush (v := nI 7) hx hb d_M_below_1 (by decide) ?_
  refine x_iald hx hb hI9 hX (7) (rfl) (by omega) (by omega) (v := nI (dg vx 7)) (hNx 7 (by decide)) d_M_below_3 ?_
  refine lv_if_ge (tgt := 11) hx hb d_M_below_4 (by decide) (fun hc => ?_) (fun hc => ?_)
  · refine lv_iconst (v := nI 0) hx hb d_M_below_11 (by decide) ?_
    have hn := (dg7 hvx).mp ((iN_neg hd).mp hc)
    exact W.zret hx hb hr rfl (fun t ht hW => ⟨_, rfl, ht, by rw [if_neg hn]; rfl⟩) (fun _ h => nomatch h) d_M_below_12
  · refine lv_iconst (v := nI 1) hx hb d_M_below_7 (by decide) ?_
    refine lv_goto (tgt := 12) hx hb d_M_below_8 (by decide) ?_
    have hn : 2 ^ 255 ≤ vx := Decidable.byContradiction (fun h => hc ((iN_neg hd).mpr ((dg7 hvx).mpr h)))
    exact W.zret hx hb hr rfl (fun t ht hW => ⟨_, rfl, ht, by rw [if_pos hn]; rfl⟩) (fun _ h => nomatch h) d_M_below_12
set_option maxHeartbeats 4000000 in
set_option maxRecDepth 100000 in
theorem m_small (l : Launch) (D : va_G) (cJ cI cQ cR : ClassId) (x vx b : Nat) (fx : Nat → Int32) (hvx : vx < 2 ^ 256) (hb9 : b ≤ 256) (hNx : NI fx 8 vx) : Met l y_M_small w_M_small { frames := 0, cells := 0, slots := 0, locals := 0 } (xP D vwCl (TY cJ cI cQ cR) [.ref x, .long (lN b)] (fun H => hI H cI x 8 fx)) (xQl (fun r H0 H => H = H0 ∧ r = lN (if vx ≤ b then vx else b + 1))) 0 0 (fun _ => False) := by
  refine Met.ofW (cc := b_M_small) (maxL := 5) (ret := some .long) (by decide) rfl ?_
  intro p e s m args below meth c s₁ B hml hv
  obtain ⟨rfl, hK, hX⟩ := hv
  have hx := B.exec
  have hb := B.bytes
  have hr := B.returns
  have hts := atoms_spec (ws := w_M_small) B.pre
  have htw : ∀ w ∈ WT, w.before _ s = true := fun w h => hts w (List.mem_cons_of_mem _ h)
  have hown : s.vm.findClass "WideNumbersModel" = some m.cls := findClass_of_methodNamed B.named
  have hlocks := B.notSynchronized
  have hJ : ArrOfT s cJ .long := (hK.2 0 _ rfl).1
  have hI9 : ArrOfT s cI .int := (hK.2 1 _ rfl).1
  have hl := lv_entry ([.ref x, .long (lN b)]) (n := 5) (Nat.le_of_ble_eq_true rfl)
  rw [lg_entry_eq]
  generalize (lg_sl ([.ref x, .long (lN b)]) ++ List.replicate (5 - (lg_sl ([.ref x, .long (lN b)])).length) Slot.unset).toArray = ls at hl ⊢
  have hl : lv_has ls 5 [(0, .ref x), (1, .long (lN b))] := hl
  refine lv_iconst (v := nI 2) hx hb d_M_small_0 (by decide) ?_
  refine lv_istore_n hx hb d_M_small_1 rfl hl (by decide) rfl (fun ls hl => ?_)
  have hl : lv_has ls 5 [(3, .int (nI 2)), (0, .ref x), (1, .long (lN b))] := hl
  have hl : lv_has ls 5 [(3, .int (nI 2)), (0, .ref x), (1, .long (lN b))] := lv_sub hl [0, 1, 2] rfl
  refine x_loop 2 (fun i H locs ls => 2 ≤ i ∧ lv_has ls 5 [(3, .int (nI i)), (0, .ref x), (1, .long (lN b))] ∧ locs = [] ∧ H = s.heap ∧ ∀ j, 2 ≤ j → j < i → dg vx j = 0) 8 ?_ ?_ 2 _ _ _ (by omega) ?_
  · intro i H locs ls hi ⟨hi2, hl, hlo, hH, hz9⟩ ih
    refine lv_iload_n hx hb d_M_small_2 rfl (lv_at hl 0 rfl) ?_
    refine lv_bipush (v := nI 8) hx hb d_M_small_3 (by decide) ?_
    refine lv_icmp_ge (tgt := 24) hx hb d_M_small_5 (by decide) (fun hc => absurd hc (nI_ge (by omega) (by omega))) (fun _ => ?_)
    subst hlo
    subst hH
    have hd1 := dg_lt vx i
    refine lv_aload_n hx hb d_M_small_8 rfl (lv_at hl 1 rfl) ?_
    refine lv_iload_n hx hb d_M_small_9 rfl (lv_at hl 0 rfl) ?_
    refine x_iald hx hb hI9 hX (i) (rfl) (by omega) (by omega) (v := nI (dg vx i)) (hNx i hi) d_M_small_10 ?_
    refine lv_if_eq (tgt := 18) hx hb d_M_small_11 (by decide) (fun hc => ?_) (fun hc => ?_)
    · have hd : dg vx i = 0 := (iN_eq hd1 (by decide)).mp (hc.trans nI_0.symm)
      refine lv_iinc (v := nI (i + 1)) (k := 0) hx hb d_M_small_18 hl rfl (nI_1 i) (by decide) rfl (fun ls hl => ?_)
      have hl : lv_has ls 5 [(3, .int (nI (i + 1))), (0, .ref x), (1, .long (lN b))] := hl
      refine lv_goto (tgt := 2) hx hb d_M_small_21 (by decide) ?_
      have hl : lv_has ls 5 [(3, .int (nI (i + 1))), (0, .ref x), (1, .long (lN b))] := lv_sub hl [0, 1, 2] rfl
      exact ih _ _ ls ⟨by omega, hl, rfl, rfl, fun j hj hj2 => by
        by_cases e9 : j = i
        · rw [e9]; exact hd
        · exact hz9 j hj (by omega)⟩
    · have hne : dg vx i ≠ 0 := fun h => hc (by rw [h]; rfl)
      have hv : ¬ vx ≤ b := fun h => hne (dg_big (Nat.lt_of_le_of_lt h (Nat.lt_of_lt_of_le (show b < 2 ^ 64 by omega) (pw_le (by omega)))))
      refine lv_lload_n hx hb d_M_small_14 rfl (lv_at hl 2 rfl) ?_
      refine lv_lconst (v := lN 1) hx hb d_M_small_15 (by decide) ?_
      refine lv_ladd hx hb d_M_small_16 ?_
      refine x_topl (v := lN (b + 1)) (lN_add _ _) ?_
      exact W.lret hx hb hr (fun t ht hW => ⟨_, rfl, ht, by rw [if_neg hv]⟩) (fun _ h => nomatch h) d_M_small_17
  · intro H locs ls ⟨hi2, hl, hlo, hH, hz9⟩
    refine lv_iload_n hx hb d_M_small_2 rfl (lv_at hl 0 rfl) ?_
    refine lv_bipush (v := nI 8) hx hb d_M_small_3 (by decide) ?_
    refine lv_icmp_ge (tgt := 24) hx hb d_M_small_5 (by decide) (fun _ => ?_) (fun hc => absurd (nI_le (Nat.le_refl _) (by omega)) hc)
    subst hlo
    subst hH
    obtain ⟨h64, hve⟩ := v64 hvx hz9
    refine lv_aload_n hx hb d_M_small_24 rfl (lv_at hl 1 rfl) ?_
    refine lv_iconst (v := nI 1) hx hb d_M_small_25 (by decide) ?_
    refine x_iald hx hb hI9 hX (1) (rfl) (by omega) (by omega) (v := nI (dg vx 1)) (hNx 1 (by decide)) d_M_small_26 ?_
    refine lv_i2l (v := (nI (dg vx 1)).toInt64) hx hb d_M_small_27 (rfl) ?_
    refine lv_ldc2 (v := (4294967295 : Int64)) hx hb hown (htw _ kw_328) d_M_small_28 ?_
    refine lv_land hx hb d_M_small_31 ?_
    refine x_topl (v := lN (dg vx 1)) (il_m (dg_lt _ _)) ?_
    refine lv_bipush (v := nI 32) hx hb d_M_small_32 (by decide) ?_
    refine lv_lshl (v := lN (dg vx 1 * 4294967296)) hx hb d_M_small_34 (jN_shl (k := 32) _ (by decide)) ?_
    refine lv_aload_n hx hb d_M_small_35 rfl (lv_at hl 1 rfl) ?_
    refine lv_iconst (v := nI 0) hx hb d_M_small_36 (by decide) ?_
    refine x_iald hx hb hI9 hX (0) (rfl) (by omega) (by omega) (v := nI (dg vx 0)) (hNx 0 (by decide)) d_M_small_37 ?_
    refine lv_i2l (v := (nI (dg vx 0)).toInt64) hx hb d_M_small_38 (rfl) ?_
    refine lv_ldc2 (v := (4294967295 : Int64)) hx hb hown (htw _ kw_328) d_M_small_39 ?_
    refine lv_land hx hb d_M_small_42 ?_
    refine x_topl (v := lN (dg vx 0)) (il_m (dg_lt _ _)) ?_
    refine lv_lor hx hb d_M_small_43 ?_
    refine x_topl (v := lN vx) (by rw [jN_or, hve]) ?_
    refine lv_lstore_n hx hb d_M_small_44 rfl hl (by decide) rfl (fun ls hl => ?_)
    have hl : lv_has ls 5 [(3, .long (lN vx)), (0, .ref x), (1, .long (lN b))] := hl
    refine lv_lload_n hx hb d_M_small_45 rfl (lv_at hl 0 rfl) ?_
    refine lv_lconst (v := lN 0) hx hb d_M_small_46 (by decide) ?_
    refine W.lcmp hx hb d_M_small_47 ?_
    refine lv_if_lt (tgt := 57) hx hb d_M_small_48 (by decide) (fun hc => ?_) (fun hc => ?_)
    · have hb3 := (jN_neg h64).mp ((lg_cmp_lt _ _).mp hc)
      refine lv_lload_n hx hb d_M_small_57 rfl (lv_at hl 2 rfl) ?_
      refine lv_lconst (v := lN 1) hx hb d_M_small_58 (by decide) ?_
      refine lv_ladd hx hb d_M_small_59 ?_
      refine x_topl (v := lN (b + 1)) (lN_add _ _) ?_
      refine lv_goto (tgt := 64) hx hb d_M_small_60 (by decide) ?_
      exact W.lret hx hb hr (fun t ht hW => ⟨_, rfl, ht, by rw [if_neg (by omega)]⟩) (fun _ h => nomatch h) d_M_small_64
    · have hb3 : vx < 9223372036854775808 := Nat.lt_of_not_le (fun h => hc ((lg_cmp_lt _ _).mpr ((jN_neg h64).mpr h)))
      refine lv_lload_n hx hb d_M_small_51 rfl (lv_at hl 0 rfl) ?_
      refine lv_lload_n hx hb d_M_small_52 rfl (lv_at hl 2 rfl) ?_
      refine W.lcmp hx hb d_M_small_53 ?_
      refine lv_if_le (tgt := 63) hx hb d_M_small_54 (by decide) (fun hc2 => ?_) (fun hc2 => ?_)
      · have hle : vx ≤ b := Nat.le_of_not_lt (fun h => absurd ((lg_cmp_le _ _).mp hc2) (Int64.not_le.mpr ((jN_lt (by omega) (by omega)).mpr h)))
        refine lv_lload_n hx hb d_M_small_63 rfl (lv_at hl 0 rfl) ?_
        exact W.lret hx hb hr (fun t ht hW => ⟨_, rfl, ht, by rw [if_pos hle]⟩) (fun _ h => nomatch h) d_M_small_64
      · have hgt : ¬ vx ≤ b := fun h => hc2 ((lg_cmp_le _ _).mpr (Int64.not_lt.mp (fun z => absurd ((jN_lt (by omega) (by omega)).mp z) (by omega))))
        refine lv_lload_n hx hb d_M_small_57 rfl (lv_at hl 2 rfl) ?_
        refine lv_lconst (v := lN 1) hx hb d_M_small_58 (by decide) ?_
        refine lv_ladd hx hb d_M_small_59 ?_
        refine x_topl (v := lN (b + 1)) (lN_add _ _) ?_
        refine lv_goto (tgt := 64) hx hb d_M_small_60 (by decide) ?_
        exact W.lret hx hb hr (fun t ht hW => ⟨_, rfl, ht, by rw [if_neg hgt]⟩) (fun _ h => nomatch h) d_M_small_64
  · exact ⟨by decide, hl, rfl, rfl, fun j h1 h2 => absurd h2 (by omega)⟩
