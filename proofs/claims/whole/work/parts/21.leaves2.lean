-- contracts of the leaves
set_option maxHeartbeats 4000000 in
set_option maxRecDepth 100000 in
theorem c_subtract (l : Launch) (D : va_G) (cJ cI cQ cR : ClassId) (z x y vx vy : Nat) (fz fx fy : Nat → Int64) (hyz : y ≠ z) (hvx : vx < 2 ^ 256) (hvy : vy < 2 ^ 256) (hNx : NL fx 8 vx) (hNy : NL fy 8 vy) : Met l y_C_subtract w_C_subtract { frames := 0, cells := 0, slots := 0, locals := 0 } (xP D vwCl (TY cJ cI cQ cR) [.ref z, .ref x, .ref y] (fun H => hL H cJ z 8 fz ∧ hL H cJ x 8 fx ∧ hL H cJ y 8 fy)) (xQv (fun H0 H => XF (fun q => q = z) H0 H ∧ ∃ (v b9 : Nat) (f : Nat → Int64), hL H cJ z 8 f ∧ NL f 8 v ∧ v < 2 ^ 256 ∧ vx + 2 ^ 256 * b9 = v + vy ∧ b9 ≤ 1)) 0 0 (fun q => q = z) := by
  refine Met.ofW (cc := b_C_subtract) (maxL := 8) (ret := none) (by decide) rfl ?_
  intro p e s m args below meth c s₁ B hml hv
  obtain ⟨rfl, hK, ⟨hz, hX, hY⟩⟩ := hv
  have hx := B.exec
  have hb := B.bytes
  have hr := B.returns
  have hts := atoms_spec (ws := w_C_subtract) B.pre
  have htw : ∀ w ∈ WT, w.before _ s = true := fun w h => hts w (List.mem_cons_of_mem _ h)
  have hown : s.vm.findClass "WideNumbers" = some m.cls := findClass_of_methodNamed B.named
  have hlocks := B.notSynchronized
  have hJ : ArrOfT s cJ .long := (hK.2 0 _ rfl).1
  have hI9 : ArrOfT s cI .int := (hK.2 1 _ rfl).1
  have hl := lv_entry ([.ref z, .ref x, .ref y]) (n := 8) (Nat.le_of_ble_eq_true rfl)
  rw [lg_entry_eq]
  generalize (lg_sl ([.ref z, .ref x, .ref y]) ++ List.replicate (8 - (lg_sl ([.ref z, .ref x, .ref y])).length) Slot.unset).toArray = ls at hl ⊢
  have hl : lv_has ls 8 [(0, .ref z), (1, .ref x), (2, .ref y)] := hl
  refine lv_lconst (v := lN 0) hx hb d_C_subtract_0 (by decide) ?_
  refine lv_lstore_n hx hb d_C_subtract_1 rfl hl (by decide) rfl (fun ls hl => ?_)
  have hl : lv_has ls 8 [(3, .long (lN 0)), (0, .ref z), (1, .ref x), (2, .ref y)] := hl
  refine lv_iconst (v := nI 0) hx hb d_C_subtract_2 (by decide) ?_
  refine lv_istore hx hb d_C_subtract_3 hl (by decide) rfl (fun ls hl => ?_)
  have hl : lv_has ls 8 [(5, .int (nI 0)), (3, .long (lN 0)), (0, .ref z), (1, .ref x), (2, .ref y)] := hl
  have hl : lv_has ls 8 [(5, .int (nI 0)), (3, .long (lN 0)), (0, .ref z), (1, .ref x), (2, .ref y)] := lv_sub hl [0, 1, 2, 3, 4] rfl
  refine x_loop 5 (fun i H locs ls => ∃ (b9 r : Nat) (f gx : Nat → Int64), lv_has ls 8 [(5, .int (nI i)), (3, .long (lN b9)), (0, .ref z), (1, .ref x), (2, .ref y)] ∧ (∀ q ∈ locs, q.base = z) ∧ XF (fun q => q = z) s.heap H ∧ hL H cJ z 8 f ∧ hL H cJ x 8 gx ∧ (∀ j, i ≤ j → j < 8 → gx j = lN (dg vx j)) ∧ NL f i r ∧ r < 2 ^ (32 * i) ∧ vx % 2 ^ (32 * i) + 2 ^ (32 * i) * b9 = r + vy % 2 ^ (32 * i) ∧ b9 ≤ 1) 8 ?_ ?_ 0 _ _ _ (by omega) ?_
  · intro i H locs ls hi ⟨b9, r, f, gx, hl, hlo, hF, hf, hgx, hgv, hN, hr9, he, hb9⟩ ih
    refine lv_iload hx hb d_C_subtract_5 (lv_at hl 0 rfl) ?_
    refine lv_bipush (v := nI 8) hx hb d_C_subtract_7 (by decide) ?_
    refine lv_icmp_ge (tgt := 54) hx hb d_C_subtract_9 (by decide) (fun hc => absurd hc (nI_ge (by omega) (by omega))) (fun _ => ?_)
    refine lv_aload_n hx hb d_C_subtract_12 rfl (lv_at hl 3 rfl) ?_
    refine lv_iload hx hb d_C_subtract_13 (lv_at hl 0 rfl) ?_
    refine x_lald hx hb hJ hgx (i) (rfl) (by omega) (by omega) (v := lN (dg vx i)) (hgv i (Nat.le_refl i) hi) d_C_subtract_15 ?_
    refine lv_aload_n hx hb d_C_subtract_16 rfl (lv_at hl 4 rfl) ?_
    refine lv_iload hx hb d_C_subtract_17 (lv_at hl 0 rfl) ?_
    refine x_lald hx hb hJ (hL_f hY hF hyz) (i) (rfl) (by omega) (by omega) (v := lN (dg vy i)) (hNy i hi) d_C_subtract_19 ?_
    have hd1 := dg_lt vx i
    have hd2 := dg_lt vy i
    refine lv_lsub hx hb d_C_subtract_20 ?_
    refine lv_lload_n hx hb d_C_subtract_21 rfl (lv_at hl 1 rfl) ?_
    refine lv_lsub hx hb d_C_subtract_22 ?_
    refine x_topl (v := lN ((dg vx i + 18446744073709551616 - dg vy i + 18446744073709551616 - b9) % 18446744073709551616)) (by rw [jN_sub (by omega), jN_sub (by omega), jN_mod]) ?_
    obtain ⟨S, hS⟩ : ∃ S, S = (dg vx i + 18446744073709551616 - dg vy i + 18446744073709551616 - b9) % 18446744073709551616 := ⟨_, rfl⟩
    rw [← hS]
    refine lv_lstore hx hb d_C_subtract_23 hl (by decide) rfl (fun ls hl => ?_)
    have hl : lv_has ls 8 [(6, .long (lN S)), (5, .int (nI i)), (3, .long (lN b9)), (0, .ref z), (1, .ref x), (2, .ref y)] := hl
    refine lv_aload_n hx hb d_C_subtract_25 rfl (lv_at hl 3 rfl) ?_
    refine lv_iload hx hb d_C_subtract_26 (lv_at hl 1 rfl) ?_
    refine lv_lload hx hb d_C_subtract_28 (lv_at hl 0 rfl) ?_
    refine lv_ldc2 (v := (4294967295 : Int64)) hx hb hown (htw _ kw_126) d_C_subtract_30 ?_
    refine lv_land hx hb d_C_subtract_33 ?_
    refine x_topl (v := lN (S % 4294967296)) (jN_lo S) ?_
    refine x_last (A := fun q => q = z) hx hb hJ hf hlo (rfl) (i) (rfl) (by omega) (by omega) d_C_subtract_34 (fun H1 locs1 h1 hF1 hlo1 => ?_)
    obtain ⟨gx1, hgx1, hgv1⟩ := hL_al hf h1 hF1 hgx
    refine lv_lload hx hb d_C_subtract_35 (lv_at hl 0 rfl) ?_
    refine lv_lconst (v := lN 0) hx hb d_C_subtract_37 (by decide) ?_
    refine W.lcmp hx hb d_C_subtract_38 ?_
    refine lv_if_ge (tgt := 46) hx hb d_C_subtract_39 (by decide) (fun hc => ?_) (fun hc => ?_)
    · have hS2 : ¬ 9223372036854775808 ≤ S := fun h => absurd ((lg_cmp_ge _ _).mp hc) (Int64.not_le.mpr ((jN_neg (by omega)).mpr h))
      refine lv_lconst (v := lN 0) hx hb d_C_subtract_46 (by decide) ?_
      refine lv_lstore_n hx hb d_C_subtract_47 rfl hl (by decide) rfl (fun ls hl => ?_)
      have hl : lv_has ls 8 [(3, .long (lN 0)), (6, .long (lN S)), (5, .int (nI i)), (0, .ref z), (1, .ref x), (2, .ref y)] := hl
      refine lv_iinc (v := nI (i + 1)) (k := 2) hx hb d_C_subtract_48 hl rfl (nI_1 i) (by decide) rfl (fun ls hl => ?_)
      have hl : lv_has ls 8 [(5, .int (nI (i + 1))), (3, .long (lN 0)), (6, .long (lN S)), (0, .ref z), (1, .ref x), (2, .ref y)] := hl
      refine lv_goto (tgt := 5) hx hb d_C_subtract_51 (by decide) ?_
      have hl : lv_has ls 8 [(5, .int (nI (i + 1))), (3, .long (lN 0)), (0, .ref z), (1, .ref x), (2, .ref y)] := lv_sub hl [0, 1, 3, 4, 5] rfl
      refine ih H1 locs1 ls ⟨0, r + 2 ^ (32 * i) * (S % 4294967296), _, gx1, hl, hlo1, hF.tr hF1 (fun _ h => h), h1, hgx1, fun j hj hj8 => by rw [hgv1 j hj8 (by omega)]; exact hgv j (by omega) hj8, NL_put hN hr9 (Nat.mod_lt _ (by decide)), dg_alt hr9 (Nat.mod_lt _ (by decide)), ?_, by omega⟩
      rw [dg_mods, dg_mods, pw_s]
      exact st_sub he (by omega)
    · have hS2 : 9223372036854775808 ≤ S := (jN_neg (by omega)).mp (Int64.not_le.mp (fun h => hc ((lg_cmp_ge _ _).mpr h)))
      refine lv_lconst (v := lN 1) hx hb d_C_subtract_42 (by decide) ?_
      refine lv_goto (tgt := 47) hx hb d_C_subtract_43 (by decide) ?_
      refine lv_lstore_n hx hb d_C_subtract_47 rfl hl (by decide) rfl (fun ls hl => ?_)
      have hl : lv_has ls 8 [(3, .long (lN 1)), (6, .long (lN S)), (5, .int (nI i)), (0, .ref z), (1, .ref x), (2, .ref y)] := hl
      refine lv_iinc (v := nI (i + 1)) (k := 2) hx hb d_C_subtract_48 hl rfl (nI_1 i) (by decide) rfl (fun ls hl => ?_)
      have hl : lv_has ls 8 [(5, .int (nI (i + 1))), (3, .long (lN 1)), (6, .long (lN S)), (0, .ref z), (1, .ref x), (2, .ref y)] := hl
      refine lv_goto (tgt := 5) hx hb d_C_subtract_51 (by decide) ?_
      have hl : lv_has ls 8 [(5, .int (nI (i + 1))), (3, .long (lN 1)), (0, .ref z), (1, .ref x), (2, .ref y)] := lv_sub hl [0, 1, 3, 4, 5] rfl
      refine ih H1 locs1 ls ⟨1, r + 2 ^ (32 * i) * (S % 4294967296), _, gx1, hl, hlo1, hF.tr hF1 (fun _ h => h), h1, hgx1, fun j hj hj8 => by rw [hgv1 j hj8 (by omega)]; exact hgv j (by omega) hj8, NL_put hN hr9 (Nat.mod_lt _ (by decide)), dg_alt hr9 (Nat.mod_lt _ (by decide)), ?_, by omega⟩
      rw [dg_mods, dg_mods, pw_s]
      exact st_sub he (by omega)
  · intro H locs ls ⟨b9, r, f, gx, hl, hlo, hF, hf, hgx, hgv, hN, hr9, he, hb9⟩
    refine lv_iload hx hb d_C_subtract_5 (lv_at hl 0 rfl) ?_
    refine lv_bipush (v := nI 8) hx hb d_C_subtract_7 (by decide) ?_
    refine lv_icmp_ge (tgt := 54) hx hb d_C_subtract_9 (by decide) (fun _ => ?_) (fun hc => absurd (nI_le (Nat.le_refl _) (by omega)) hc)
    rw [Nat.mod_eq_of_lt hvx, Nat.mod_eq_of_lt hvy] at he
    exact W.vret hx hb hr (fun t ht hW => ⟨rfl, by rw [ht]; exact hF, r, b9, f, by rw [ht]; exact hf, hN, hr9, he, hb9⟩) hlo d_C_subtract_54
  · exact ⟨0, 0, fz, fx, hl, (fun _ h => nomatch h), XF.rf, hz, hX, (fun j _ h => hNx j h), NL_0, by decide, by simp [Nat.mod_one], by decide⟩
set_option maxHeartbeats 4000000 in
set_option maxRecDepth 100000 in
theorem c_dbl (l : Launch) (D : va_G) (cJ cI cQ cR : ClassId) (z vz b0 : Nat) (fz : Nat → Int64) (hvz : vz < 2 ^ 256) (hb0 : b0 ≤ 1) (hNz : NL fz 8 vz) : Met l y_C_doubleAndAdd w_C_doubleAndAdd { frames := 0, cells := 0, slots := 0, locals := 0 } (xP D vwCl (TY cJ cI cQ cR) [.ref z, .long (lN b0)] (fun H => hL H cJ z 8 fz)) (xQl (fun r H0 H => XF (fun q => q = z) H0 H ∧ ∃ (c v : Nat) (f : Nat → Int64), r = lN c ∧ hL H cJ z 8 f ∧ NL f 8 v ∧ v < 2 ^ 256 ∧ v + 2 ^ 256 * c = 2 * vz + b0 ∧ c ≤ 1)) 0 0 (fun q => q = z) := by
  refine Met.ofW (cc := b_C_doubleAndAdd) (maxL := 8) (ret := some .long) (by decide) rfl ?_
  intro p e s m args below meth c s₁ B hml hv
  obtain ⟨rfl, hK, hz⟩ := hv
  have hx := B.exec
  have hb := B.bytes
  have hr := B.returns
  have hts := atoms_spec (ws := w_C_doubleAndAdd) B.pre
  have htw : ∀ w ∈ WT, w.before _ s = true := fun w h => hts w (List.mem_cons_of_mem _ h)
  have hown : s.vm.findClass "WideNumbers" = some m.cls := findClass_of_methodNamed B.named
  have hlocks := B.notSynchronized
  have hJ : ArrOfT s cJ .long := (hK.2 0 _ rfl).1
  have hI9 : ArrOfT s cI .int := (hK.2 1 _ rfl).1
  have hl := lv_entry ([.ref z, .long (lN b0)]) (n := 8) (Nat.le_of_ble_eq_true rfl)
  rw [lg_entry_eq]
  generalize (lg_sl ([.ref z, .long (lN b0)]) ++ List.replicate (8 - (lg_sl ([.ref z, .long (lN b0)])).length) Slot.unset).toArray = ls at hl ⊢
  have hl : lv_has ls 8 [(0, .ref z), (1, .long (lN b0))] := hl
  refine lv_lload_n hx hb d_C_doubleAndAdd_0 rfl (lv_at hl 1 rfl) ?_
  refine lv_lstore_n hx hb d_C_doubleAndAdd_1 rfl hl (by decide) rfl (fun ls hl => ?_)
  have hl : lv_has ls 8 [(3, .long (lN b0)), (0, .ref z), (1, .long (lN b0))] := hl
  refine lv_iconst (v := nI 0) hx hb d_C_doubleAndAdd_2 (by decide) ?_
  refine lv_istore hx hb d_C_doubleAndAdd_3 hl (by decide) rfl (fun ls hl => ?_)
  have hl : lv_has ls 8 [(5, .int (nI 0)), (3, .long (lN b0)), (0, .ref z), (1, .long (lN b0))] := hl
  have hl : lv_has ls 8 [(5, .int (nI 0)), (3, .long (lN b0)), (0, .ref z)] := lv_sub hl [0, 1, 2] rfl
  refine x_loop 5 (fun i H locs ls => ∃ (c9 r : Nat) (f : Nat → Int64), lv_has ls 8 [(5, .int (nI i)), (3, .long (lN c9)), (0, .ref z)] ∧ (∀ q ∈ locs, q.base = z) ∧ XF (fun q => q = z) s.heap H ∧ hL H cJ z 8 f ∧ (∀ j, i ≤ j → j < 8 → f j = lN (dg vz j)) ∧ NL f i r ∧ r < 2 ^ (32 * i) ∧ r + 2 ^ (32 * i) * c9 = 2 * (vz % 2 ^ (32 * i)) + b0 ∧ c9 ≤ 1) 8 ?_ ?_ 0 _ _ _ (by omega) ?_
  · intro i H locs ls hi ⟨c9, r, f, hl, hlo, hF, hf, hfv, hN, hr9, he, hc9⟩ ih
    refine lv_iload hx hb d_C_doubleAndAdd_5 (lv_at hl 0 rfl) ?_
    refine lv_bipush (v := nI 8) hx hb d_C_doubleAndAdd_7 (by decide) ?_
    refine lv_icmp_ge (tgt := 44) hx hb d_C_doubleAndAdd_9 (by decide) (fun hc => absurd hc (nI_ge (by omega) (by omega))) (fun _ => ?_)
    refine lv_aload_n hx hb d_C_doubleAndAdd_12 rfl (lv_at hl 2 rfl) ?_
    refine lv_iload hx hb d_C_doubleAndAdd_13 (lv_at hl 0 rfl) ?_
    refine x_lald hx hb hJ hf (i) (rfl) (by omega) (by omega) (v := lN (dg vz i)) (hfv i (Nat.le_refl i) hi) d_C_doubleAndAdd_15 ?_
    have hd1 := dg_lt vz i
    refine lv_iconst (v := nI 1) hx hb d_C_doubleAndAdd_16 (by decide) ?_
    refine lv_lshl (v := lN (dg vz i * 2)) hx hb d_C_doubleAndAdd_17 (jN_shl (k := 1) _ (by decide)) ?_
    refine lv_lload_n hx hb d_C_doubleAndAdd_18 rfl (lv_at hl 1 rfl) ?_
    refine lv_lor hx hb d_C_doubleAndAdd_19 ?_
    refine x_topl (v := lN (2 * dg vz i + c9)) (by rw [jN_or, show dg vz i * 2 = dg vz i * 2 ^ 1 from rfl, or_add (show c9 < 2 ^ 1 by omega)]; exact congrArg lN (by omega)) ?_
    obtain ⟨S, hS⟩ : ∃ S, S = 2 * dg vz i + c9 := ⟨_, rfl⟩
    rw [← hS]
    refine lv_lstore hx hb d_C_doubleAndAdd_20 hl (by decide) rfl (fun ls hl => ?_)
    have hl : lv_has ls 8 [(6, .long (lN S)), (5, .int (nI i)), (3, .long (lN c9)), (0, .ref z)] := hl
    refine lv_aload_n hx hb d_C_doubleAndAdd_22 rfl (lv_at hl 3 rfl) ?_
    refine lv_iload hx hb d_C_doubleAndAdd_23 (lv_at hl 1 rfl) ?_
    refine lv_lload hx hb d_C_doubleAndAdd_25 (lv_at hl 0 rfl) ?_
    refine lv_ldc2 (v := (4294967295 : Int64)) hx hb hown (htw _ kw_126) d_C_doubleAndAdd_27 ?_
    refine lv_land hx hb d_C_doubleAndAdd_30 ?_
    refine x_topl (v := lN (S % 4294967296)) (jN_lo S) ?_
    refine x_last (A := fun q => q = z) hx hb hJ hf hlo (rfl) (i) (rfl) (by omega) (by omega) d_C_doubleAndAdd_31 (fun H1 locs1 h1 hF1 hlo1 => ?_)
    refine lv_lload hx hb d_C_doubleAndAdd_32 (lv_at hl 0 rfl) ?_
    refine lv_bipush (v := nI 32) hx hb d_C_doubleAndAdd_34 (by decide) ?_
    refine lv_lushr (v := lN (S / 4294967296)) hx hb d_C_doubleAndAdd_36 (jN_shr (k := 32) (by omega) (by decide)) ?_
    refine lv_lstore_n hx hb d_C_doubleAndAdd_37 rfl hl (by decide) rfl (fun ls hl => ?_)
    have hl : lv_has ls 8 [(3, .long (lN (S / 4294967296))), (6, .long (lN S)), (5, .int (nI i)), (0, .ref z)] := hl
    refine lv_iinc (v := nI (i + 1)) (k := 2) hx hb d_C_doubleAndAdd_38 hl rfl (nI_1 i) (by decide) rfl (fun ls hl => ?_)
    have hl : lv_has ls 8 [(5, .int (nI (i + 1))), (3, .long (lN (S / 4294967296))), (6, .long (lN S)), (0, .ref z)] := hl
    refine lv_goto (tgt := 5) hx hb d_C_doubleAndAdd_41 (by decide) ?_
    have hl : lv_has ls 8 [(5, .int (nI (i + 1))), (3, .long (lN (S / 4294967296))), (0, .ref z)] := lv_sub hl [0, 1, 3] rfl
    refine ih H1 locs1 ls ⟨S / 4294967296, r + 2 ^ (32 * i) * (S % 4294967296), _, hl, hlo1, hF.tr hF1 (fun _ h => h), h1, fun j hj hj8 => by rw [pk_uLn (by omega)]; exact hfv j (by omega) hj8, NL_put hN hr9 (Nat.mod_lt _ (by decide)), dg_alt hr9 (Nat.mod_lt _ (by decide)), ?_, by omega⟩
    rw [dg_mods, pw_s]
    exact st_dbl he (by rw [← hS]; exact Nat.mod_add_div S 4294967296)
  · intro H locs ls ⟨c9, r, f, hl, hlo, hF, hf, hfv, hN, hr9, he, hc9⟩
    refine lv_iload hx hb d_C_doubleAndAdd_5 (lv_at hl 0 rfl) ?_
    refine lv_bipush (v := nI 8) hx hb d_C_doubleAndAdd_7 (by decide) ?_
    refine lv_icmp_ge (tgt := 44) hx hb d_C_doubleAndAdd_9 (by decide) (fun _ => ?_) (fun hc => absurd (nI_le (Nat.le_refl _) (by omega)) hc)
    refine lv_lload_n hx hb d_C_doubleAndAdd_44 rfl (lv_at hl 1 rfl) ?_
    rw [Nat.mod_eq_of_lt hvz] at he
    exact W.lret hx hb hr (fun t ht hW => ⟨_, rfl, by rw [ht]; exact hF, c9, r, f, rfl, by rw [ht]; exact hf, hN, hr9, he, hc9⟩) hlo d_C_doubleAndAdd_45
  · exact ⟨b0, 0, fz, hl, (fun _ h => nomatch h), XF.rf, hz, (fun j _ h => hNz j h), NL_0, by decide, by simp [Nat.mod_one], hb0⟩
set_option maxHeartbeats 4000000 in
set_option maxRecDepth 100000 in
theorem c_negate (l : Launch) (D : va_G) (cJ cI cQ cR : ClassId) (z x n vx : Nat) (fz fx : Nat → Int64) (hn : 8 ≤ n ∧ n ≤ 16) (hxz : x ≠ z) (hvx : vx < 2 ^ 256) (hNx : NL fx 8 vx) : Met l y_C_negate w_C_negate { frames := 0, cells := 0, slots := 0, locals := 0 } (xP D vwCl (TY cJ cI cQ cR) [.ref z, .ref x] (fun H => hL H cJ z 8 fz ∧ hL H cJ x n fx)) (xQv (fun H0 H => XF (fun q => q = z) H0 H ∧ ∃ (f : Nat → Int64), hL H cJ z 8 f ∧ NL f 8 ((2 ^ 256 - vx) % 2 ^ 256))) 0 0 (fun q => q = z) := by
  refine Met.ofW (cc := b_C_negate) (maxL := 7) (ret := none) (by decide) rfl ?_
  intro p e s m args below meth c s₁ B hml hv
  obtain ⟨rfl, hK, ⟨hz, hX⟩⟩ := hv
  have hx := B.exec
  have hb := B.bytes
  have hr := B.returns
  have hts := atoms_spec (ws := w_C_negate) B.pre
  have htw : ∀ w ∈ WT, w.before _ s = true := fun w h => hts w (List.mem_cons_of_mem _ h)
  have hown : s.vm.findClass "WideNumbers" = some m.cls := findClass_of_methodNamed B.named
  have hlocks := B.notSynchronized
  have hJ : ArrOfT s cJ .long := (hK.2 0 _ rfl).1
  have hI9 : ArrOfT s cI .int := (hK.2 1 _ rfl).1
  have hl := lv_entry ([.ref z, .ref x]) (n := 7) (Nat.le_of_ble_eq_true rfl)
  rw [lg_entry_eq]
  generalize (lg_sl ([.ref z, .ref x]) ++ List.replicate (7 - (lg_sl ([.ref z, .ref x])).length) Slot.unset).toArray = ls at hl ⊢
  have hl : lv_has ls 7 [(0, .ref z), (1, .ref x)] := hl
  refine lv_lconst (v := lN 1) hx hb d_C_negate_0 (by decide) ?_
  refine lv_lstore_n hx hb d_C_negate_1 rfl hl (by decide) rfl (fun ls hl => ?_)
  have hl : lv_has ls 7 [(2, .long (lN 1)), (0, .ref z), (1, .ref x)] := hl
  refine lv_iconst (v := nI 0) hx hb d_C_negate_2 (by decide) ?_
  refine lv_istore hx hb d_C_negate_3 hl (by decide) rfl (fun ls hl => ?_)
  have hl : lv_has ls 7 [(4, .int (nI 0)), (2, .long (lN 1)), (0, .ref z), (1, .ref x)] := hl
  have hl : lv_has ls 7 [(4, .int (nI 0)), (2, .long (lN 1)), (0, .ref z), (1, .ref x)] := lv_sub hl [0, 1, 2, 3] rfl
  refine x_loop 5 (fun i H locs ls => ∃ (c9 r : Nat) (f : Nat → Int64), lv_has ls 7 [(4, .int (nI i)), (2, .long (lN c9)), (0, .ref z), (1, .ref x)] ∧ (∀ q ∈ locs, q.base = z) ∧ XF (fun q => q = z) s.heap H ∧ hL H cJ z 8 f ∧ NL f i r ∧ r < 2 ^ (32 * i) ∧ r + 2 ^ (32 * i) * c9 + vx % 2 ^ (32 * i) = 2 ^ (32 * i) ∧ c9 ≤ 1) 8 ?_ ?_ 0 _ _ _ (by omega) ?_
  · intro i H locs ls hi ⟨c9, r, f, hl, hlo, hF, hf, hN, hr9, he, hc9⟩ ih
    refine lv_iload hx hb d_C_negate_5 (lv_at hl 0 rfl) ?_
    refine lv_bipush (v := nI 8) hx hb d_C_negate_7 (by decide) ?_
    refine lv_icmp_ge (tgt := 46) hx hb d_C_negate_9 (by decide) (fun hc => absurd hc (nI_ge (by omega) (by omega))) (fun _ => ?_)
    refine lv_aload_n hx hb d_C_negate_12 rfl (lv_at hl 3 rfl) ?_
    refine lv_iload hx hb d_C_negate_13 (lv_at hl 0 rfl) ?_
    refine x_lald hx hb hJ (hL_f hX hF hxz) (i) (rfl) (by omega) (by omega) (v := lN (dg vx i)) (hNx i hi) d_C_negate_15 ?_
    have hd1 := dg_lt vx i
    refine lv_ldc2 (v := (4294967295 : Int64)) hx hb hown (htw _ kw_126) d_C_negate_16 ?_
    refine lv_lxor hx hb d_C_negate_19 ?_
    refine x_topl (v := lN (4294967295 - dg vx i)) (by rw [show (4294967295 : Int64) = lN 4294967295 from rfl, jN_xor, xor_lo hd1]) ?_
    refine lv_lload_n hx hb d_C_negate_20 rfl (lv_at hl 1 rfl) ?_
    refine lv_ladd hx hb d_C_negate_21 ?_
    refine x_topl (v := lN (4294967295 - dg vx i + c9)) (lN_add _ _) ?_
    obtain ⟨S, hS⟩ : ∃ S, S = 4294967295 - dg vx i + c9 := ⟨_, rfl⟩
    rw [← hS]
    refine lv_lstore hx hb d_C_negate_22 hl (by decide) rfl (fun ls hl => ?_)
    have hl : lv_has ls 7 [(5, .long (lN S)), (4, .int (nI i)), (2, .long (lN c9)), (0, .ref z), (1, .ref x)] := hl
    refine lv_aload_n hx hb d_C_negate_24 rfl (lv_at hl 3 rfl) ?_
    refine lv_iload hx hb d_C_negate_25 (lv_at hl 1 rfl) ?_
    refine lv_lload hx hb d_C_negate_27 (lv_at hl 0 rfl) ?_
    refine lv_ldc2 (v := (4294967295 : Int64)) hx hb hown (htw _ kw_126) d_C_negate_29 ?_
    refine lv_land hx hb d_C_negate_32 ?_
    refine x_topl (v := lN (S % 4294967296)) (jN_lo S) ?_
    refine x_last (A := fun q => q = z) hx hb hJ hf hlo (rfl) (i) (rfl) (by omega) (by omega) d_C_negate_33 (fun H1 locs1 h1 hF1 hlo1 => ?_)
    refine lv_lload hx hb d_C_negate_34 (lv_at hl 0 rfl) ?_
    refine lv_bipush (v := nI 32) hx hb d_C_negate_36 (by decide) ?_
    refine lv_lushr (v := lN (S / 4294967296)) hx hb d_C_negate_38 (jN_shr (k := 32) (by omega) (by decide)) ?_
    refine lv_lstore_n hx hb d_C_negate_39 rfl hl (by decide) rfl (fun ls hl => ?_)
    have hl : lv_has ls 7 [(2, .long (lN (S / 4294967296))), (5, .long (lN S)), (4, .int (nI i)), (0, .ref z), (1, .ref x)] := hl
    refine lv_iinc (v := nI (i + 1)) (k := 2) hx hb d_C_negate_40 hl rfl (nI_1 i) (by decide) rfl (fun ls hl => ?_)
    have hl : lv_has ls 7 [(4, .int (nI (i + 1))), (2, .long (lN (S / 4294967296))), (5, .long (lN S)), (0, .ref z), (1, .ref x)] := hl
    refine lv_goto (tgt := 5) hx hb d_C_negate_43 (by decide) ?_
    have hl : lv_has ls 7 [(4, .int (nI (i + 1))), (2, .long (lN (S / 4294967296))), (0, .ref z), (1, .ref x)] := lv_sub hl [0, 1, 3, 4] rfl
    refine ih H1 locs1 ls ⟨S / 4294967296, r + 2 ^ (32 * i) * (S % 4294967296), _, hl, hlo1, hF.tr hF1 (fun _ h => h), h1, NL_put hN hr9 (Nat.mod_lt _ (by decide)), dg_alt hr9 (Nat.mod_lt _ (by decide)), ?_, by omega⟩
    rw [dg_mods, pw_s]
    exact st_neg he (by omega)
  · intro H locs ls ⟨c9, r, f, hl, hlo, hF, hf, hN, hr9, he, hc9⟩
    refine lv_iload hx hb d_C_negate_5 (lv_at hl 0 rfl) ?_
    refine lv_bipush (v := nI 8) hx hb d_C_negate_7 (by decide) ?_
    refine lv_icmp_ge (tgt := 46) hx hb d_C_negate_9 (by decide) (fun _ => ?_) (fun hc => absurd (nI_le (Nat.le_refl _) (by omega)) hc)
    rw [Nat.mod_eq_of_lt hvx] at he
    have hv : r = (2 ^ 256 - vx) % 2 ^ 256 := by omega
    rw [hv] at hN
    exact W.vret hx hb hr (fun t ht hW => ⟨rfl, by rw [ht]; exact hF, f, by rw [ht]; exact hf, hN⟩) hlo d_C_negate_46
  · exact ⟨1, 0, fz, hl, (fun _ h => nomatch h), XF.rf, hz, NL_0, by decide, by simp [Nat.mod_one], by decide⟩
set_option maxHeartbeats 4000000 in
set_option maxRecDepth 100000 in
theorem c_and (l : Launch) (D : va_G) (cJ cI cQ cR : ClassId) (z x y vx vy : Nat) (fz fx fy : Nat → Int64) (hxz : x ≠ z) (hyz : y ≠ z) (hNx : NL fx 8 vx) (hNy : NL fy 8 vy) : Met l y_C_and w_C_and { frames := 0, cells := 0, slots := 0, locals := 0 } (xP D vwCl (TY cJ cI cQ cR) [.ref z, .ref x, .ref y] (fun H => hL H cJ z 8 fz ∧ hL H cJ x 8 fx ∧ hL H cJ y 8 fy)) (xQv (fun H0 H => XF (fun q => q = z) H0 H ∧ ∃ (f : Nat → Int64), hL H cJ z 8 f ∧ NL f 8 (vx &&& vy))) 0 0 (fun q => q = z) := by
  refine Met.ofW (cc := b_C_and) (maxL := 4) (ret := none) (by decide) rfl ?_
  intro p e s m args below meth c s₁ B hml hv
  obtain ⟨rfl, hK, ⟨hz, hX, hY⟩⟩ := hv
  have hx := B.exec
  have hb := B.bytes
  have hr := B.returns
  have hts := atoms_spec (ws := w_C_and) B.pre
  have htw : ∀ w ∈ WT, w.before _ s = true := fun w h => hts w (List.mem_cons_of_mem _ h)
  have hown : s.vm.findClass "WideNumbers" = some m.cls := findClass_of_methodNamed B.named
  have hlocks := B.notSynchronized
  have hJ : ArrOfT s cJ .long := (hK.2 0 _ rfl).1
  have hI9 : ArrOfT s cI .int := (hK.2 1 _ rfl).1
  have hl := lv_entry ([.ref z, .ref x, .ref y]) (n := 4) (Nat.le_of_ble_eq_true rfl)
  rw [lg_entry_eq]
  generalize (lg_sl ([.ref z, .ref x, .ref y]) ++ List.replicate (4 - (lg_sl ([.ref z, .ref x, .ref y])).length) Slot.unset).toArray = ls at hl ⊢
  have hl : lv_has ls 4 [(0, .ref z), (1, .ref x), (2, .ref y)] := hl
  refine lv_iconst (v := nI 0) hx hb d_C_and_0 (by decide) ?_
  refine lv_istore_n hx hb d_C_and_1 rfl hl (by decide) rfl (fun ls hl => ?_)
  have hl : lv_has ls 4 [(3, .int (nI 0)), (0, .ref z), (1, .ref x), (2, .ref y)] := hl
  have hl : lv_has ls 4 [(3, .int (nI 0)), (0, .ref z), (1, .ref x), (2, .ref y)] := lv_sub hl [0, 1, 2, 3] rfl
  refine x_loop 2 (fun i H locs ls => ∃ (f : Nat → Int64), lv_has ls 4 [(3, .int (nI i)), (0, .ref z), (1, .ref x), (2, .ref y)] ∧ (∀ q ∈ locs, q.base = z) ∧ XF (fun q => q = z) s.heap H ∧ hL H cJ z 8 f ∧ NL f i (vx &&& vy)) 8 ?_ ?_ 0 _ _ _ (by omega) ?_
  · intro i H locs ls hi ⟨f, hl, hlo, hF, hf, hN⟩ ih
    refine lv_iload_n hx hb d_C_and_2 rfl (lv_at hl 0 rfl) ?_
    refine lv_bipush (v := nI 8) hx hb d_C_and_3 (by decide) ?_
    refine lv_icmp_ge (tgt := 24) hx hb d_C_and_5 (by decide) (fun hc => absurd hc (nI_ge (by omega) (by omega))) (fun _ => ?_)
    refine lv_aload_n hx hb d_C_and_8 rfl (lv_at hl 1 rfl) ?_
    refine lv_iload_n hx hb d_C_and_9 rfl (lv_at hl 0 rfl) ?_
    refine lv_aload_n hx hb d_C_and_10 rfl (lv_at hl 2 rfl) ?_
    refine lv_iload_n hx hb d_C_and_11 rfl (lv_at hl 0 rfl) ?_
    refine x_lald hx hb hJ (hL_f hX hF hxz) (i) (rfl) (by omega) (by omega) (v := lN (dg vx i)) (hNx i hi) d_C_and_12 ?_
    refine lv_aload_n hx hb d_C_and_13 rfl (lv_at hl 3 rfl) ?_
    refine lv_iload_n hx hb d_C_and_14 rfl (lv_at hl 0 rfl) ?_
    refine x_lald hx hb hJ (hL_f hY hF hyz) (i) (rfl) (by omega) (by omega) (v := lN (dg vy i)) (hNy i hi) d_C_and_15 ?_
    refine lv_land hx hb d_C_and_16 ?_
    refine x_topl (v := lN (dg (vx &&& vy) i)) (by rw [jN_and, dg_and]) ?_
    refine x_last (A := fun q => q = z) hx hb hJ hf hlo (rfl) (i) (rfl) (by omega) (by omega) d_C_and_17 (fun H1 locs1 h1 hF1 hlo1 => ?_)
    refine lv_iinc (v := nI (i + 1)) (k := 0) hx hb d_C_and_18 hl rfl (nI_1 i) (by decide) rfl (fun ls hl => ?_)
    have hl : lv_has ls 4 [(3, .int (nI (i + 1))), (0, .ref z), (1, .ref x), (2, .ref y)] := hl
    refine lv_goto (tgt := 2) hx hb d_C_and_21 (by decide) ?_
    have hl : lv_has ls 4 [(3, .int (nI (i + 1))), (0, .ref z), (1, .ref x), (2, .ref y)] := lv_sub hl [0, 1, 2, 3] rfl
    exact ih H1 locs1 ls ⟨_, hl, hlo1, hF.tr hF1 (fun _ h => h), h1, NL_up hN⟩
  · intro H locs ls ⟨f, hl, hlo, hF, hf, hN⟩
    refine lv_iload_n hx hb d_C_and_2 rfl (lv_at hl 0 rfl) ?_
    refine lv_bipush (v := nI 8) hx hb d_C_and_3 (by decide) ?_
    refine lv_icmp_ge (tgt := 24) hx hb d_C_and_5 (by decide) (fun _ => ?_) (fun hc => absurd (nI_le (Nat.le_refl _) (by omega)) hc)
    exact W.vret hx hb hr (fun t ht hW => ⟨rfl, by rw [ht]; exact hF, f, by rw [ht]; exact hf, hN⟩) hlo d_C_and_24
  · exact ⟨fz, hl, (fun _ h => nomatch h), XF.rf, hz, NL_0⟩
set_option maxHeartbeats 4000000 in
set_option maxRecDepth 100000 in
theorem c_or (l : Launch) (D : va_G) (cJ cI cQ cR : ClassId) (z x y vx vy : Nat) (fz fx fy : Nat → Int64) (hxz : x ≠ z) (hyz : y ≠ z) (hNx : NL fx 8 vx) (hNy : NL fy 8 vy) : Met l y_C_or w_C_or { frames := 0, cells := 0, slots := 0, locals := 0 } (xP D vwCl (TY cJ cI cQ cR) [.ref z, .ref x, .ref y] (fun H => hL H cJ z 8 fz ∧ hL H cJ x 8 fx ∧ hL H cJ y 8 fy)) (xQv (fun H0 H => XF (fun q => q = z) H0 H ∧ ∃ (f : Nat → Int64), hL H cJ z 8 f ∧ NL f 8 (vx ||| vy))) 0 0 (fun q => q = z) := by
  refine Met.ofW (cc := b_C_or) (maxL := 4) (ret := none) (by decide) rfl ?_
  intro p e s m args below meth c s₁ B hml hv
  obtain ⟨rfl, hK, ⟨hz, hX, hY⟩⟩ := hv
  have hx := B.exec
  have hb := B.bytes
  have hr := B.returns
  have hts := atoms_spec (ws := w_C_or) B.pre
  have htw : ∀ w ∈ WT, w.before _ s = true := fun w h => hts w (List.mem_cons_of_mem _ h)
  have hown : s.vm.findClass "WideNumbers" = some m.cls := findClass_of_methodNamed B.named
  have hlocks := B.notSynchronized
  have hJ : ArrOfT s cJ .long := (hK.2 0 _ rfl).1
  have hI9 : ArrOfT s cI .int := (hK.2 1 _ rfl).1
  have hl := lv_entry ([.ref z, .ref x, .ref y]) (n := 4) (Nat.le_of_ble_eq_true rfl)
  rw [lg_entry_eq]
  generalize (lg_sl ([.ref z, .ref x, .ref y]) ++ List.replicate (4 - (lg_sl ([.ref z, .ref x, .ref y])).length) Slot.unset).toArray = ls at hl ⊢
  have hl : lv_has ls 4 [(0, .ref z), (1, .ref x), (2, .ref y)] := hl
  refine lv_iconst (v := nI 0) hx hb d_C_or_0 (by decide) ?_
  refine lv_istore_n hx hb d_C_or_1 rfl hl (by decide) rfl (fun ls hl => ?_)
  have hl : lv_has ls 4 [(3, .int (nI 0)), (0, .ref z), (1, .ref x), (2, .ref y)] := hl
  have hl : lv_has ls 4 [(3, .int (nI 0)), (0, .ref z), (1, .ref x), (2, .ref y)] := lv_sub hl [0, 1, 2, 3] rfl
  refine x_loop 2 (fun i H locs ls => ∃ (f : Nat → Int64), lv_has ls 4 [(3, .int (nI i)), (0, .ref z), (1, .ref x), (2, .ref y)] ∧ (∀ q ∈ locs, q.base = z) ∧ XF (fun q => q = z) s.heap H ∧ hL H cJ z 8 f ∧ NL f i (vx ||| vy)) 8 ?_ ?_ 0 _ _ _ (by omega) ?_
  · intro i H locs ls hi ⟨f, hl, hlo, hF, hf, hN⟩ ih
    refine lv_iload_n hx hb d_C_or_2 rfl (lv_at hl 0 rfl) ?_
    refine lv_bipush (v := nI 8) hx hb d_C_or_3 (by decide) ?_
    refine lv_icmp_ge (tgt := 24) hx hb d_C_or_5 (by decide) (fun hc => absurd hc (nI_ge (by omega) (by omega))) (fun _ => ?_)
    refine lv_aload_n hx hb d_C_or_8 rfl (lv_at hl 1 rfl) ?_
    refine lv_iload_n hx hb d_C_or_9 rfl (lv_at hl 0 rfl) ?_
    refine lv_aload_n hx hb d_C_or_10 rfl (lv_at hl 2 rfl) ?_
    refine lv_iload_n hx hb d_C_or_11 rfl (lv_at hl 0 rfl) ?_
    refine x_lald hx hb hJ (hL_f hX hF hxz) (i) (rfl) (by omega) (by omega) (v := lN (dg vx i)) (hNx i hi) d_C_or_12 ?_
    refine lv_aload_n hx hb d_C_or_13 rfl (lv_at hl 3 rfl) ?_
    refine lv_iload_n hx hb d_C_or_14 rfl (lv_at hl 0 rfl) ?_
    refine x_lald hx hb hJ (hL_f hY hF hyz) (i) (rfl) (by omega) (by omega) (v := lN (dg vy i)) (hNy i hi) d_C_or_15 ?_
    refine lv_lor hx hb d_C_or_16 ?_
    refine x_topl (v := lN (dg (vx ||| vy) i)) (by rw [jN_or, dg_or]) ?_
    refine x_last (A := fun q => q = z) hx hb hJ hf hlo (rfl) (i) (rfl) (by omega) (by omega) d_C_or_17 (fun H1 locs1 h1 hF1 hlo1 => ?_)
    refine lv_iinc (v := nI (i + 1)) (k := 0) hx hb d_C_or_18 hl rfl (nI_1 i) (by decide) rfl (fun ls hl => ?_)
    have hl : lv_has ls 4 [(3, .int (nI (i + 1))), (0, .ref z), (1, .ref x), (2, .ref y)] := hl
    refine lv_goto (tgt := 2) hx hb d_C_or_21 (by decide) ?_
    have hl : lv_has ls 4 [(3, .int (nI (i + 1))), (0, .ref z), (1, .ref x), (2, .ref y)] := lv_sub hl [0, 1, 2, 3] rfl
    exact ih H1 locs1 ls ⟨_, hl, hlo1, hF.tr hF1 (fun _ h => h), h1, NL_up hN⟩
  · intro H locs ls ⟨f, hl, hlo, hF, hf, hN⟩
    refine lv_iload_n hx hb d_C_or_2 rfl (lv_at hl 0 rfl) ?_
    refine lv_bipush (v := nI 8) hx hb d_C_or_3 (by decide) ?_
    refine lv_icmp_ge (tgt := 24) hx hb d_C_or_5 (by decide) (fun _ => ?_) (fun hc => absurd (nI_le (Nat.le_refl _) (by omega)) hc)
    exact W.vret hx hb hr (fun t ht hW => ⟨rfl, by rw [ht]; exact hF, f, by rw [ht]; exact hf, hN⟩) hlo d_C_or_24
  · exact ⟨fz, hl, (fun _ h => nomatch h), XF.rf, hz, NL_0⟩
set_option maxHeartbeats 4000000 in
set_option maxRecDepth 100000 in
theorem c_xor (l : Launch) (D : va_G) (cJ cI cQ cR : ClassId) (z x y vx vy : Nat) (fz fx fy : Nat → Int64) (hxz : x ≠ z) (hyz : y ≠ z) (hNx : NL fx 8 vx) (hNy : NL fy 8 vy) : Met l y_C_exclusiveOr w_C_exclusiveOr { frames := 0, cells := 0, slots := 0, locals := 0 } (xP D vwCl (TY cJ cI cQ cR) [.ref z, .ref x, .ref y] (fun H => hL H cJ z 8 fz ∧ hL H cJ x 8 fx ∧ hL H cJ y 8 fy)) (xQv (fun H0 H => XF (fun q => q = z) H0 H ∧ ∃ (f : Nat → Int64), hL H cJ z 8 f ∧ NL f 8 (vx ^^^ vy))) 0 0 (fun q => q = z) := by
  refine Met.ofW (cc := b_C_exclusiveOr) (maxL := 4) (ret := none) (by decide) rfl ?_
  intro p e s m args below meth c s₁ B hml hv
  obtain ⟨rfl, hK, ⟨hz, hX, hY⟩⟩ := hv
  have hx := B.exec
  have hb := B.bytes
  have hr := B.returns
  have hts := atoms_spec (ws := w_C_exclusiveOr) B.pre
  have htw : ∀ w ∈ WT, w.before _ s = true := fun w h => hts w (List.mem_cons_of_mem _ h)
  have hown : s.vm.findClass "WideNumbers" = some m.cls := findClass_of_methodNamed B.named
  have hlocks := B.notSynchronized
  have hJ : ArrOfT s cJ .long := (hK.2 0 _ rfl).1
  have hI9 : ArrOfT s cI .int := (hK.2 1 _ rfl).1
  have hl := lv_entry ([.ref z, .ref x, .ref y]) (n := 4) (Nat.le_of_ble_eq_true rfl)
  rw [lg_entry_eq]
  generalize (lg_sl ([.ref z, .ref x, .ref y]) ++ List.replicate (4 - (lg_sl ([.ref z, .ref x, .ref y])).length) Slot.unset).toArray = ls at hl ⊢
  have hl : lv_has ls 4 [(0, .ref z), (1, .ref x), (2, .ref y)] := hl
  refine lv_iconst (v := nI 0) hx hb d_C_exclusiveOr_0 (by decide) ?_
  refine lv_istore_n hx hb d_C_exclusiveOr_1 rfl hl (by decide) rfl (fun ls hl => ?_)
  have hl : lv_has ls 4 [(3, .int (nI 0)), (0, .ref z), (1, .ref x), (2, .ref y)] := hl
  have hl : lv_has ls 4 [(3, .int (nI 0)), (0, .ref z), (1, .ref x), (2, .ref y)] := lv_sub hl [0, 1, 2, 3] rfl
  refine x_loop 2 (fun i H locs ls => ∃ (f : Nat → Int64), lv_has ls 4 [(3, .int (nI i)), (0, .ref z), (1, .ref x), (2, .ref y)] ∧ (∀ q ∈ locs, q.base = z) ∧ XF (fun q => q = z) s.heap H ∧ hL H cJ z 8 f ∧ NL f i (vx ^^^ vy)) 8 ?_ ?_ 0 _ _ _ (by omega) ?_
  · intro i H locs ls hi ⟨f, hl, hlo, hF, hf, hN⟩ ih
    refine lv_iload_n hx hb d_C_exclusiveOr_2 rfl (lv_at hl 0 rfl) ?_
    refine lv_bipush (v := nI 8) hx hb d_C_exclusiveOr_3 (by decide) ?_
    refine lv_icmp_ge (tgt := 24) hx hb d_C_exclusiveOr_5 (by decide) (fun hc => absurd hc (nI_ge (by omega) (by omega))) (fun _ => ?_)
    refine lv_aload_n hx hb d_C_exclusiveOr_8 rfl (lv_at hl 1 rfl) ?_
    refine lv_iload_n hx hb d_C_exclusiveOr_9 rfl (lv_at hl 0 rfl) ?_
    refine lv_aload_n hx hb d_C_exclusiveOr_10 rfl (lv_at hl 2 rfl) ?_
    refine lv_iload_n hx hb d_C_exclusiveOr_11 rfl (lv_at hl 0 rfl) ?_
    refine x_lald hx hb hJ (hL_f hX hF hxz) (i) (rfl) (by omega) (by omega) (v := lN (dg vx i)) (hNx i hi) d_C_exclusiveOr_12 ?_
    refine lv_aload_n hx hb d_C_exclusiveOr_13 rfl (lv_at hl 3 rfl) ?_
    refine lv_iload_n hx hb d_C_exclusiveOr_14 rfl (lv_at hl 0 rfl) ?_
    refine x_lald hx hb hJ (hL_f hY hF hyz) (i) (rfl) (by omega) (by omega) (v := lN (dg vy i)) (hNy i hi) d_C_exclusiveOr_15 ?_
    refine lv_lxor hx hb d_C_exclusiveOr_16 ?_
    refine x_topl (v := lN (dg (vx ^^^ vy) i)) (by rw [jN_xor, dg_xor]) ?_
    refine x_last (A := fun q => q = z) hx hb hJ hf hlo (rfl) (i) (rfl) (by omega) (by omega) d_C_exclusiveOr_17 (fun H1 locs1 h1 hF1 hlo1 => ?_)
    refine lv_iinc (v := nI (i + 1)) (k := 0) hx hb d_C_exclusiveOr_18 hl rfl (nI_1 i) (by decide) rfl (fun ls hl => ?_)
    have hl : lv_has ls 4 [(3, .int (nI (i + 1))), (0, .ref z), (1, .ref x), (2, .ref y)] := hl
    refine lv_goto (tgt := 2) hx hb d_C_exclusiveOr_21 (by decide) ?_
    have hl : lv_has ls 4 [(3, .int (nI (i + 1))), (0, .ref z), (1, .ref x), (2, .ref y)] := lv_sub hl [0, 1, 2, 3] rfl
    exact ih H1 locs1 ls ⟨_, hl, hlo1, hF.tr hF1 (fun _ h => h), h1, NL_up hN⟩
  · intro H locs ls ⟨f, hl, hlo, hF, hf, hN⟩
    refine lv_iload_n hx hb d_C_exclusiveOr_2 rfl (lv_at hl 0 rfl) ?_
    refine lv_bipush (v := nI 8) hx hb d_C_exclusiveOr_3 (by decide) ?_
    refine lv_icmp_ge (tgt := 24) hx hb d_C_exclusiveOr_5 (by decide) (fun _ => ?_) (fun hc => absurd (nI_le (Nat.le_refl _) (by omega)) hc)
    exact W.vret hx hb hr (fun t ht hW => ⟨rfl, by rw [ht]; exact hF, f, by rw [ht]; exact hf, hN⟩) hlo d_C_exclusiveOr_24
  · exact ⟨fz, hl, (fun _ h => nomatch h), XF.rf, hz, NL_0⟩
set_option maxHeartbeats 4000000 in
set_option maxRecDepth 100000 in
theorem c_invert (l : Launch) (D : va_G) (cJ cI cQ cR : ClassId) (z x vx : Nat) (fz fx : Nat → Int64) (hxz : x ≠ z) (hvx : vx < 2 ^ 256) (hNx : NL fx 8 vx) : Met l y_C_invert w_C_invert { frames := 0, cells := 0, slots := 0, locals := 0 } (xP D vwCl (TY cJ cI cQ cR) [.ref z, .ref x] (fun H => hL H cJ z 8 fz ∧ hL H cJ x 8 fx)) (xQv (fun H0 H => XF (fun q => q = z) H0 H ∧ ∃ (f : Nat → Int64), hL H cJ z 8 f ∧ NL f 8 (2 ^ 256 - (vx + 1)))) 0 0 (fun q => q = z) := by
  refine Met.ofW (cc := b_C_invert) (maxL := 3) (ret := none) (by decide) rfl ?_
  intro p e s m args below meth c s₁ B hml hv
  obtain ⟨rfl, hK, ⟨hz, hX⟩⟩ := hv
  have hx := B.exec
  have hb := B.bytes
  have hr := B.returns
  have hts := atoms_spec (ws := w_C_invert) B.pre
  have htw : ∀ w ∈ WT, w.before _ s = true := fun w h => hts w (List.mem_cons_of_mem _ h)
  have hown : s.vm.findClass "WideNumbers" = some m.cls := findClass_of_methodNamed B.named
  have hlocks := B.notSynchronized
  have hJ : ArrOfT s cJ .long := (hK.2 0 _ rfl).1
  have hI9 : ArrOfT s cI .int := (hK.2 1 _ rfl).1
  have hl := lv_entry ([.ref z, .ref x]) (n := 3) (Nat.le_of_ble_eq_true rfl)
  rw [lg_entry_eq]
  generalize (lg_sl ([.ref z, .ref x]) ++ List.replicate (3 - (lg_sl ([.ref z, .ref x])).length) Slot.unset).toArray = ls at hl ⊢
  have hl : lv_has ls 3 [(0, .ref z), (1, .ref x)] := hl
  refine lv_iconst (v := nI 0) hx hb d_C_invert_0 (by decide) ?_
  refine lv_istore_n hx hb d_C_invert_1 rfl hl (by decide) rfl (fun ls hl => ?_)
  have hl : lv_has ls 3 [(2, .int (nI 0)), (0, .ref z), (1, .ref x)] := hl
  have hl : lv_has ls 3 [(2, .int (nI 0)), (0, .ref z), (1, .ref x)] := lv_sub hl [0, 1, 2] rfl
  refine x_loop 2 (fun i H locs ls => ∃ (f : Nat → Int64), lv_has ls 3 [(2, .int (nI i)), (0, .ref z), (1, .ref x)] ∧ (∀ q ∈ locs, q.base = z) ∧ XF (fun q => q = z) s.heap H ∧ hL H cJ z 8 f ∧ NL f i (2 ^ 256 - (vx + 1))) 8 ?_ ?_ 0 _ _ _ (by omega) ?_
  · intro i H locs ls hi ⟨f, hl, hlo, hF, hf, hN⟩ ih
    refine lv_iload_n hx hb d_C_invert_2 rfl (lv_at hl 0 rfl) ?_
    refine lv_bipush (v := nI 8) hx hb d_C_invert_3 (by decide) ?_
    refine lv_icmp_ge (tgt := 24) hx hb d_C_invert_5 (by decide) (fun hc => absurd hc (nI_ge (by omega) (by omega))) (fun _ => ?_)
    refine lv_aload_n hx hb d_C_invert_8 rfl (lv_at hl 1 rfl) ?_
    refine lv_iload_n hx hb d_C_invert_9 rfl (lv_at hl 0 rfl) ?_
    refine lv_aload_n hx hb d_C_invert_10 rfl (lv_at hl 2 rfl) ?_
    refine lv_iload_n hx hb d_C_invert_11 rfl (lv_at hl 0 rfl) ?_
    refine x_lald hx hb hJ (hL_f hX hF hxz) (i) (rfl) (by omega) (by omega) (v := lN (dg vx i)) (hNx i hi) d_C_invert_12 ?_
    refine lv_ldc2 (v := (4294967295 : Int64)) hx hb hown (htw _ kw_126) d_C_invert_13 ?_
    refine lv_lxor hx hb d_C_invert_16 ?_
    refine x_topl (v := lN (dg (2 ^ 256 - (vx + 1)) i)) (by rw [show (4294967295 : Int64) = lN 4294967295 from rfl, jN_xor, dg_not hvx hi]) ?_
    refine x_last (A := fun q => q = z) hx hb hJ hf hlo (rfl) (i) (rfl) (by omega) (by omega) d_C_invert_17 (fun H1 locs1 h1 hF1 hlo1 => ?_)
    refine lv_iinc (v := nI (i + 1)) (k := 0) hx hb d_C_invert_18 hl rfl (nI_1 i) (by decide) rfl (fun ls hl => ?_)
    have hl : lv_has ls 3 [(2, .int (nI (i + 1))), (0, .ref z), (1, .ref x)] := hl
    refine lv_goto (tgt := 2) hx hb d_C_invert_21 (by decide) ?_
    have hl : lv_has ls 3 [(2, .int (nI (i + 1))), (0, .ref z), (1, .ref x)] := lv_sub hl [0, 1, 2] rfl
    exact ih H1 locs1 ls ⟨_, hl, hlo1, hF.tr hF1 (fun _ h => h), h1, NL_up hN⟩
  · intro H locs ls ⟨f, hl, hlo, hF, hf, hN⟩
    refine lv_iload_n hx hb d_C_invert_2 rfl (lv_at hl 0 rfl) ?_
    refine lv_bipush (v := nI 8) hx hb d_C_invert_3 (by decide) ?_
    refine lv_icmp_ge (tgt := 24) hx hb d_C_invert_5 (by decide) (fun _ => ?_) (fun hc => absurd (nI_le (Nat.le_refl _) (by omega)) hc)
    exact W.vret hx hb hr (fun t ht hW => ⟨rfl, by rw [ht]; exact hF, f, by rw [ht]; exact hf, hN⟩) hlo d_C_invert_24
  · exact ⟨fz, hl, (fun _ h => nomatch h), XF.rf, hz, NL_0⟩
set_option maxHeartbeats 4000000 in
set_option maxRecDepth 100000 in
theorem c_fill (l : Launch) (D : va_G) (cJ cI cQ cR : ClassId) (z n : Nat) (v9 : Int64) (fz : Nat → Int64) (hn : n ≤ 16) : Met l y_J_fill_Arrays w_J_fill_Arrays { frames := 0, cells := 0, slots := 0, locals := 0 } (xP D vwCl (TY cJ cI cQ cR) [.ref z, .long v9] (fun H => hL H cJ z n fz)) (xQv (fun H0 H => XF (fun q => q = z) H0 H ∧ ∃ (f : Nat → Int64), hL H cJ z n f ∧ ∀ j, j < n → f j = v9)) 0 0 (fun q => q = z) := by
  refine Met.ofW (cc := b_J_fill_Arrays) (maxL := 5) (ret := none) (by decide) rfl ?_
  intro p e s m args below meth c s₁ B hml hv
  obtain ⟨rfl, hK, hz⟩ := hv
  have hx := B.exec
  have hb := B.bytes
  have hr := B.returns
  have hts := atoms_spec (ws := w_J_fill_Arrays) B.pre
  have htw : ∀ w ∈ WT, w.before _ s = true := fun w h => hts w (List.mem_cons_of_mem _ h)
  have hown : s.vm.findClass "java/util/Arrays" = some m.cls := findClass_of_methodNamed B.named
  have hlocks := B.notSynchronized
  have hJ : ArrOfT s cJ .long := (hK.2 0 _ rfl).1
  have hI9 : ArrOfT s cI .int := (hK.2 1 _ rfl).1
  have hl := lv_entry ([.ref z, .long v9]) (n := 5) (Nat.le_of_ble_eq_true rfl)
  rw [lg_entry_eq]
  generalize (lg_sl ([.ref z, .long v9]) ++ List.replicate (5 - (lg_sl ([.ref z, .long v9])).length) Slot.unset).toArray = ls at hl ⊢
  have hl : lv_has ls 5 [(0, .ref z), (1, .long v9)] := hl
  refine lv_iconst (v := nI 0) hx hb d_J_fill_Arrays_0 (by decide) ?_
  refine lv_istore_n hx hb d_J_fill_Arrays_1 rfl hl (by decide) rfl (fun ls hl => ?_)
  have hl : lv_has ls 5 [(3, .int (nI 0)), (0, .ref z), (1, .long v9)] := hl
  refine lv_aload_n hx hb d_J_fill_Arrays_2 rfl (lv_at hl 1 rfl) ?_
  refine x_len hx hb hJ hz d_J_fill_Arrays_3 ?_
  refine lv_istore hx hb d_J_fill_Arrays_4 hl (by decide) rfl (fun ls hl => ?_)
  have hl : lv_has ls 5 [(4, .int (nI n)), (3, .int (nI 0)), (0, .ref z), (1, .long v9)] := hl
  have hl : lv_has ls 5 [(3, .int (nI 0)), (4, .int (nI n)), (0, .ref z), (1, .long v9)] := lv_sub hl [1, 0, 2, 3] rfl
  refine x_loop 6 (fun i H locs ls => ∃ (f : Nat → Int64), lv_has ls 5 [(3, .int (nI i)), (4, .int (nI n)), (0, .ref z), (1, .long v9)] ∧ (∀ q ∈ locs, q.base = z) ∧ XF (fun q => q = z) s.heap H ∧ hL H cJ z n f ∧ ∀ j, j < i → f j = v9) n ?_ ?_ 0 _ _ _ (by omega) ?_
  · intro i H locs ls hi ⟨f, hl, hlo, hF, hf, hN⟩ ih
    refine lv_iload_n hx hb d_J_fill_Arrays_6 rfl (lv_at hl 0 rfl) ?_
    refine lv_iload hx hb d_J_fill_Arrays_7 (lv_at hl 1 rfl) ?_
    refine lv_icmp_ge (tgt := 22) hx hb d_J_fill_Arrays_9 (by decide) (fun hc => absurd hc (nI_ge (by omega) (by omega))) (fun _ => ?_)
    refine lv_aload_n hx hb d_J_fill_Arrays_12 rfl (lv_at hl 2 rfl) ?_
    refine lv_iload_n hx hb d_J_fill_Arrays_13 rfl (lv_at hl 0 rfl) ?_
    refine lv_lload_n hx hb d_J_fill_Arrays_14 rfl (lv_at hl 3 rfl) ?_
    refine x_last (A := fun q => q = z) hx hb hJ hf hlo (rfl) (i) (rfl) (by omega) (by omega) d_J_fill_Arrays_15 (fun H1 locs1 h1 hF1 hlo1 => ?_)
    refine lv_iinc (v := nI (i + 1)) (k := 0) hx hb d_J_fill_Arrays_16 hl rfl (nI_1 i) (by decide) rfl (fun ls hl => ?_)
    have hl : lv_has ls 5 [(3, .int (nI (i + 1))), (4, .int (nI n)), (0, .ref z), (1, .long v9)] := hl
    refine lv_goto (tgt := 6) hx hb d_J_fill_Arrays_19 (by decide) ?_
    have hl : lv_has ls 5 [(3, .int (nI (i + 1))), (4, .int (nI n)), (0, .ref z), (1, .long v9)] := lv_sub hl [0, 1, 2, 3] rfl
    exact ih H1 locs1 ls ⟨_, hl, hlo1, hF.tr hF1 (fun _ h => h), h1, fun j hj => by
      by_cases ej : j = i
      · subst ej; rw [pk_uLs]
      · rw [pk_uLn ej]; exact hN j (by omega)⟩
  · intro H locs ls ⟨f, hl, hlo, hF, hf, hN⟩
    refine lv_iload_n hx hb d_J_fill_Arrays_6 rfl (lv_at hl 0 rfl) ?_
    refine lv_iload hx hb d_J_fill_Arrays_7 (lv_at hl 1 rfl) ?_
    refine lv_icmp_ge (tgt := 22) hx hb d_J_fill_Arrays_9 (by decide) (fun _ => ?_) (fun hc => absurd (nI_le (Nat.le_refl _) (by omega)) hc)
    exact W.vret hx hb hr (fun t ht hW => ⟨rfl, by rw [ht]; exact hF, f, by rw [ht]; exact hf, hN⟩) hlo d_J_fill_Arrays_22
  · exact ⟨fz, hl, (fun _ h => nomatch h), XF.rf, hz, (fun j h => absurd h (Nat.not_lt_zero j))⟩
set_option maxHeartbeats 4000000 in
set_option maxRecDepth 100000 in
theorem c_order (l : Launch) (D : va_G) (cJ cI cQ cR : ClassId) (x y vx vy : Nat) (fx fy : Nat → Int64) (hvx : vx < 2 ^ 256) (hvy : vy < 2 ^ 256) (hNx : NL fx 8 vx) (hNy : NL fy 8 vy) : Met l y_C_order w_C_order { frames := 0, cells := 0, slots := 0, locals := 0 } (xP D vwCl (TY cJ cI cQ cR) [.ref x, .ref y] (fun H => hL H cJ x 8 fx ∧ hL H cJ y 8 fy)) (xQi (fun r H0 H => H = H0 ∧ r = ordv vx vy)) 0 0 (fun _ => False) := by
  refine Met.ofW (cc := b_C_order) (maxL := 3) (ret := some .int) (by decide) rfl ?_
  intro p e s m args below meth c s₁ B hml hv
  obtain ⟨rfl, hK, ⟨hX, hY⟩⟩ := hv
  have hx := B.exec
  have hb := B.bytes
  have hr := B.returns
  have hts := atoms_spec (ws := w_C_order) B.pre
  have htw : ∀ w ∈ WT, w.before _ s = true := fun w h => hts w (List.mem_cons_of_mem _ h)
  have hown : s.vm.findClass "WideNumbers" = some m.cls := findClass_of_methodNamed B.named
  have hlocks := B.notSynchronized
  have hJ : ArrOfT s cJ .long := (hK.2 0 _ rfl).1
  have hI9 : ArrOfT s cI .int := (hK.2 1 _ rfl).1
  have hl := lv_entry ([.ref x, .ref y]) (n := 3) (Nat.le_of_ble_eq_true rfl)
  rw [lg_entry_eq]
  generalize (lg_sl ([.ref x, .ref y]) ++ List.replicate (3 - (lg_sl ([.ref x, .ref y])).length) Slot.unset).toArray = ls at hl ⊢
  have hl : lv_has ls 3 [(0, .ref x), (1, .ref y)] := hl
  refine lv_bipush (v := nI 8 - 1) hx hb d_C_order_0 (by decide) ?_
  refine lv_istore_n hx hb d_C_order_2 rfl hl (by decide) rfl (fun ls hl => ?_)
  have hl : lv_has ls 3 [(2, .int (nI 8 - 1)), (0, .ref x), (1, .ref y)] := hl
  have hl : lv_has ls 3 [(2, .int (nI 8 - 1)), (0, .ref x), (1, .ref y)] := lv_sub hl [0, 1, 2] rfl
  refine x_loopD 3 (fun i H locs ls => i ≤ 8 ∧ lv_has ls 3 [(2, .int (nI i - 1)), (0, .ref x), (1, .ref y)] ∧ locs = [] ∧ H = s.heap ∧ vx / 2 ^ (32 * i) = vy / 2 ^ (32 * i)) ?_ ?_ 8 _ _ _ ?_
  · intro i H locs ls ⟨hi, hl, hlo, hH, he⟩ ih
    subst hlo
    subst hH
    refine lv_iload_n hx hb d_C_order_3 rfl (lv_at hl 0 rfl) ?_
    refine x_topi (v := nI i) (nI_pred i) ?_
    refine lv_if_lt (tgt := 39) hx hb d_C_order_4 (by decide) (fun hc => absurd hc (nI_pos (by omega))) (fun _ => ?_)
    have hd1 := dg_lt vx i
    have hd2 := dg_lt vy i
    have e1 := dg_divs vx i
    have e2 := dg_divs vy i
    refine lv_aload_n hx hb d_C_order_7 rfl (lv_at hl 1 rfl) ?_
    refine lv_iload_n hx hb d_C_order_8 rfl (lv_at hl 0 rfl) ?_
    refine x_lald hx hb hJ hX (i) (nI_pred i) (by omega) (by omega) (v := lN (dg vx i)) (hNx i (by omega)) d_C_order_9 ?_
    refine lv_aload_n hx hb d_C_order_10 rfl (lv_at hl 2 rfl) ?_
    refine lv_iload_n hx hb d_C_order_11 rfl (lv_at hl 0 rfl) ?_
    refine x_lald hx hb hJ hY (i) (nI_pred i) (by omega) (by omega) (v := lN (dg vy i)) (hNy i (by omega)) d_C_order_12 ?_
    refine W.lcmp hx hb d_C_order_13 ?_
    refine lv_if_eq (tgt := 33) hx hb d_C_order_14 (by decide) (fun hc => ?_) (fun hc => ?_)
    · have hd := (jN_eq (by omega) (by omega)).mp ((cmp_eq _ _).mp hc)
      refine lv_iinc (v := nI i - 1) (k := 0) hx hb d_C_order_33 hl rfl (i_dec i) (by decide) rfl (fun ls hl => ?_)
      have hl : lv_has ls 3 [(2, .int (nI i - 1)), (0, .ref x), (1, .ref y)] := hl
      refine lv_goto (tgt := 3) hx hb d_C_order_36 (by decide) ?_
      exact ih _ _ ls ⟨by omega, hl, rfl, rfl, by rw [e1, e2, he, hd]⟩
    · have hd : dg vx i ≠ dg vy i := fun h => hc ((cmp_eq _ _).mpr (by rw [h]))
      refine lv_aload_n hx hb d_C_order_17 rfl (lv_at hl 1 rfl) ?_
      refine lv_iload_n hx hb d_C_order_18 rfl (lv_at hl 0 rfl) ?_
      refine x_lald hx hb hJ hX (i) (nI_pred i) (by omega) (by omega) (v := lN (dg vx i)) (hNx i (by omega)) d_C_order_19 ?_
      refine lv_aload_n hx hb d_C_order_20 rfl (lv_at hl 2 rfl) ?_
      refine lv_iload_n hx hb d_C_order_21 rfl (lv_at hl 0 rfl) ?_
      refine x_lald hx hb hJ hY (i) (nI_pred i) (by omega) (by omega) (v := lN (dg vy i)) (hNy i (by omega)) d_C_order_22 ?_
      refine W.lcmp hx hb d_C_order_23 ?_
      refine lv_if_ge (tgt := 31) hx hb d_C_order_24 (by decide) (fun hc2 => ?_) (fun hc2 => ?_)
      · have hlt : dg vy i < dg vx i := Nat.lt_of_le_of_ne (Nat.not_lt.mp (fun h => absurd ((lg_cmp_ge _ _).mp hc2) (Int64.not_le.mpr ((jN_lt (by omega) (by omega)).mpr h)))) (fun h => hd h.symm)
        have hv : vy < vx := Nat.lt_of_not_le (fun h => by have := Nat.div_le_div_right (c := 2 ^ (32 * i)) h; omega)
        refine lv_iconst (v := nI 1) hx hb d_C_order_31 (by decide) ?_
        exact W.iret hx hb hr (fun t ht hW => ⟨_, rfl, ht, by unfold ordv; rw [if_neg (by omega), if_neg (by omega)]; rfl⟩) (fun _ h => nomatch h) d_C_order_32
      · have hlt : dg vx i < dg vy i := (jN_lt (by omega) (by omega)).mp (Int64.not_le.mp (fun h => hc2 ((lg_cmp_ge _ _).mpr h)))
        have hv : vx < vy := Nat.lt_of_not_le (fun h => by have := Nat.div_le_div_right (c := 2 ^ (32 * i)) h; omega)
        refine lv_iconst (v := -1) hx hb d_C_order_27 (by decide) ?_
        refine lv_goto (tgt := 32) hx hb d_C_order_28 (by decide) ?_
        exact W.iret hx hb hr (fun t ht hW => ⟨_, rfl, ht, by unfold ordv; rw [if_pos hv]⟩) (fun _ h => nomatch h) d_C_order_32
  · intro H locs ls ⟨hi, hl, hlo, hH, he⟩
    subst hlo
    subst hH
    refine lv_iload_n hx hb d_C_order_3 rfl (lv_at hl 0 rfl) ?_
    refine lv_if_lt (tgt := 39) hx hb d_C_order_4 (by decide) (fun _ => ?_) (fun hc => absurd (by decide) hc)
    refine lv_iconst (v := nI 0) hx hb d_C_order_39 (by decide) ?_
    have hv : vx = vy := by simpa using he
    exact W.iret hx hb hr (fun t ht hW => ⟨_, rfl, ht, by unfold ordv; rw [if_neg (by omega), if_pos hv]; rfl⟩) (fun _ h => nomatch h) d_C_order_40
  · exact ⟨by decide, hl, rfl, rfl, by rw [Nat.div_eq_of_lt hvx, Nat.div_eq_of_lt hvy]⟩
set_option maxHeartbeats 4000000 in
set_option maxRecDepth 100000 in
theorem c_lowLimb (l : Launch) (D : va_G) (cJ cI cQ cR : ClassId) (k : Nat) (hk : k < 4) : Met l y_C_lowLimbOfPart w_C_lowLimbOfPart { frames := 0, cells := 0, slots := 0, locals := 0 } (xP D vwCl (TY cJ cI cQ cR) [.int (nI k)] (fun H => True)) (xQi (fun r H0 H => H = H0 ∧ r = nI (2 * (3 - k)))) 0 0 (fun _ => False) := by
  refine Met.ofW (cc := b_C_lowLimbOfPart) (maxL := 1) (ret := some .int) (by decide) rfl ?_
  intro p e s m args below meth c s₁ B hml hv
  obtain ⟨rfl, hK, hB⟩ := hv
  have hx := B.exec
  have hb := B.bytes
  have hr := B.returns
  have hts := atoms_spec (ws := w_C_lowLimbOfPart) B.pre
  have htw : ∀ w ∈ WT, w.before _ s = true := fun w h => hts w (List.mem_cons_of_mem _ h)
  have hown : s.vm.findClass "WideNumbers" = some m.cls := findClass_of_methodNamed B.named
  have hlocks := B.notSynchronized
  have hJ : ArrOfT s cJ .long := (hK.2 0 _ rfl).1
  have hI9 : ArrOfT s cI .int := (hK.2 1 _ rfl).1
  have hl := lv_entry ([.int (nI k)]) (n := 1) (Nat.le_of_ble_eq_true rfl)
  rw [lg_entry_eq]
  generalize (lg_sl ([.int (nI k)]) ++ List.replicate (1 - (lg_sl ([.int (nI k)])).length) Slot.unset).toArray = ls at hl ⊢
  have hl : lv_has ls 1 [(0, .int (nI k))] := hl
  refine lv_iconst (v := nI 2) hx hb d_C_lowLimbOfPart_0 (by decide) ?_
  refine lv_iconst (v := nI 3) hx hb d_C_lowLimbOfPart_1 (by decide) ?_
  refine lv_iload_n hx hb d_C_lowLimbOfPart_2 rfl (lv_at hl 0 rfl) ?_
  refine lv_isub hx hb d_C_lowLimbOfPart_3 ?_
  refine x_topi (v := nI (3 - k)) (pk_sub (by omega)) ?_
  refine lv_imul hx hb d_C_lowLimbOfPart_4 ?_
  refine x_topi (v := nI (2 * (3 - k))) (pk_mul _ _) ?_
  exact W.iret hx hb hr (fun t ht hW => ⟨_, rfl, ht, rfl⟩) (fun _ h => nomatch h) d_C_lowLimbOfPart_5
set_option maxHeartbeats 4000000 in
set_option maxRecDepth 100000 in
theorem c_limbOr (l : Launch) (D : va_G) (cJ cI cQ cR : ClassId) (x : Nat) (i : Int32) (o : Int64) (fx : Nat → Int64) : Met l y_C_limbOr w_C_limbOr { frames := 0, cells := 0, slots := 0, locals := 0 } (xP D vwCl (TY cJ cI cQ cR) [.ref x, .int i, .long o] (fun H => hL H cJ x 8 fx)) (xQl (fun r H0 H => H = H0 ∧ r = limbV fx i o)) 0 0 (fun _ => False) := by
  refine Met.ofW (cc := b_C_limbOr) (maxL := 4) (ret := some .long) (by decide) rfl ?_
  intro p e s m args below meth c s₁ B hml hv
  obtain ⟨rfl, hK, hX⟩ := hv
  have hx := B.exec
  have hb := B.bytes
  have hr := B.returns
  have hts := atoms_spec (ws := w_C_limbOr) B.pre
  have htw : ∀ w ∈ WT, w.before _ s = true := fun w h => hts w (List.mem_cons_of_mem _ h)
  have hown : s.vm.findClass "WideNumbers" = some m.cls := findClass_of_methodNamed B.named
  have hlocks := B.notSynchronized
  have hJ : ArrOfT s cJ .long := (hK.2 0 _ rfl).1
  have hI9 : ArrOfT s cI .int := (hK.2 1 _ rfl).1
  have hl := lv_entry ([.ref x, .int i, .long o]) (n := 4) (Nat.le_of_ble_eq_true rfl)
  rw [lg_entry_eq]
  generalize (lg_sl ([.ref x, .int i, .long o]) ++ List.replicate (4 - (lg_sl ([.ref x, .int i, .long o])).length) Slot.unset).toArray = ls at hl ⊢
  have hl : lv_has ls 4 [(0, .ref x), (1, .int i), (2, .long o)] := hl
  refine lv_iload_n hx hb d_C_limbOr_0 rfl (lv_at hl 1 rfl) ?_
  refine lv_if_lt (tgt := 16) hx hb d_C_limbOr_1 (by decide) (fun hc => ?_) (fun hc => ?_)
  · refine lv_lload_n hx hb d_C_limbOr_16 rfl (lv_at hl 2 rfl) ?_
    exact W.lret hx hb hr (fun t ht hW => ⟨_, rfl, ht, by unfold limbV; rw [if_pos hc]⟩) (fun _ h => nomatch h) d_C_limbOr_17
  · refine lv_iload_n hx hb d_C_limbOr_4 rfl (lv_at hl 1 rfl) ?_
    refine lv_bipush (v := nI 8) hx hb d_C_limbOr_5 (by decide) ?_
    refine lv_icmp_ge (tgt := 16) hx hb d_C_limbOr_7 (by decide) (fun hc2 => ?_) (fun hc2 => ?_)
    · refine lv_lload_n hx hb d_C_limbOr_16 rfl (lv_at hl 2 rfl) ?_
      exact W.lret hx hb hr (fun t ht hW => ⟨_, rfl, ht, by unfold limbV; rw [if_neg hc, if_pos hc2]⟩) (fun _ h => nomatch h) d_C_limbOr_17
    · obtain ⟨k, hk, ek⟩ := nI_of hc
      subst ek
      have hk8 : k < 8 := Nat.lt_of_not_le (fun h => hc2 (nI_le h hk))
      refine lv_aload_n hx hb d_C_limbOr_10 rfl (lv_at hl 0 rfl) ?_
      refine lv_iload_n hx hb d_C_limbOr_11 rfl (lv_at hl 1 rfl) ?_
      refine x_lald hx hb hJ hX (k) (rfl) (by omega) (by omega) (v := fx k) (rfl) d_C_limbOr_12 ?_
      refine lv_goto (tgt := 17) hx hb d_C_limbOr_13 (by decide) ?_
      exact W.lret hx hb hr (fun t ht hW => ⟨_, rfl, ht, by unfold limbV; rw [if_neg hc, if_neg hc2, nI_clamp hk]⟩) (fun _ h => nomatch h) d_C_limbOr_17
