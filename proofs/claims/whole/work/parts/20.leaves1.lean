-- contracts of the leaves: bitAt, add
set_option maxHeartbeats 4000000 in
set_option maxRecDepth 100000 in
theorem c_bitAt (l : Launch) (D : va_G) (cJ cI cQ cR : ClassId) (x n b vx : Nat) (fx : Nat → Int64) (hn : n ≤ 16) (hb9 : b < 32 * n) (hN : NL fx n vx) : Met l y_C_bitAt w_C_bitAt { frames := 0, cells := 0, slots := 0, locals := 0 } (xP D vwCl (TY cJ cI cQ cR) [.ref x, .int (nI b)] (fun H => hL H cJ x n fx)) (xQl (fun r H0 H => H = H0 ∧ r = lN (vx / 2 ^ b % 2))) 0 0 (fun _ => False) := by
  refine Met.ofW (cc := b_C_bitAt) (maxL := 2) (ret := some .long) (by decide) rfl ?_
  intro p e s m args below meth c s₁ B hml hv
  obtain ⟨rfl, hK, hB⟩ := hv
  have hx := B.exec
  have hb := B.bytes
  have hr := B.returns
  have hts := atoms_spec (ws := w_C_bitAt) B.pre
  have htw : ∀ w ∈ WT, w.before _ s = true := fun w h => hts w (List.mem_cons_of_mem _ h)
  have hown : s.vm.findClass "WideNumbers" = some m.cls := findClass_of_methodNamed B.named
  have hlocks := B.notSynchronized
  have hJ : ArrOfT s cJ .long := (hK.2 0 _ rfl).1
  have hI9 : ArrOfT s cI .int := (hK.2 1 _ rfl).1
  have hl := lv_entry ([.ref x, .int (nI b)]) (n := 2) (Nat.le_of_ble_eq_true rfl)
  rw [lg_entry_eq]
  generalize (lg_sl ([.ref x, .int (nI b)]) ++ List.replicate (2 - (lg_sl ([.ref x, .int (nI b)])).length) Slot.unset).toArray = ls at hl ⊢
  have hl : lv_has ls 2 [(0, .ref x), (1, .int (nI b))] := hl
  refine lv_aload_n hx hb d_C_bitAt_0 rfl (lv_at hl 0 rfl) ?_
  refine lv_iload_n hx hb d_C_bitAt_1 rfl (lv_at hl 1 rfl) ?_
  refine lv_bipush (v := nI 32) hx hb d_C_bitAt_2 (by decide) ?_
  refine lv_idiv hx hb d_C_bitAt_4 (by decide) ?_
  refine x_topi (v := nI (b / 32)) (pk_div (by omega) (by decide) (by decide)) ?_
  refine x_lald hx hb hJ hB (b / 32) (rfl) (by omega) (by omega) (v := lN (dg vx (b / 32))) (hN _ (by omega)) d_C_bitAt_5 ?_
  refine lv_iload_n hx hb d_C_bitAt_6 rfl (lv_at hl 1 rfl) ?_
  refine lv_bipush (v := nI 32) hx hb d_C_bitAt_7 (by decide) ?_
  refine lv_irem hx hb d_C_bitAt_9 (by decide) ?_
  refine x_topi (v := nI (b % 32)) (pk_rem (by omega) (by decide) (by decide)) ?_
  have hd := dg_lt vx (b / 32)
  refine lv_lushr (v := lN (dg vx (b / 32) / 2 ^ (b % 32))) hx hb d_C_bitAt_10 (jN_shr (by omega) (by omega)) ?_
  refine lv_lconst (v := lN 1) hx hb d_C_bitAt_11 (by decide) ?_
  refine lv_land hx hb d_C_bitAt_12 ?_
  refine x_topl (v := lN (vx / 2 ^ b % 2)) (by rw [show (lN 1 : Int64) = 1 from rfl, jN_a1, dg_bit]) ?_
  exact W.lret hx hb hr (fun t ht hW => ⟨_, rfl, ht, rfl⟩) (fun _ h => nomatch h) d_C_bitAt_13
set_option maxHeartbeats 4000000 in
set_option maxRecDepth 100000 in
theorem c_add (l : Launch) (D : va_G) (cJ cI cQ cR : ClassId) (z x y n vx vy : Nat) (fz fx fy : Nat → Int64) (hn : 8 ≤ n ∧ n ≤ 16) (hxz : x ≠ z) (hyz : y ≠ z) (hvx : vx < 2 ^ 256) (hvy : vy < 2 ^ 256) (hNx : NL fx 8 vx) (hNy : NL fy 8 vy) : Met l y_C_add w_C_add { frames := 0, cells := 0, slots := 0, locals := 0 } (xP D vwCl (TY cJ cI cQ cR) [.ref z, .ref x, .ref y] (fun H => hL H cJ z n fz ∧ hL H cJ x 8 fx ∧ hL H cJ y 8 fy)) (xQl (fun r H0 H => XF (fun q => q = z) H0 H ∧ ∃ (c v : Nat) (f : Nat → Int64), r = lN c ∧ hL H cJ z n f ∧ (∀ j, 8 ≤ j → f j = fz j) ∧ NL f 8 v ∧ v < 2 ^ 256 ∧ v + 2 ^ 256 * c = vx + vy ∧ c ≤ 1)) 0 0 (fun q => q = z) := by
  refine Met.ofW (cc := b_C_add) (maxL := 8) (ret := some .long) (by decide) rfl ?_
  intro p e s m args below meth c s₁ B hml hv
  obtain ⟨rfl, hK, ⟨hz, hX, hY⟩⟩ := hv
  have hx := B.exec
  have hb := B.bytes
  have hr := B.returns
  have hts := atoms_spec (ws := w_C_add) B.pre
  have htw : ∀ w ∈ WT, w.before _ s = true := fun w h => hts w (List.mem_cons_of_mem _ h)
  have hown : s.vm.findClass "WideNumbers" = some m.cls := findClass_of_methodNamed B.named
  have hlocks := B.notSynchronized
  have hJ : ArrOfT s cJ .long := (hK.2 0 _ rfl).1
  have hI9 : ArrOfT s cI .int := (hK.2 1 _ rfl).1
  have hl := lv_entry ([.ref z, .ref x, .ref y]) (n := 8) (Nat.le_of_ble_eq_true rfl)
  rw [lg_entry_eq]
  generalize (lg_sl ([.ref z, .ref x, .ref y]) ++ List.replicate (8 - (lg_sl ([.ref z, .ref x, .ref y])).length) Slot.unset).toArray = ls at hl ⊢
  have hl : lv_has ls 8 [(0, .ref z), (1, .ref x), (2, .ref y)] := hl
  refine lv_lconst (v := lN 0) hx hb d_C_add_0 (by decide) ?_
  refine lv_lstore_n hx hb d_C_add_1 rfl hl (by decide) rfl (fun ls hl => ?_)
  have hl : lv_has ls 8 [(3, .long (lN 0)), (0, .ref z), (1, .ref x), (2, .ref y)] := hl
  refine lv_iconst (v := nI 0) hx hb d_C_add_2 (by decide) ?_
  refine lv_istore hx hb d_C_add_3 hl (by decide) rfl (fun ls hl => ?_)
  have hl : lv_has ls 8 [(5, .int (nI 0)), (3, .long (lN 0)), (0, .ref z), (1, .ref x), (2, .ref y)] := hl
  have hl : lv_has ls 8 [(5, .int (nI 0)), (3, .long (lN 0)), (0, .ref z), (1, .ref x), (2, .ref y)] := lv_sub hl [0, 1, 2, 3, 4] rfl
  refine x_loop 5 (fun i H locs ls => ∃ (c9 r : Nat) (f : Nat → Int64), lv_has ls 8 [(5, .int (nI i)), (3, .long (lN c9)), (0, .ref z), (1, .ref x), (2, .ref y)] ∧ (∀ q ∈ locs, q.base = z) ∧ XF (fun q => q = z) s.heap H ∧ hL H cJ z n f ∧ (∀ j, 8 ≤ j → f j = fz j) ∧ NL f i r ∧ r < 2 ^ (32 * i) ∧ r + 2 ^ (32 * i) * c9 = vx % 2 ^ (32 * i) + vy % 2 ^ (32 * i) ∧ c9 ≤ 1) 8 ?_ ?_ 0 _ _ _ (by omega) ?_
  · intro i H locs ls hi ⟨c9, r, f, hl, hlo, hF, hf, hhi, hN, hr9, he, hc9⟩ ih
    refine lv_iload hx hb d_C_add_5 (lv_at hl 0 rfl) ?_
    refine lv_bipush (v := nI 8) hx hb d_C_add_7 (by decide) ?_
    refine lv_icmp_ge (tgt := 47) hx hb d_C_add_9 (by decide) (fun hc => absurd hc (nI_ge (by omega) (by omega))) (fun _ => ?_)
    refine lv_aload_n hx hb d_C_add_12 rfl (lv_at hl 3 rfl) ?_
    refine lv_iload hx hb d_C_add_13 (lv_at hl 0 rfl) ?_
    refine x_lald hx hb hJ (hL_f hX hF hxz) (i) (rfl) (by omega) (by omega) (v := lN (dg vx i)) (hNx i (by omega)) d_C_add_15 ?_
    refine lv_aload_n hx hb d_C_add_16 rfl (lv_at hl 4 rfl) ?_
    refine lv_iload hx hb d_C_add_17 (lv_at hl 0 rfl) ?_
    refine x_lald hx hb hJ (hL_f hY hF hyz) (i) (rfl) (by omega) (by omega) (v := lN (dg vy i)) (hNy i (by omega)) d_C_add_19 ?_
    refine lv_ladd hx hb d_C_add_20 ?_
    refine lv_lload_n hx hb d_C_add_21 rfl (lv_at hl 1 rfl) ?_
    refine lv_ladd hx hb d_C_add_22 ?_
    refine x_topl (v := lN (dg vx i + dg vy i + c9)) (by rw [lN_add, lN_add]) ?_
    have hd1 := dg_lt vx i
    have hd2 := dg_lt vy i
    obtain ⟨S, hS⟩ : ∃ S, S = dg vx i + dg vy i + c9 := ⟨_, rfl⟩
    rw [← hS]
    refine lv_lstore hx hb d_C_add_23 hl (by decide) rfl (fun ls hl => ?_)
    have hl : lv_has ls 8 [(6, .long (lN S)), (5, .int (nI i)), (3, .long (lN c9)), (0, .ref z), (1, .ref x), (2, .ref y)] := hl
    refine lv_aload_n hx hb d_C_add_25 rfl (lv_at hl 3 rfl) ?_
    refine lv_iload hx hb d_C_add_26 (lv_at hl 1 rfl) ?_
    refine lv_lload hx hb d_C_add_28 (lv_at hl 0 rfl) ?_
    refine lv_ldc2 (v := (4294967295 : Int64)) hx hb hown (htw _ kw_126) d_C_add_30 ?_
    refine lv_land hx hb d_C_add_33 ?_
    refine x_topl (v := lN (S % 4294967296)) (jN_lo S) ?_
    refine x_last (A := fun q => q = z) hx hb hJ hf hlo (rfl) (i) (rfl) (by omega) (by omega) d_C_add_34 (fun H1 locs1 h1 hF1 hlo1 => ?_)
    refine lv_lload hx hb d_C_add_35 (lv_at hl 0 rfl) ?_
    refine lv_bipush (v := nI 32) hx hb d_C_add_37 (by decide) ?_
    refine lv_lushr (v := lN (S / 4294967296)) hx hb d_C_add_39 (jN_shr (k := 32) (by omega) (by decide)) ?_
    refine lv_lstore_n hx hb d_C_add_40 rfl hl (by decide) rfl (fun ls hl => ?_)
    have hl : lv_has ls 8 [(3, .long (lN (S / 4294967296))), (6, .long (lN S)), (5, .int (nI i)), (0, .ref z), (1, .ref x), (2, .ref y)] := hl
    refine lv_iinc (v := nI (i + 1)) (k := 2) hx hb d_C_add_41 hl rfl (nI_1 i) (by decide) rfl (fun ls hl => ?_)
    have hl : lv_has ls 8 [(5, .int (nI (i + 1))), (3, .long (lN (S / 4294967296))), (6, .long (lN S)), (0, .ref z), (1, .ref x), (2, .ref y)] := hl
    refine lv_goto (tgt := 5) hx hb d_C_add_44 (by decide) ?_
    have hl : lv_has ls 8 [(5, .int (nI (i + 1))), (3, .long (lN (S / 4294967296))), (0, .ref z), (1, .ref x), (2, .ref y)] := lv_sub hl [0, 1, 3, 4, 5] rfl
    refine ih H1 locs1 ls ⟨S / 4294967296, r + 2 ^ (32 * i) * (S % 4294967296), _, hl, hlo1, hF.tr hF1 (fun _ h => h), h1, fun j hj => by rw [pk_uLn (by omega)]; exact hhi j hj, NL_put hN hr9 (Nat.mod_lt _ (by decide)), dg_alt hr9 (Nat.mod_lt _ (by decide)), ?_, by omega⟩
    rw [dg_mods, dg_mods, pw_s]
    exact st_add he (by rw [← hS]; exact Nat.mod_add_div S 4294967296)
  · intro H locs ls ⟨c9, r, f, hl, hlo, hF, hf, hhi, hN, hr9, he, hc9⟩
    refine lv_iload hx hb d_C_add_5 (lv_at hl 0 rfl) ?_
    refine lv_bipush (v := nI 8) hx hb d_C_add_7 (by decide) ?_
    refine lv_icmp_ge (tgt := 47) hx hb d_C_add_9 (by decide) (fun _ => ?_) (fun hc => absurd (nI_le (Nat.le_refl 8) (by decide)) hc)
    refine lv_lload_n hx hb d_C_add_47 rfl (lv_at hl 1 rfl) ?_
    rw [Nat.mod_eq_of_lt hvx, Nat.mod_eq_of_lt hvy] at he
    exact W.lret hx hb hr (fun t ht hW => ⟨_, rfl, by rw [ht]; exact hF, c9, r, f, rfl, by rw [ht]; exact hf, hhi, hN, hr9, he, hc9⟩) hlo d_C_add_48
  · exact ⟨0, 0, fz, hl, (fun _ h => nomatch h), XF.rf, hz, fun _ _ => rfl, NL_0, by decide, by simp [Nat.mod_one], by decide⟩
