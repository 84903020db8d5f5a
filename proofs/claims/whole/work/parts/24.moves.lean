-- contracts: moves and the product
set_option maxHeartbeats 4000000 in
set_option maxRecDepth 100000 in
theorem c_moveLeft (l : Launch) (D : va_G) (cJ cI cQ cR : ClassId) (z x vx b : Nat) (fz fx : Nat → Int64) (hb9 : b ≤ 256) (hxz : x ≠ z) (hNx : NL fx 8 vx) : Met l y_C_moveLeft w_C_moveLeft { frames := 1, cells := 0, slots := 0, locals := 23 } (xP D vwCl (TY cJ cI cQ cR) [.ref z, .ref x, .int (nI b)] (fun H => hL H cJ z 8 fz ∧ hL H cJ x 8 fx)) (xQv (fun H0 H => XF (fun q => q = z) H0 H ∧ ∃ (f : Nat → Int64), hL H cJ z 8 f ∧ NL f 8 (vx * 2 ^ b))) 0 0 (fun q => q = z) := by
  refine Met.ofW (cc := b_C_moveLeft) (maxL := 7) (ret := none) (by decide) rfl ?_
  intro p e s m args below meth c s₁ B hml hv
  obtain ⟨rfl, hK, ⟨hz, hX⟩⟩ := hv
  have hx := B.exec
  have hb := B.bytes
  have hr := B.returns
  have hts := atoms_spec (ws := w_C_moveLeft) B.pre
  have htw : ∀ w ∈ WT, w.before _ s = true := fun w h => hts w (List.mem_cons_of_mem _ h)
  have hown : s.vm.findClass "WideNumbers" = some m.cls := findClass_of_methodNamed B.named
  have hlocks := B.notSynchronized
  have hJ : ArrOfT s cJ .long := (hK.2 0 _ rfl).1
  have hI9 : ArrOfT s cI .int := (hK.2 1 _ rfl).1
  have hl := lv_entry ([.ref z, .ref x, .int (nI b)]) (n := 7) (Nat.le_of_ble_eq_true rfl)
  rw [lg_entry_eq]
  generalize (lg_sl ([.ref z, .ref x, .int (nI b)]) ++ List.replicate (7 - (lg_sl ([.ref z, .ref x, .int (nI b)])).length) Slot.unset).toArray = ls at hl ⊢
  have hl : lv_has ls 7 [(0, .ref z), (1, .ref x), (2, .int (nI b))] := hl
  refine lv_iload_n hx hb d_C_moveLeft_0 rfl (lv_at hl 2 rfl) ?_
  refine lv_bipush (v := nI 32) hx hb d_C_moveLeft_1 (by decide) ?_
  refine lv_idiv hx hb d_C_moveLeft_3 (by decide) ?_
  refine x_topi (v := nI (b / 32)) (pk_div (by omega) (by decide) (by decide)) ?_
  refine lv_istore_n hx hb d_C_moveLeft_4 rfl hl (by decide) rfl (fun ls hl => ?_)
  have hl : lv_has ls 7 [(3, .int (nI (b / 32))), (0, .ref z), (1, .ref x), (2, .int (nI b))] := hl
  refine lv_iconst (v := nI 0) hx hb d_C_moveLeft_5 (by decide) ?_
  refine lv_istore hx hb d_C_moveLeft_6 hl (by decide) rfl (fun ls hl => ?_)
  have hl : lv_has ls 7 [(4, .int (nI 0)), (3, .int (nI (b / 32))), (0, .ref z), (1, .ref x), (2, .int (nI b))] := hl
  have hl : lv_has ls 7 [(4, .int (nI 0)), (3, .int (nI (b / 32))), (0, .ref z), (1, .ref x), (2, .int (nI b))] := lv_sub hl [0, 1, 2, 3, 4] rfl
  refine x_loop 8 (fun i H locs ls => ∃ (f : Nat → Int64), lv_has ls 7 [(4, .int (nI i)), (3, .int (nI (b / 32))), (0, .ref z), (1, .ref x), (2, .int (nI b))] ∧ (∀ q ∈ locs, q.base = z) ∧ XF (fun q => q = z) s.heap H ∧ hL H cJ z 8 f ∧ NL f i (vx * 2 ^ b)) 8 ?_ ?_ 0 _ _ _ (by omega) ?_
  · intro i H locs ls hi ⟨f, hl, hlo, hF, hf, hN⟩ ih
    refine lv_iload hx hb d_C_moveLeft_8 (lv_at hl 0 rfl) ?_
    refine lv_bipush (v := nI 8) hx hb d_C_moveLeft_10 (by decide) ?_
    refine lv_icmp_ge (tgt := 61) hx hb d_C_moveLeft_12 (by decide) (fun hc => absurd hc (nI_ge (by omega) (by omega))) (fun _ => ?_)
    refine lv_aload_n hx hb d_C_moveLeft_15 rfl (lv_at hl 3 rfl) ?_
    refine lv_iload hx hb d_C_moveLeft_16 (lv_at hl 0 rfl) ?_
    refine lv_iload_n hx hb d_C_moveLeft_18 rfl (lv_at hl 1 rfl) ?_
    refine lv_isub hx hb d_C_moveLeft_19 ?_
    refine lv_lconst (v := lN 0) hx hb d_C_moveLeft_20 (by decide) ?_
    refine x_calll (A := fun q => q = z) (va_runS (As := [.ref x, .int ((nI i) - (nI (b / 32))), .long (lN 0)]) (rest := []) ⟨hx, hb, hml, hown, htw⟩ (c_limbOr l D cJ cI cQ cR x (nI i - nI (b / 32)) (lN 0) fx) (xcS 3 htw kw_216 kw_1 kw_214 kw_215 rfl rfl ⟨by decide, by decide, by decide +kernel⟩ ⟨Nat.le_of_ble_eq_true rfl, Nat.le_of_ble_eq_true rfl⟩) (xPre hK (hL_f hX hF hxz)) rfl rfl hl.1 rfl (lv_room (Nat.le_of_ble_eq_true rfl)) d_C_moveLeft_21 ⟨Nat.le_of_ble_eq_true rfl, Nat.le_of_ble_eq_true rfl⟩) hlo (fun _ h => h.elim) (fun r1 H1 locs1 hB1 hlo => ?_)
    obtain ⟨rfl, rfl⟩ := hB1
    refine x_topl (v := lN (if b / 32 ≤ i then dg vx (i - b / 32) else 0)) (by rw [limb_l hi (by omega)]; split <;> first | rfl | exact hNx _ (by omega)) ?_
    obtain ⟨hv1, hv1d⟩ : ∃ u, u = (if b / 32 ≤ i then dg vx (i - b / 32) else 0) := ⟨_, rfl⟩
    have hl1 : hv1 < 4294967296 := by rw [hv1d]; split <;> first | exact dg_lt _ _ | decide
    rw [← hv1d]
    refine lv_bipush (v := nI 32) hx hb d_C_moveLeft_24 (by decide) ?_
    refine lv_lshl (v := lN (hv1 * 4294967296)) hx hb d_C_moveLeft_26 (jN_shl (k := 32) _ (by decide)) ?_
    refine lv_aload_n hx hb d_C_moveLeft_27 rfl (lv_at hl 3 rfl) ?_
    refine lv_iload hx hb d_C_moveLeft_28 (lv_at hl 0 rfl) ?_
    refine lv_iload_n hx hb d_C_moveLeft_30 rfl (lv_at hl 1 rfl) ?_
    refine lv_isub hx hb d_C_moveLeft_31 ?_
    refine lv_iconst (v := nI 1) hx hb d_C_moveLeft_32 (by decide) ?_
    refine lv_isub hx hb d_C_moveLeft_33 ?_
    refine x_topi (v := nI i - nI (b / 32 + 1)) (lv_ss _ _) ?_
    refine lv_lconst (v := lN 0) hx hb d_C_moveLeft_34 (by decide) ?_
    refine x_calll (A := fun q => q = z) (va_runS (As := [.ref x, .int (nI i - nI (b / 32 + 1)), .long (lN 0)]) (rest := [.long (lN (hv1 * 4294967296))]) ⟨hx, hb, hml, hown, htw⟩ (c_limbOr l D cJ cI cQ cR x (nI i - nI (b / 32 + 1)) (lN 0) fx) (xcS 3 htw kw_216 kw_1 kw_214 kw_215 rfl rfl ⟨by decide, by decide, by decide +kernel⟩ ⟨Nat.le_of_ble_eq_true rfl, Nat.le_of_ble_eq_true rfl⟩) (xPre hK (hL_f hX hF hxz)) rfl rfl hl.1 rfl (lv_room (Nat.le_of_ble_eq_true rfl)) d_C_moveLeft_35 ⟨Nat.le_of_ble_eq_true rfl, Nat.le_of_ble_eq_true rfl⟩) hlo (fun _ h => h.elim) (fun r2 H2 locs2 hB2 hlo => ?_)
    obtain ⟨rfl, rfl⟩ := hB2
    refine x_topl (v := lN (if b / 32 + 1 ≤ i then dg vx (i - (b / 32 + 1)) else 0)) (by rw [limb_l hi (by omega)]; split <;> first | rfl | exact hNx _ (by omega)) ?_
    obtain ⟨hv2, hv2d⟩ : ∃ u, u = (if b / 32 + 1 ≤ i then dg vx (i - (b / 32 + 1)) else 0) := ⟨_, rfl⟩
    have hl2 : hv2 < 4294967296 := by rw [hv2d]; split <;> first | exact dg_lt _ _ | decide
    rw [← hv2d]
    refine lv_lor hx hb d_C_moveLeft_38 ?_
    refine x_topl (v := lN (hv1 * 4294967296 ||| hv2)) (jN_or _ _) ?_
    refine lv_lstore hx hb d_C_moveLeft_39 hl (by decide) rfl (fun ls hl => ?_)
    have hl : lv_has ls 7 [(5, .long (lN (hv1 * 4294967296 ||| hv2))), (4, .int (nI i)), (3, .int (nI (b / 32))), (0, .ref z), (1, .ref x), (2, .int (nI b))] := hl
    refine lv_aload_n hx hb d_C_moveLeft_41 rfl (lv_at hl 3 rfl) ?_
    refine lv_iload hx hb d_C_moveLeft_42 (lv_at hl 1 rfl) ?_
    refine lv_lload hx hb d_C_moveLeft_44 (lv_at hl 0 rfl) ?_
    refine lv_iload_n hx hb d_C_moveLeft_46 rfl (lv_at hl 5 rfl) ?_
    refine lv_bipush (v := nI 32) hx hb d_C_moveLeft_47 (by decide) ?_
    refine lv_irem hx hb d_C_moveLeft_49 (by decide) ?_
    refine x_topi (v := nI (b % 32)) (pk_rem (by omega) (by decide) (by decide)) ?_
    refine lv_lshl (v := lN ((hv1 * 4294967296 ||| hv2) * 2 ^ (b % 32) % 18446744073709551616)) hx hb d_C_moveLeft_50 ((jN_shl _ (by omega)).trans (jN_mod _).symm) ?_
    refine lv_bipush (v := nI 32) hx hb d_C_moveLeft_51 (by decide) ?_
    refine lv_lushr (v := lN (dg (vx * 2 ^ b) i)) hx hb d_C_moveLeft_53 (by rw [mv_l, ← hv1d, ← hv2d]; exact jN_shr (k := 32) (Nat.mod_lt _ (by decide)) (by decide)) ?_
    refine x_last (A := fun q => q = z) hx hb hJ hf hlo (rfl) (i) (rfl) (by omega) (by omega) d_C_moveLeft_54 (fun H3 locs3 h3 hF3 hlo3 => ?_)
    refine lv_iinc (v := nI (i + 1)) (k := 1) hx hb d_C_moveLeft_55 hl rfl (nI_1 i) (by decide) rfl (fun ls hl => ?_)
    have hl : lv_has ls 7 [(4, .int (nI (i + 1))), (5, .long (lN (hv1 * 4294967296 ||| hv2))), (3, .int (nI (b / 32))), (0, .ref z), (1, .ref x), (2, .int (nI b))] := hl
    refine lv_goto (tgt := 8) hx hb d_C_moveLeft_58 (by decide) ?_
    have hl : lv_has ls 7 [(4, .int (nI (i + 1))), (3, .int (nI (b / 32))), (0, .ref z), (1, .ref x), (2, .int (nI b))] := lv_sub hl [0, 2, 3, 4, 5] rfl
    exact ih _ _ ls ⟨_, hl, hlo3, hF.tr hF3 (fun _ h => h), h3, NL_up hN⟩
  · intro H locs ls ⟨f, hl, hlo, hF, hf, hN⟩
    refine lv_iload hx hb d_C_moveLeft_8 (lv_at hl 0 rfl) ?_
    refine lv_bipush (v := nI 8) hx hb d_C_moveLeft_10 (by decide) ?_
    refine lv_icmp_ge (tgt := 61) hx hb d_C_moveLeft_12 (by decide) (fun _ => ?_) (fun hc => absurd (nI_le (Nat.le_refl _) (by omega)) hc)
    exact W.vret hx hb hr (fun t ht hW => ⟨rfl, by rw [ht]; exact hF, f, by rw [ht]; exact hf, hN⟩) hlo d_C_moveLeft_61
  · exact ⟨fz, hl, (fun _ h => nomatch h), XF.rf, hz, NL_0⟩
set_option maxHeartbeats 4000000 in
set_option maxRecDepth 100000 in
theorem c_moveRight (l : Launch) (D : va_G) (cJ cI cQ cR : ClassId) (z x vx b o w : Nat) (fz fx : Nat → Int64) (hb9 : b ≤ 256) (ho : o < 4294967296) (hxz : x ≠ z) (hNx : NL fx 8 vx) (hw1 : ∀ k, k < 8 → dg w k = dg vx k) (hw2 : ∀ k, 8 ≤ k → k < 24 → dg w k = o) : Met l y_C_moveRight w_C_moveRight { frames := 1, cells := 0, slots := 0, locals := 23 } (xP D vwCl (TY cJ cI cQ cR) [.ref z, .ref x, .int (nI b), .long (lN o)] (fun H => hL H cJ z 8 fz ∧ hL H cJ x 8 fx)) (xQv (fun H0 H => XF (fun q => q = z) H0 H ∧ ∃ (f : Nat → Int64), hL H cJ z 8 f ∧ NL f 8 (w / 2 ^ b))) 0 0 (fun q => q = z) := by
  refine Met.ofW (cc := b_C_moveRight) (maxL := 9) (ret := none) (by decide) rfl ?_
  intro p e s m args below meth c s₁ B hml hv
  obtain ⟨rfl, hK, ⟨hz, hX⟩⟩ := hv
  have hx := B.exec
  have hb := B.bytes
  have hr := B.returns
  have hts := atoms_spec (ws := w_C_moveRight) B.pre
  have htw : ∀ w ∈ WT, w.before _ s = true := fun w h => hts w (List.mem_cons_of_mem _ h)
  have hown : s.vm.findClass "WideNumbers" = some m.cls := findClass_of_methodNamed B.named
  have hlocks := B.notSynchronized
  have hJ : ArrOfT s cJ .long := (hK.2 0 _ rfl).1
  have hI9 : ArrOfT s cI .int := (hK.2 1 _ rfl).1
  have hl := lv_entry ([.ref z, .ref x, .int (nI b), .long (lN o)]) (n := 9) (Nat.le_of_ble_eq_true rfl)
  rw [lg_entry_eq]
  generalize (lg_sl ([.ref z, .ref x, .int (nI b), .long (lN o)]) ++ List.replicate (9 - (lg_sl ([.ref z, .ref x, .int (nI b), .long (lN o)])).length) Slot.unset).toArray = ls at hl ⊢
  have hl : lv_has ls 9 [(0, .ref z), (1, .ref x), (2, .int (nI b)), (3, .long (lN o))] := hl
  have hg : ∀ k, k < 24 → limbV fx (nI k) (lN o) = lN (dg w k) := by
    intro k hk
    rw [limb_r (by omega)]
    by_cases h : k < 8
    · rw [if_pos h, hw1 k h]; exact hNx k h
    · rw [if_neg h, hw2 k (by omega) hk]
  refine lv_iload_n hx hb d_C_moveRight_0 rfl (lv_at hl 2 rfl) ?_
  refine lv_bipush (v := nI 32) hx hb d_C_moveRight_1 (by decide) ?_
  refine lv_idiv hx hb d_C_moveRight_3 (by decide) ?_
  refine x_topi (v := nI (b / 32)) (pk_div (by omega) (by decide) (by decide)) ?_
  refine lv_istore hx hb d_C_moveRight_4 hl (by decide) rfl (fun ls hl => ?_)
  have hl : lv_has ls 9 [(5, .int (nI (b / 32))), (0, .ref z), (1, .ref x), (2, .int (nI b)), (3, .long (lN o))] := hl
  refine lv_iconst (v := nI 0) hx hb d_C_moveRight_6 (by decide) ?_
  refine lv_istore hx hb d_C_moveRight_7 hl (by decide) rfl (fun ls hl => ?_)
  have hl : lv_has ls 9 [(6, .int (nI 0)), (5, .int (nI (b / 32))), (0, .ref z), (1, .ref x), (2, .int (nI b)), (3, .long (lN o))] := hl
  have hl : lv_has ls 9 [(6, .int (nI 0)), (5, .int (nI (b / 32))), (0, .ref z), (1, .ref x), (2, .int (nI b)), (3, .long (lN o))] := lv_sub hl [0, 1, 2, 3, 4, 5] rfl
  refine x_loop 9 (fun i H locs ls => ∃ (f : Nat → Int64), lv_has ls 9 [(6, .int (nI i)), (5, .int (nI (b / 32))), (0, .ref z), (1, .ref x), (2, .int (nI b)), (3, .long (lN o))] ∧ (∀ q ∈ locs, q.base = z) ∧ XF (fun q => q = z) s.heap H ∧ hL H cJ z 8 f ∧ NL f i (w / 2 ^ b)) 8 ?_ ?_ 0 _ _ _ (by omega) ?_
  · intro i H locs ls hi ⟨f, hl, hlo, hF, hf, hN⟩ ih
    refine lv_iload hx hb d_C_moveRight_9 (lv_at hl 0 rfl) ?_
    refine lv_bipush (v := nI 8) hx hb d_C_moveRight_11 (by decide) ?_
    refine lv_icmp_ge (tgt := 65) hx hb d_C_moveRight_13 (by decide) (fun hc => absurd hc (nI_ge (by omega) (by omega))) (fun _ => ?_)
    have hd1 := dg_lt w (i + b / 32 + 1)
    have hd2 := dg_lt w (i + b / 32)
    refine lv_aload_n hx hb d_C_moveRight_16 rfl (lv_at hl 3 rfl) ?_
    refine lv_iload hx hb d_C_moveRight_17 (lv_at hl 0 rfl) ?_
    refine lv_iload hx hb d_C_moveRight_19 (lv_at hl 1 rfl) ?_
    refine lv_iadd hx hb d_C_moveRight_21 ?_
    refine x_topi (v := nI (i + b / 32)) (nI_add _ _) ?_
    refine lv_iconst (v := nI 1) hx hb d_C_moveRight_22 (by decide) ?_
    refine lv_iadd hx hb d_C_moveRight_23 ?_
    refine x_topi (v := nI (i + b / 32 + 1)) (nI_1 _) ?_
    refine lv_lload_n hx hb d_C_moveRight_24 rfl (lv_at hl 5 rfl) ?_
    refine x_calll (A := fun q => q = z) (va_runS (As := [.ref x, .int (nI (i + b / 32 + 1)), .long (lN o)]) (rest := []) ⟨hx, hb, hml, hown, htw⟩ (c_limbOr l D cJ cI cQ cR x (nI (i + b / 32 + 1)) (lN o) fx) (xcS 3 htw kw_216 kw_1 kw_214 kw_215 rfl rfl ⟨by decide, by decide, by decide +kernel⟩ ⟨Nat.le_of_ble_eq_true rfl, Nat.le_of_ble_eq_true rfl⟩) (xPre hK (hL_f hX hF hxz)) rfl rfl hl.1 rfl (lv_room (Nat.le_of_ble_eq_true rfl)) d_C_moveRight_25 ⟨Nat.le_of_ble_eq_true rfl, Nat.le_of_ble_eq_true rfl⟩) hlo (fun _ h => h.elim) (fun r1 H1 locs1 hB1 hlo => ?_)
    obtain ⟨rfl, rfl⟩ := hB1
    refine x_topl (v := lN (dg w (i + b / 32 + 1))) (hg _ (by omega)) ?_
    refine lv_bipush (v := nI 32) hx hb d_C_moveRight_28 (by decide) ?_
    refine lv_lshl (v := lN (dg w (i + b / 32 + 1) * 4294967296)) hx hb d_C_moveRight_30 (jN_shl (k := 32) _ (by decide)) ?_
    refine lv_aload_n hx hb d_C_moveRight_31 rfl (lv_at hl 3 rfl) ?_
    refine lv_iload hx hb d_C_moveRight_32 (lv_at hl 0 rfl) ?_
    refine lv_iload hx hb d_C_moveRight_34 (lv_at hl 1 rfl) ?_
    refine lv_iadd hx hb d_C_moveRight_36 ?_
    refine x_topi (v := nI (i + b / 32)) (nI_add _ _) ?_
    refine lv_lload_n hx hb d_C_moveRight_37 rfl (lv_at hl 5 rfl) ?_
    refine x_calll (A := fun q => q = z) (va_runS (As := [.ref x, .int (nI (i + b / 32)), .long (lN o)]) (rest := [.long (lN (dg w (i + b / 32 + 1) * 4294967296))]) ⟨hx, hb, hml, hown, htw⟩ (c_limbOr l D cJ cI cQ cR x (nI (i + b / 32)) (lN o) fx) (xcS 3 htw kw_216 kw_1 kw_214 kw_215 rfl rfl ⟨by decide, by decide, by decide +kernel⟩ ⟨Nat.le_of_ble_eq_true rfl, Nat.le_of_ble_eq_true rfl⟩) (xPre hK (hL_f hX hF hxz)) rfl rfl hl.1 rfl (lv_room (Nat.le_of_ble_eq_true rfl)) d_C_moveRight_38 ⟨Nat.le_of_ble_eq_true rfl, Nat.le_of_ble_eq_true rfl⟩) hlo (fun _ h => h.elim) (fun r2 H2 locs2 hB2 hlo => ?_)
    obtain ⟨rfl, rfl⟩ := hB2
    refine x_topl (v := lN (dg w (i + b / 32))) (hg _ (by omega)) ?_
    refine lv_lor hx hb d_C_moveRight_41 ?_
    refine x_topl (v := lN (dg w (i + b / 32 + 1) * 4294967296 ||| dg w (i + b / 32))) (jN_or _ _) ?_
    have hlt : dg w (i + b / 32 + 1) * 4294967296 ||| dg w (i + b / 32) < 18446744073709551616 := Nat.or_lt_two_pow (n := 64) (by omega) (by omega)
    refine lv_lstore hx hb d_C_moveRight_42 hl (by decide) rfl (fun ls hl => ?_)
    have hl : lv_has ls 9 [(7, .long (lN (dg w (i + b / 32 + 1) * 4294967296 ||| dg w (i + b / 32)))), (6, .int (nI i)), (5, .int (nI (b / 32))), (0, .ref z), (1, .ref x), (2, .int (nI b)), (3, .long (lN o))] := hl
    refine lv_aload_n hx hb d_C_moveRight_44 rfl (lv_at hl 3 rfl) ?_
    refine lv_iload hx hb d_C_moveRight_45 (lv_at hl 1 rfl) ?_
    refine lv_lload hx hb d_C_moveRight_47 (lv_at hl 0 rfl) ?_
    refine lv_iload_n hx hb d_C_moveRight_49 rfl (lv_at hl 5 rfl) ?_
    refine lv_bipush (v := nI 32) hx hb d_C_moveRight_50 (by decide) ?_
    refine lv_irem hx hb d_C_moveRight_52 (by decide) ?_
    refine x_topi (v := nI (b % 32)) (pk_rem (by omega) (by decide) (by decide)) ?_
    refine lv_lushr (v := lN ((dg w (i + b / 32 + 1) * 4294967296 ||| dg w (i + b / 32)) / 2 ^ (b % 32))) hx hb d_C_moveRight_53 (jN_shr hlt (by omega)) ?_
    refine lv_ldc2 (v := (4294967295 : Int64)) hx hb hown (htw _ kw_126) d_C_moveRight_54 ?_
    refine lv_land hx hb d_C_moveRight_57 ?_
    refine x_topl (v := lN (dg (w / 2 ^ b) i)) (by rw [jN_lo, mv_r]) ?_
    refine x_last (A := fun q => q = z) hx hb hJ hf hlo (rfl) (i) (rfl) (by omega) (by omega) d_C_moveRight_58 (fun H3 locs3 h3 hF3 hlo3 => ?_)
    refine lv_iinc (v := nI (i + 1)) (k := 1) hx hb d_C_moveRight_59 hl rfl (nI_1 i) (by decide) rfl (fun ls hl => ?_)
    have hl : lv_has ls 9 [(6, .int (nI (i + 1))), (7, .long (lN (dg w (i + b / 32 + 1) * 4294967296 ||| dg w (i + b / 32)))), (5, .int (nI (b / 32))), (0, .ref z), (1, .ref x), (2, .int (nI b)), (3, .long (lN o))] := hl
    refine lv_goto (tgt := 9) hx hb d_C_moveRight_62 (by decide) ?_
    have hl : lv_has ls 9 [(6, .int (nI (i + 1))), (5, .int (nI (b / 32))), (0, .ref z), (1, .ref x), (2, .int (nI b)), (3, .long (lN o))] := lv_sub hl [0, 2, 3, 4, 5, 6] rfl
    exact ih _ _ ls ⟨_, hl, hlo3, hF.tr hF3 (fun _ h => h), h3, NL_up hN⟩
  · intro H locs ls ⟨f, hl, hlo, hF, hf, hN⟩
    refine lv_iload hx hb d_C_moveRight_9 (lv_at hl 0 rfl) ?_
    refine lv_bipush (v := nI 8) hx hb d_C_moveRight_11 (by decide) ?_
    refine lv_icmp_ge (tgt := 65) hx hb d_C_moveRight_13 (by decide) (fun _ => ?_) (fun hc => absurd (nI_le (Nat.le_refl _) (by omega)) hc)
    exact W.vret hx hb hr (fun t ht hW => ⟨rfl, by rw [ht]; exact hF, f, by rw [ht]; exact hf, hN⟩) hlo d_C_moveRight_65
  · exact ⟨fz, hl, (fun _ h => nomatch h), XF.rf, hz, NL_0⟩
set_option maxHeartbeats 4000000 in
set_option maxRecDepth 100000 in
theorem c_multiply (l : Launch) (D : va_G) (cJ cI cQ cR : ClassId) (z x y n vx vy : Nat) (fz fx fy : Nat → Int64) (hn : n = 8 ∨ n = 16) (hxz : x ≠ z) (hyz : y ≠ z) (hvx : vx < 2 ^ 256) (hvy : vy < 2 ^ 256) (hNx : NL fx 8 vx) (hNy : NL fy 8 vy) : Met l y_C_multiply w_C_multiply { frames := 1, cells := 0, slots := 0, locals := 24 } (xP D vwCl (TY cJ cI cQ cR) [.ref z, .ref x, .ref y] (fun H => hL H cJ z n fz ∧ hL H cJ x 8 fx ∧ hL H cJ y 8 fy)) (xQv (fun H0 H => XF (fun q => q = z) H0 H ∧ ∃ (f : Nat → Int64), hL H cJ z n f ∧ NL f n (vx * vy))) 0 0 (fun q => q = z) := by
  refine Met.ofW (cc := b_C_multiply) (maxL := 9) (ret := none) (by decide) rfl ?_
  intro p e s m args below meth c s₁ B hml hv
  obtain ⟨rfl, hK, ⟨hz, hX, hY⟩⟩ := hv
  have hx := B.exec
  have hb := B.bytes
  have hr := B.returns
  have hts := atoms_spec (ws := w_C_multiply) B.pre
  have htw : ∀ w ∈ WT, w.before _ s = true := fun w h => hts w (List.mem_cons_of_mem _ h)
  have hown : s.vm.findClass "WideNumbers" = some m.cls := findClass_of_methodNamed B.named
  have hlocks := B.notSynchronized
  have hJ : ArrOfT s cJ .long := (hK.2 0 _ rfl).1
  have hI9 : ArrOfT s cI .int := (hK.2 1 _ rfl).1
  have hl := lv_entry ([.ref z, .ref x, .ref y]) (n := 9) (Nat.le_of_ble_eq_true rfl)
  rw [lg_entry_eq]
  generalize (lg_sl ([.ref z, .ref x, .ref y]) ++ List.replicate (9 - (lg_sl ([.ref z, .ref x, .ref y])).length) Slot.unset).toArray = ls at hl ⊢
  have hl : lv_has ls 9 [(0, .ref z), (1, .ref x), (2, .ref y)] := hl
  have hn16 : n ≤ 16 := by omega
  have hlo : ∀ q ∈ ([] : List Loc), (fun q => q = z) q.base := fun _ h => nomatch h
  refine lv_aload_n hx hb d_C_multiply_0 rfl (lv_at hl 0 rfl) ?_
  refine lv_lconst (v := lN 0) hx hb d_C_multiply_1 (by decide) ?_
  refine x_callv (A := fun q => q = z) (va_runS (As := [.ref z, .long (lN 0)]) (rest := []) ⟨hx, hb, hml, hown, htw⟩ (c_fill l D cJ cI cQ cR z n (lN 0) fz hn16) (xcS 2 htw kw_156 kw_7 kw_154 kw_155 rfl rfl ⟨by decide, by decide, by decide +kernel⟩ ⟨Nat.le_of_ble_eq_true rfl, Nat.le_of_ble_eq_true rfl⟩) (xPre hK hz) rfl rfl hl.1 rfl (lv_room (Nat.le_of_ble_eq_true rfl)) d_C_multiply_2 ⟨Nat.le_of_ble_eq_true rfl, Nat.le_of_ble_eq_true rfl⟩) hlo (fun _ h => h) (fun H1 locs1 hB1 hlo => ?_)
  obtain ⟨hF, f0, hf0, hN0⟩ := hB1
  refine lv_iconst (v := nI 0) hx hb d_C_multiply_5 (by decide) ?_
  refine lv_istore_n hx hb d_C_multiply_6 rfl hl (by decide) rfl (fun ls hl => ?_)
  have hl : lv_has ls 9 [(3, .int (nI 0)), (0, .ref z), (1, .ref x), (2, .ref y)] := hl
  have hl : lv_has ls 9 [(3, .int (nI 0)), (0, .ref z), (1, .ref x), (2, .ref y)] := lv_sub hl [0, 1, 2, 3] rfl
  refine x_loop 7 (fun i H locs ls => ∃ (f : Nat → Int64), lv_has ls 9 [(3, .int (nI i)), (0, .ref z), (1, .ref x), (2, .ref y)] ∧ (∀ q ∈ locs, q.base = z) ∧ XF (fun q => q = z) s.heap H ∧ hL H cJ z n f ∧ NL f n (vx % 2 ^ (32 * i) * vy)) 8 ?_ ?_ 0 _ _ _ (by omega) ?_
  · intro i H locs ls hi ⟨f, hl, hlo, hF, hf, hN⟩ ih
    refine lv_iload_n hx hb d_C_multiply_7 rfl (lv_at hl 0 rfl) ?_
    refine lv_bipush (v := nI 8) hx hb d_C_multiply_8 (by decide) ?_
    refine lv_icmp_ge (tgt := 103) hx hb d_C_multiply_10 (by decide) (fun hc => absurd hc (nI_ge (by omega) (by omega))) (fun _ => ?_)
    refine lv_lconst (v := lN 0) hx hb d_C_multiply_13 (by decide) ?_
    refine lv_lstore hx hb d_C_multiply_14 hl (by decide) rfl (fun ls hl => ?_)
    have hl : lv_has ls 9 [(4, .long (lN 0)), (3, .int (nI i)), (0, .ref z), (1, .ref x), (2, .ref y)] := hl
    refine lv_iconst (v := nI 0) hx hb d_C_multiply_16 (by decide) ?_
    refine lv_istore hx hb d_C_multiply_17 hl (by decide) rfl (fun ls hl => ?_)
    have hl : lv_has ls 9 [(6, .int (nI 0)), (4, .long (lN 0)), (3, .int (nI i)), (0, .ref z), (1, .ref x), (2, .ref y)] := hl
    have hl : lv_has ls 9 [(6, .int (nI 0)), (4, .long (lN 0)), (3, .int (nI i)), (0, .ref z), (1, .ref x), (2, .ref y)] := lv_sub hl [0, 1, 2, 3, 4, 5] rfl
    have hd1 := dg_lt vx i
    have hVlt := mo_lt (vx := vx) (i := i) hvy
    have hVs := mo_s vx vy i
    obtain ⟨U, hU⟩ : ∃ U, U = vx % 2 ^ (32 * i) * vy := ⟨_, rfl⟩
    rw [← hU] at hN hVlt hVs
    obtain ⟨N9, hN9, hN9n⟩ : ∃ N9, (n = 16 ∧ N9 = 8 ∨ n = 8 ∧ N9 = 8 - i) ∧ N9 ≤ 8 ∧ i + N9 ≤ n := by
      rcases hn with h | h
      · exact ⟨8 - i, Or.inr ⟨h, rfl⟩, by omega, by omega⟩
      · exact ⟨8, Or.inl ⟨h, rfl⟩, by omega, by omega⟩
    refine x_loop 19 (fun j H locs ls => ∃ (c9 r : Nat) (f : Nat → Int64), lv_has ls 9 [(6, .int (nI j)), (4, .long (lN c9)), (3, .int (nI i)), (0, .ref z), (1, .ref x), (2, .ref y)] ∧ (∀ q ∈ locs, q.base = z) ∧ XF (fun q => q = z) s.heap H ∧ hL H cJ z n f ∧ NL f (i + j) r ∧ (∀ k, i + j ≤ k → k < n → f k = lN (dg U k)) ∧ r < 2 ^ (32 * (i + j)) ∧ r + 2 ^ (32 * (i + j)) * c9 = U % 2 ^ (32 * (i + j)) + 2 ^ (32 * i) * (dg vx i * (vy % 2 ^ (32 * j))) ∧ c9 < 4294967296) N9 ?_ ?_ 0 _ _ _ (by omega) ?_
    · intro j H locs ls hj ⟨c9, r, f, hl, hlo, hF, hf, hN, hhi, hr9, he, hc9⟩ ih2
      refine lv_iload hx hb d_C_multiply_19 (lv_at hl 0 rfl) ?_
      refine lv_bipush (v := nI 8) hx hb d_C_multiply_21 (by decide) ?_
      refine lv_icmp_ge (tgt := 80) hx hb d_C_multiply_23 (by decide) (fun hc => absurd hc (nI_ge (by omega) (by omega))) (fun _ => ?_)
      refine lv_iload_n hx hb d_C_multiply_26 rfl (lv_at hl 2 rfl) ?_
      refine lv_iload hx hb d_C_multiply_27 (lv_at hl 0 rfl) ?_
      refine lv_iadd hx hb d_C_multiply_29 ?_
      refine x_topi (v := nI (i + j)) (nI_add _ _) ?_
      refine lv_aload_n hx hb d_C_multiply_30 rfl (lv_at hl 3 rfl) ?_
      refine x_len hx hb hJ hf d_C_multiply_31 ?_
      refine lv_icmp_ge (tgt := 80) hx hb d_C_multiply_32 (by decide) (fun hc => absurd hc (nI_ge (by omega) (by omega))) (fun _ => ?_)
      refine lv_aload_n hx hb d_C_multiply_35 rfl (lv_at hl 4 rfl) ?_
      refine lv_iload_n hx hb d_C_multiply_36 rfl (lv_at hl 2 rfl) ?_
      refine x_lald hx hb hJ (hL_f hX hF hxz) (i) (rfl) (by omega) (by omega) (v := lN (dg vx i)) (hNx i hi) d_C_multiply_37 ?_
      refine lv_aload_n hx hb d_C_multiply_38 rfl (lv_at hl 5 rfl) ?_
      refine lv_iload hx hb d_C_multiply_39 (lv_at hl 0 rfl) ?_
      refine x_lald hx hb hJ (hL_f hY hF hyz) (j) (rfl) (by omega) (by omega) (v := lN (dg vy j)) (hNy j (by omega)) d_C_multiply_41 ?_
      refine lv_lmul hx hb d_C_multiply_42 ?_
      refine x_topl (v := lN (dg vx i * dg vy j)) (lN_mul _ _) ?_
      refine lv_aload_n hx hb d_C_multiply_43 rfl (lv_at hl 3 rfl) ?_
      refine lv_iload_n hx hb d_C_multiply_44 rfl (lv_at hl 2 rfl) ?_
      refine lv_iload hx hb d_C_multiply_45 (lv_at hl 0 rfl) ?_
      refine lv_iadd hx hb d_C_multiply_47 ?_
      refine x_topi (v := nI (i + j)) (nI_add _ _) ?_
      refine x_lald hx hb hJ hf (i + j) (rfl) (by omega) (by omega) (v := lN (dg U (i + j))) (hhi _ (Nat.le_refl _) (by omega)) d_C_multiply_48 ?_
      refine lv_ladd hx hb d_C_multiply_49 ?_
      refine lv_lload hx hb d_C_multiply_50 (lv_at hl 1 rfl) ?_
      refine lv_ladd hx hb d_C_multiply_52 ?_
      refine x_topl (v := lN (dg vx i * dg vy j + dg U (i + j) + c9)) (by rw [lN_add, lN_add]) ?_
      have hd2 := dg_lt vy j
      have hd3 := dg_lt U (i + j)
      have hm : dg vx i * dg vy j ≤ 4294967295 * 4294967295 := Nat.mul_le_mul (by omega) (by omega)
      obtain ⟨S, hS⟩ : ∃ S, S = dg vx i * dg vy j + dg U (i + j) + c9 := ⟨_, rfl⟩
      rw [← hS]
      have hS64 : S < 18446744073709551616 := by omega
      refine lv_lstore hx hb d_C_multiply_53 hl (by decide) rfl (fun ls hl => ?_)
      have hl : lv_has ls 9 [(7, .long (lN S)), (6, .int (nI j)), (4, .long (lN c9)), (3, .int (nI i)), (0, .ref z), (1, .ref x), (2, .ref y)] := hl
      refine lv_aload_n hx hb d_C_multiply_55 rfl (lv_at hl 4 rfl) ?_
      refine lv_iload_n hx hb d_C_multiply_56 rfl (lv_at hl 3 rfl) ?_
      refine lv_iload hx hb d_C_multiply_57 (lv_at hl 1 rfl) ?_
      refine lv_iadd hx hb d_C_multiply_59 ?_
      refine x_topi (v := nI (i + j)) (nI_add _ _) ?_
      refine lv_lload hx hb d_C_multiply_60 (lv_at hl 0 rfl) ?_
      refine lv_ldc2 (v := (4294967295 : Int64)) hx hb hown (htw _ kw_126) d_C_multiply_62 ?_
      refine lv_land hx hb d_C_multiply_65 ?_
      refine x_topl (v := lN (S % 4294967296)) (jN_lo S) ?_
      refine x_last (A := fun q => q = z) hx hb hJ hf hlo (rfl) (i + j) (rfl) (by omega) (by omega) d_C_multiply_66 (fun H1 locs1 h1 hF1 hlo1 => ?_)
      refine lv_lload hx hb d_C_multiply_67 (lv_at hl 0 rfl) ?_
      refine lv_bipush (v := nI 32) hx hb d_C_multiply_69 (by decide) ?_
      refine lv_lushr (v := lN (S / 4294967296)) hx hb d_C_multiply_71 (jN_shr (k := 32) hS64 (by decide)) ?_
      refine lv_lstore hx hb d_C_multiply_72 hl (by decide) rfl (fun ls hl => ?_)
      have hl : lv_has ls 9 [(4, .long (lN (S / 4294967296))), (7, .long (lN S)), (6, .int (nI j)), (3, .int (nI i)), (0, .ref z), (1, .ref x), (2, .ref y)] := hl
      refine lv_iinc (v := nI (j + 1)) (k := 2) hx hb d_C_multiply_74 hl rfl (nI_1 j) (by decide) rfl (fun ls hl => ?_)
      have hl : lv_has ls 9 [(6, .int (nI (j + 1))), (4, .long (lN (S / 4294967296))), (7, .long (lN S)), (3, .int (nI i)), (0, .ref z), (1, .ref x), (2, .ref y)] := hl
      refine lv_goto (tgt := 19) hx hb d_C_multiply_77 (by decide) ?_
      have hl : lv_has ls 9 [(6, .int (nI (j + 1))), (4, .long (lN (S / 4294967296))), (3, .int (nI i)), (0, .ref z), (1, .ref x), (2, .ref y)] := lv_sub hl [0, 1, 3, 4, 5, 6] rfl
      refine ih2 H1 locs1 ls ⟨S / 4294967296, r + 2 ^ (32 * (i + j)) * (S % 4294967296), _, hl, hlo1, hF.tr hF1 (fun _ h => h), h1, NL_put hN hr9 (Nat.mod_lt _ (by decide)), fun k hk hkn => by rw [pk_uLn (by omega)]; exact hhi k (by omega) hkn, dg_alt hr9 (Nat.mod_lt _ (by decide)), ?_, by omega⟩
      rw [show i + (j + 1) = (i + j) + 1 from rfl, dg_mods, dg_mods vy j, pw_s]
      exact st_mul (show 2 ^ (32 * (i + j)) = 2 ^ (32 * i) * 2 ^ (32 * j) by rw [← Nat.pow_add]; congr 1; omega) he (by rw [← hS]; exact Nat.mod_add_div S 4294967296)
    · intro H locs ls ⟨c9, r, f, hl, hlo, hF, hf, hN, hhi, hr9, he, hc9⟩
      refine x_cut 80 (fun H0 locs0 ls0 => H0 = H ∧ locs0 = locs ∧ lv_has ls0 9 [(6, .int (nI N9)), (4, .long (lN c9)), (3, .int (nI i)), (0, .ref z), (1, .ref x), (2, .ref y)]) ?_ (fun J => ?_)
      · rintro H0 locs0 ls ⟨rfl, rfl, hl⟩
        refine lv_iload_n hx hb d_C_multiply_80 rfl (lv_at hl 2 rfl) ?_
        refine lv_bipush (v := nI 8) hx hb d_C_multiply_81 (by decide) ?_
        refine lv_iadd hx hb d_C_multiply_83 ?_
        refine x_topi (v := nI (i + 8)) (nI_add _ _) ?_
        refine lv_aload_n hx hb d_C_multiply_84 rfl (lv_at hl 3 rfl) ?_
        refine x_len hx hb hJ hf d_C_multiply_85 ?_
        refine lv_icmp_ge (tgt := 97) hx hb d_C_multiply_86 (by decide) (fun hc => ?_) (fun hc => ?_)
        · have h8 : n = 8 := by
            rcases hn with h | h
            · exact h
            · exact absurd hc (nI_ge (by omega) (by omega))
          have hN98 : N9 = 8 - i := by omega
          rw [hN98] at hN hr9 he
          rw [show i + (8 - i) = 8 by omega] at hN hr9
          have hrr := mo_8 (by omega) hr9 he
          rw [← hVs] at hrr
          refine lv_iinc (v := nI (i + 1)) (k := 2) hx hb d_C_multiply_97 hl rfl (nI_1 i) (by decide) rfl (fun ls hl => ?_)
          have hl : lv_has ls 9 [(3, .int (nI (i + 1))), (6, .int (nI N9)), (4, .long (lN c9)), (0, .ref z), (1, .ref x), (2, .ref y)] := hl
          refine lv_goto (tgt := 7) hx hb d_C_multiply_100 (by decide) ?_
          have hl : lv_has ls 9 [(3, .int (nI (i + 1))), (0, .ref z), (1, .ref x), (2, .ref y)] := lv_sub hl [0, 3, 4, 5] rfl
          exact ih _ _ ls ⟨f, hl, hlo, hF, hf, fun q hq => by
            rw [hN q (by omega), hrr, show (2 : Nat) ^ 256 = 2 ^ (32 * 8) from rfl, dg_mod (by omega)]⟩
        · have h16 : n = 16 := by
            rcases hn with h | h
            · exact absurd (nI_le (show n ≤ i + 8 by omega) (by omega)) hc
            · exact h
          have hN98 : N9 = 8 := by omega
          rw [hN98] at hN hr9 he hhi
          have hrr := mo_16 hVlt hvy he
          rw [← hVs] at hrr
          refine lv_aload_n hx hb d_C_multiply_89 rfl (lv_at hl 3 rfl) ?_
          refine lv_iload_n hx hb d_C_multiply_90 rfl (lv_at hl 2 rfl) ?_
          refine lv_bipush (v := nI 8) hx hb d_C_multiply_91 (by decide) ?_
          refine lv_iadd hx hb d_C_multiply_93 ?_
          refine x_topi (v := nI (i + 8)) (nI_add _ _) ?_
          refine lv_lload hx hb d_C_multiply_94 (lv_at hl 1 rfl) ?_
          refine x_last (A := fun q => q = z) hx hb hJ hf hlo (rfl) (i + 8) (rfl) (by omega) (by omega) d_C_multiply_96 (fun H1 locs1 h1 hF1 hlo1 => ?_)
          refine lv_iinc (v := nI (i + 1)) (k := 2) hx hb d_C_multiply_97 hl rfl (nI_1 i) (by decide) rfl (fun ls hl => ?_)
          have hl : lv_has ls 9 [(3, .int (nI (i + 1))), (6, .int (nI N9)), (4, .long (lN c9)), (0, .ref z), (1, .ref x), (2, .ref y)] := hl
          refine lv_goto (tgt := 7) hx hb d_C_multiply_100 (by decide) ?_
          have hl : lv_has ls 9 [(3, .int (nI (i + 1))), (0, .ref z), (1, .ref x), (2, .ref y)] := lv_sub hl [0, 3, 4, 5] rfl
          have hN1 := NL_put hN hr9 hc9
          rw [hrr] at hN1
          refine ih _ _ ls ⟨_, hl, hlo1, hF.tr hF1 (fun _ h => h), h1, fun q hq => ?_⟩
          by_cases hq8 : q < i + 8 + 1
          · exact hN1 q hq8
          · rw [pk_uLn (by omega), hhi q (by omega) hq, dg_big (Nat.lt_of_lt_of_le hVlt (pw_le (by omega))), dg_big (Nat.lt_of_lt_of_le (mo_lt hvy) (pw_le (by omega)))]
      · by_cases h89 : N9 = 8
        · refine lv_iload hx hb d_C_multiply_19 (lv_at hl 0 rfl) ?_
          refine lv_bipush (v := nI 8) hx hb d_C_multiply_21 (by decide) ?_
          refine lv_icmp_ge (tgt := 80) hx hb d_C_multiply_23 (by decide) (fun _ => ?_) (fun hc => absurd (nI_le (show 8 ≤ N9 by omega) (by omega)) hc)
          exact J _ _ ls ⟨rfl, rfl, hl⟩
        · refine lv_iload hx hb d_C_multiply_19 (lv_at hl 0 rfl) ?_
          refine lv_bipush (v := nI 8) hx hb d_C_multiply_21 (by decide) ?_
          refine lv_icmp_ge (tgt := 80) hx hb d_C_multiply_23 (by decide) (fun hc => absurd hc (nI_ge (by omega) (by omega))) (fun _ => ?_)
          refine lv_iload_n hx hb d_C_multiply_26 rfl (lv_at hl 2 rfl) ?_
          refine lv_iload hx hb d_C_multiply_27 (lv_at hl 0 rfl) ?_
          refine lv_iadd hx hb d_C_multiply_29 ?_
          refine x_topi (v := nI (i + N9)) (nI_add _ _) ?_
          refine lv_aload_n hx hb d_C_multiply_30 rfl (lv_at hl 3 rfl) ?_
          refine x_len hx hb hJ hf d_C_multiply_31 ?_
          refine lv_icmp_ge (tgt := 80) hx hb d_C_multiply_32 (by decide) (fun _ => ?_) (fun hc => absurd (nI_le (show n ≤ i + N9 by omega) (by omega)) hc)
          exact J _ _ ls ⟨rfl, rfl, hl⟩
    · exact ⟨0, U % 2 ^ (32 * i), f, hl, hlo, hF, hf, NL_cut hN (by omega), fun k hk hkn => hN k hkn, Nat.mod_lt _ (pw_pos _), by simp [Nat.mod_one], by decide⟩
  · intro H locs ls ⟨f, hl, hlo, hF, hf, hN⟩
    refine lv_iload_n hx hb d_C_multiply_7 rfl (lv_at hl 0 rfl) ?_
    refine lv_bipush (v := nI 8) hx hb d_C_multiply_8 (by decide) ?_
    refine lv_icmp_ge (tgt := 103) hx hb d_C_multiply_10 (by decide) (fun _ => ?_) (fun hc => absurd (nI_le (Nat.le_refl _) (by omega)) hc)
    rw [Nat.mod_eq_of_lt (show vx < 2 ^ (32 * 8) from hvx)] at hN
    exact W.vret hx hb hr (fun t ht hW => ⟨rfl, by rw [ht]; exact hF, f, by rw [ht]; exact hf, hN⟩) hlo d_C_multiply_103
  · exact ⟨f0, hl, hlo, hF, hf0, fun j hj => by rw [hN0 j hj, show 2 ^ (32 * 0) = 1 from rfl, Nat.mod_one, Nat.zero_mul, dg_0]⟩
