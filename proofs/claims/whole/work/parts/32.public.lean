-- contracts of the public methods
set_option maxHeartbeats 4000000 in
set_option maxRecDepth 100000 in
theorem c_get (l : Launch) (D : va_G) (cJ cI cQ cR : ClassId) (b0 sa : Nat) (hst : l.stackTraces = false) (o : Nat) (V : Nat → Nat) (hV : ∀ r, r < 16 → V r < 2 ^ 256) (r pt : Int32) : vx_Met l y_C_get w_C_get { frames := 8, cells := 2, slots := 12, locals := 131 } (xPX D vwCl (TY cJ cI cQ cR) b0 sa [.ref o, .int r, .int pt] (fun H => CO D cJ cQ o V H)) (xQl (fun x H0 H => H = H0 ∧ ∃ kr kp : Nat, kr < 16 ∧ r = nI kr ∧ kp < 4 ∧ pt = nI kp ∧ x = lN (gp (V kr) kp))) (xX (fun H0 H => ¬ (vd r 16 ∧ vd pt 4) ∧ XF (fun _ => False) H0 H)) 2 12 (CA o) := by
  refine vx_ofW (cc := b_C_get) (maxL := 4) (ret := some .long) (by decide) rfl ?_
  intro p e s m args below meth c s₁ B hml hno hv
  obtain ⟨rfl, hK, hE, ⟨hO, hSC, hR⟩⟩ := hv
  have hx := B.exec
  have hb := B.bytes
  have hr := B.returns
  have hts := atoms_spec (ws := w_C_get) B.pre
  have htw : ∀ w ∈ WT, w.before _ s = true := fun w h => hts w (List.mem_cons_of_mem _ h)
  have hown : s.vm.findClass "WideNumbers" = some m.cls := findClass_of_methodNamed B.named
  have hlocks := B.notSynchronized
  have hJ : ArrOfT s cJ .long := (hK.2 0 _ rfl).1
  have hI9 : ArrOfT s cI .int := (hK.2 1 _ rfl).1
  have hQ9 : ArrOfT s cQ (.array .long) := (hK.2 2 _ rfl).1
  have hl := lv_entry ([.ref o, .int r, .int pt]) (n := 4) (Nat.le_of_ble_eq_true rfl)
  rw [lg_entry_eq]
  generalize (lg_sl ([.ref o, .int r, .int pt]) ++ List.replicate (4 - (lg_sl ([.ref o, .int r, .int pt])).length) Slot.unset).toArray = ls at hl ⊢
  have hl : lv_has ls 4 [(0, .ref o), (1, .int r), (2, .int pt)] := hl
  have hlo : ∀ q ∈ ([] : List Loc), CA o q.base := fun _ h => nomatch h
  refine lv_iload_n hx hb d_C_get_0 rfl (lv_at hl 1 rfl) ?_
  refine lv_bipush (v := nI 16) hx hb d_C_get_1 (by decide) ?_
  refine x_xcallv (A := CA o) (vx_runS (As := [.int r, .int (nI 16)]) (rest := []) ⟨hx, hb, hml, hown, htw⟩ (c_refuse l D cJ cI cQ cR b0 sa hst r 16 (by decide)) (xcS 2 htw kw_53 kw_1 kw_51 kw_52 rfl rfl ⟨by decide, by decide, by decide +kernel⟩ ⟨Nat.le_of_ble_eq_true rfl, Nat.le_of_ble_eq_true rfl⟩) (xPreX hK hE (fun _ _ _ => rfl) trivial) rfl rfl hl.1 rfl (lv_room (Nat.le_of_ble_eq_true rfl)) d_C_get_3 ⟨Nat.le_of_ble_eq_true rfl, Nat.le_of_ble_eq_true rfl⟩) hlo (fun _ h => h.elim) (fun q9 ce H1 locs1 hB1 hlo hc9 hv9 hcl9 => ?_) (fun H1 locs1 hB1 hlo => ?_)
  · obtain ⟨hinv, hF⟩ := hB1
    exact vx_out (fun x hx => (hno x hx).elim) hlocks hc9 hv9 hcl9 (fun t ht _ => ⟨rfl, fun h => hinv h.1, by rw [ht]; exact hF⟩) hlo (by decide) (by decide)
  obtain ⟨rfl, kr, hkr, rfl⟩ := hB1
  have hl : lv_has ls 4 [(0, .ref o), (1, .int (nI kr)), (2, .int pt)] := hl
  refine lv_iload_n hx hb d_C_get_6 rfl (lv_at hl 2 rfl) ?_
  refine lv_iconst (v := nI 4) hx hb d_C_get_7 (by decide) ?_
  refine x_xcallv (A := CA o) (vx_runS (As := [.int pt, .int (nI 4)]) (rest := []) ⟨hx, hb, hml, hown, htw⟩ (c_refuse l D cJ cI cQ cR b0 sa hst pt 4 (by decide)) (xcS 2 htw kw_53 kw_1 kw_51 kw_52 rfl rfl ⟨by decide, by decide, by decide +kernel⟩ ⟨Nat.le_of_ble_eq_true rfl, Nat.le_of_ble_eq_true rfl⟩) (xPreX hK hE (fun _ _ _ => rfl) trivial) rfl rfl hl.1 rfl (lv_room (Nat.le_of_ble_eq_true rfl)) d_C_get_8 ⟨Nat.le_of_ble_eq_true rfl, Nat.le_of_ble_eq_true rfl⟩) hlo (fun _ h => h.elim) (fun q9 ce H1 locs1 hB1 hlo hc9 hv9 hcl9 => ?_) (fun H1 locs1 hB1 hlo => ?_)
  · obtain ⟨hinv, hF⟩ := hB1
    exact vx_out (fun x hx => (hno x hx).elim) hlocks hc9 hv9 hcl9 (fun t ht _ => ⟨rfl, fun h => hinv h.2, by rw [ht]; exact hF⟩) hlo (by decide) (by decide)
  obtain ⟨rfl, kp, hkp, rfl⟩ := hB1
  have hl : lv_has ls 4 [(0, .ref o), (1, .int (nI kr)), (2, .int (nI kp))] := hl
  obtain ⟨fkr, h_kr, hNkr⟩ := hR kr hkr
  have hvkr := hV kr hkr
  refine lv_iload_n hx hb d_C_get_11 rfl (lv_at hl 2 rfl) ?_
  refine x_calli (A := CA o) (va_runS (As := [.int (nI kp)]) (rest := []) ⟨hx, hb, hml, hown, htw⟩ (c_lowLimb l D cJ cI cQ cR kp hkp) (xcS 1 htw kw_125 kw_1 kw_123 kw_124 rfl rfl ⟨by decide, by decide, by decide +kernel⟩ ⟨Nat.le_of_ble_eq_true rfl, Nat.le_of_ble_eq_true rfl⟩) (xPre hK trivial) rfl rfl hl.1 rfl (lv_room (Nat.le_of_ble_eq_true rfl)) d_C_get_12 ⟨Nat.le_of_ble_eq_true rfl, Nat.le_of_ble_eq_true rfl⟩) hlo (fun _ h => h.elim) (fun r2 H2 locs2 hB2 hlo => ?_)
  obtain ⟨rfl, rfl⟩ := hB2
  refine lv_istore_n hx hb d_C_get_15 rfl hl (by decide) rfl (fun ls hl => ?_)
  have hl : lv_has ls 4 [(3, .int (nI (2 * (3 - kp)))), (0, .ref o), (1, .int (nI kr)), (2, .int (nI kp))] := hl
  refine lv_aload_n hx hb d_C_get_16 rfl (lv_at hl 1 rfl) ?_
  refine va_get (D := D) (ci := 0) (v := .ref (o + 1)) (C := "WideNumbers") (T := F_C) (N := 7) hx hb htw inC hown hK hO.1 0 rfl rfl 0 (by decide) (htw _ kw_20) (fun _ h9 => h9) rfl d_C_get_17 ?_
  refine lv_iload_n hx hb d_C_get_20 rfl (lv_at hl 2 rfl) ?_
  refine x_aald hx hb rfl hQ9 hO.2 kr rfl hkr (by omega) (v := o + 2 + kr) (if_pos hkr) d_C_get_21 ?_
  refine lv_iload_n hx hb d_C_get_22 rfl (lv_at hl 0 rfl) ?_
  refine lv_iconst (v := nI 1) hx hb d_C_get_23 (by decide) ?_
  refine lv_iadd hx hb d_C_get_24 ?_
  refine x_topi (v := nI (2 * (3 - kp) + 1)) (nI_1 _) ?_
  refine x_lald hx hb hJ h_kr (2 * (3 - kp) + 1) (rfl) (by omega) (by omega) (v := lN (dg (V kr) (2 * (3 - kp) + 1))) (hNkr _ (by omega)) d_C_get_25 ?_
  refine lv_bipush (v := nI 32) hx hb d_C_get_26 (by decide) ?_
  refine lv_lshl (v := lN (dg (V kr) (2 * (3 - kp) + 1) * 4294967296)) hx hb d_C_get_28 (jN_shl (k := 32) _ (by decide)) ?_
  refine lv_aload_n hx hb d_C_get_29 rfl (lv_at hl 1 rfl) ?_
  refine va_get (D := D) (ci := 0) (v := .ref (o + 1)) (C := "WideNumbers") (T := F_C) (N := 7) hx hb htw inC hown hK hO.1 0 rfl rfl 0 (by decide) (htw _ kw_20) (fun _ h9 => h9) rfl d_C_get_30 ?_
  refine lv_iload_n hx hb d_C_get_33 rfl (lv_at hl 2 rfl) ?_
  refine x_aald hx hb rfl hQ9 hO.2 kr rfl hkr (by omega) (v := o + 2 + kr) (if_pos hkr) d_C_get_34 ?_
  refine lv_iload_n hx hb d_C_get_35 rfl (lv_at hl 0 rfl) ?_
  refine x_lald hx hb hJ h_kr (2 * (3 - kp)) (rfl) (by omega) (by omega) (v := lN (dg (V kr) (2 * (3 - kp)))) (hNkr _ (by omega)) d_C_get_36 ?_
  refine lv_lor hx hb d_C_get_37 ?_
  refine x_topl (v := lN (gp (V kr) kp)) (jN_or _ _) ?_
  exact vx_ret (W.lret hx hb hr (fun t ht hW => ⟨_, rfl, ht, kr, kp, hkr, rfl, hkp, rfl, rfl⟩) hlo d_C_get_38)
set_option maxHeartbeats 4000000 in
set_option maxRecDepth 100000 in
theorem c_set (l : Launch) (D : va_G) (cJ cI cQ cR : ClassId) (b0 sa : Nat) (hst : l.stackTraces = false) (o : Nat) (V : Nat → Nat) (hV : ∀ r, r < 16 → V r < 2 ^ 256) (r : Int32) (p0 p1 p2 p3 : Nat) (h0 : p0 < 18446744073709551616) (h1 : p1 < 18446744073709551616) (h2 : p2 < 18446744073709551616) (h3 : p3 < 18446744073709551616) : vx_Met l y_C_set w_C_set { frames := 8, cells := 1, slots := 6, locals := 131 } (xPX D vwCl (TY cJ cI cQ cR) b0 sa [.ref o, .int r, .long (lN p0), .long (lN p1), .long (lN p2), .long (lN p3)] (fun H => CO D cJ cQ o V H)) (xQv (fun H0 H => XF (CA o) H0 H ∧ ∃ kr : Nat, kr < 16 ∧ r = nI kr ∧ CO D cJ cQ o (va_up V kr (sv p0 p1 p2 p3)) H)) (xX (fun H0 H => ¬ vd r 16 ∧ XF (fun _ => False) H0 H)) 1 6 (CA o) := by
  refine vx_ofW (cc := b_C_set) (maxL := 10) (ret := none) (by decide) rfl ?_
  intro p e s m args below meth c s₁ B hml hno hv
  obtain ⟨rfl, hK, hE, ⟨hO, hSC, hR⟩⟩ := hv
  have hx := B.exec
  have hb := B.bytes
  have hr := B.returns
  have hts := atoms_spec (ws := w_C_set) B.pre
  have htw : ∀ w ∈ WT, w.before _ s = true := fun w h => hts w (List.mem_cons_of_mem _ h)
  have hown : s.vm.findClass "WideNumbers" = some m.cls := findClass_of_methodNamed B.named
  have hlocks := B.notSynchronized
  have hJ : ArrOfT s cJ .long := (hK.2 0 _ rfl).1
  have hI9 : ArrOfT s cI .int := (hK.2 1 _ rfl).1
  have hQ9 : ArrOfT s cQ (.array .long) := (hK.2 2 _ rfl).1
  have hl := lv_entry ([.ref o, .int r, .long (lN p0), .long (lN p1), .long (lN p2), .long (lN p3)]) (n := 10) (Nat.le_of_ble_eq_true rfl)
  rw [lg_entry_eq]
  generalize (lg_sl ([.ref o, .int r, .long (lN p0), .long (lN p1), .long (lN p2), .long (lN p3)]) ++ List.replicate (10 - (lg_sl ([.ref o, .int r, .long (lN p0), .long (lN p1), .long (lN p2), .long (lN p3)])).length) Slot.unset).toArray = ls at hl ⊢
  have hl : lv_has ls 10 [(0, .ref o), (1, .int r), (2, .long (lN p0)), (4, .long (lN p1)), (6, .long (lN p2)), (8, .long (lN p3))] := hl
  have hlo : ∀ q ∈ ([] : List Loc), CA o q.base := fun _ h => nomatch h
  refine lv_iload_n hx hb d_C_set_0 rfl (lv_at hl 1 rfl) ?_
  refine lv_bipush (v := nI 16) hx hb d_C_set_1 (by decide) ?_
  refine x_xcallv (A := CA o) (vx_runS (As := [.int r, .int (nI 16)]) (rest := []) ⟨hx, hb, hml, hown, htw⟩ (c_refuse l D cJ cI cQ cR b0 sa hst r 16 (by decide)) (xcS 2 htw kw_53 kw_1 kw_51 kw_52 rfl rfl ⟨by decide, by decide, by decide +kernel⟩ ⟨Nat.le_of_ble_eq_true rfl, Nat.le_of_ble_eq_true rfl⟩) (xPreX hK hE (fun _ _ _ => rfl) trivial) rfl rfl hl.1 rfl (lv_room (Nat.le_of_ble_eq_true rfl)) d_C_set_3 ⟨Nat.le_of_ble_eq_true rfl, Nat.le_of_ble_eq_true rfl⟩) hlo (fun _ h => h.elim) (fun q9 ce H1 locs1 hB1 hlo hc9 hv9 hcl9 => ?_) (fun H1 locs1 hB1 hlo => ?_)
  · obtain ⟨hinv, hF⟩ := hB1
    exact vx_out (fun x hx => (hno x hx).elim) hlocks hc9 hv9 hcl9 (fun t ht _ => ⟨rfl, hinv, by rw [ht]; exact hF⟩) hlo (by decide) (by decide)
  obtain ⟨rfl, kr, hkr, rfl⟩ := hB1
  have hl : lv_has ls 10 [(0, .ref o), (1, .int (nI kr)), (2, .long (lN p0)), (4, .long (lN p1)), (6, .long (lN p2)), (8, .long (lN p3))] := hl
  obtain ⟨fkr, h_kr, hNkr⟩ := hR kr hkr
  have hvkr := hV kr hkr
  have hG : XF (fun q => q = o + 2 + kr) s.heap s.heap := XF.rf
  refine lv_aload_n hx hb d_C_set_6 rfl (lv_at hl 0 rfl) ?_
  refine va_get (D := D) (ci := 0) (v := .ref (o + 1)) (C := "WideNumbers") (T := F_C) (N := 7) hx hb htw inC hown hK hO.1 0 rfl rfl 0 (by decide) (htw _ kw_20) (fun _ h9 => h9) rfl d_C_set_7 ?_
  refine lv_iload_n hx hb d_C_set_10 rfl (lv_at hl 1 rfl) ?_
  refine x_aald hx hb rfl hQ9 hO.2 kr rfl hkr (by omega) (v := o + 2 + kr) (if_pos hkr) d_C_set_11 ?_
  refine lv_iconst (v := nI 0) hx hb d_C_set_12 (by decide) ?_
  refine lv_lload_n hx hb d_C_set_13 rfl (lv_at hl 2 rfl) ?_
  refine x_callv (A := CA o) (va_runS (As := [.ref (o + 2 + kr), .int (nI 0), .long (lN p0)]) (rest := []) ⟨hx, hb, hml, hown, htw⟩ (c_writePart l D cJ cI cQ cR (o + 2 + kr) 0 p0 _ (by decide) h0) (xcS 3 htw kw_122 kw_1 kw_120 kw_121 rfl rfl ⟨by decide, by decide, by decide +kernel⟩ ⟨Nat.le_of_ble_eq_true rfl, Nat.le_of_ble_eq_true rfl⟩) (xPre hK h_kr) rfl rfl hl.1 rfl (lv_room (Nat.le_of_ble_eq_true rfl)) d_C_set_14 ⟨Nat.le_of_ble_eq_true rfl, Nat.le_of_ble_eq_true rfl⟩) hlo (fun q h => by have h : q = o + 2 + kr := h; rw [h]; exact ⟨by omega, by omega⟩) (fun G0 locg0 hB0 hlo => ?_)
  obtain ⟨hF0, h_kr⟩ := hB0
  have hO := hO.f1 hF0 (by omega)
  have hG := hG.tr hF0 (fun _ h => h)
  refine lv_aload_n hx hb d_C_set_17 rfl (lv_at hl 0 rfl) ?_
  refine va_get (D := D) (ci := 0) (v := .ref (o + 1)) (C := "WideNumbers") (T := F_C) (N := 7) hx hb htw inC hown hK hO.1 0 rfl rfl 0 (by decide) (htw _ kw_20) (fun _ h9 => h9) rfl d_C_set_18 ?_
  refine lv_iload_n hx hb d_C_set_21 rfl (lv_at hl 1 rfl) ?_
  refine x_aald hx hb rfl hQ9 hO.2 kr rfl hkr (by omega) (v := o + 2 + kr) (if_pos hkr) d_C_set_22 ?_
  refine lv_iconst (v := nI 1) hx hb d_C_set_23 (by decide) ?_
  refine lv_lload hx hb d_C_set_24 (lv_at hl 3 rfl) ?_
  refine x_callv (A := CA o) (va_runS (As := [.ref (o + 2 + kr), .int (nI 1), .long (lN p1)]) (rest := []) ⟨hx, hb, hml, hown, htw⟩ (c_writePart l D cJ cI cQ cR (o + 2 + kr) 1 p1 _ (by decide) h1) (xcS 3 htw kw_122 kw_1 kw_120 kw_121 rfl rfl ⟨by decide, by decide, by decide +kernel⟩ ⟨Nat.le_of_ble_eq_true rfl, Nat.le_of_ble_eq_true rfl⟩) (xPre hK h_kr) rfl rfl hl.1 rfl (lv_room (Nat.le_of_ble_eq_true rfl)) d_C_set_26 ⟨Nat.le_of_ble_eq_true rfl, Nat.le_of_ble_eq_true rfl⟩) hlo (fun q h => by have h : q = o + 2 + kr := h; rw [h]; exact ⟨by omega, by omega⟩) (fun G1 locg1 hB1 hlo => ?_)
  obtain ⟨hF1, h_kr⟩ := hB1
  have hO := hO.f1 hF1 (by omega)
  have hG := hG.tr hF1 (fun _ h => h)
  refine lv_aload_n hx hb d_C_set_29 rfl (lv_at hl 0 rfl) ?_
  refine va_get (D := D) (ci := 0) (v := .ref (o + 1)) (C := "WideNumbers") (T := F_C) (N := 7) hx hb htw inC hown hK hO.1 0 rfl rfl 0 (by decide) (htw _ kw_20) (fun _ h9 => h9) rfl d_C_set_30 ?_
  refine lv_iload_n hx hb d_C_set_33 rfl (lv_at hl 1 rfl) ?_
  refine x_aald hx hb rfl hQ9 hO.2 kr rfl hkr (by omega) (v := o + 2 + kr) (if_pos hkr) d_C_set_34 ?_
  refine lv_iconst (v := nI 2) hx hb d_C_set_35 (by decide) ?_
  refine lv_lload hx hb d_C_set_36 (lv_at hl 4 rfl) ?_
  refine x_callv (A := CA o) (va_runS (As := [.ref (o + 2 + kr), .int (nI 2), .long (lN p2)]) (rest := []) ⟨hx, hb, hml, hown, htw⟩ (c_writePart l D cJ cI cQ cR (o + 2 + kr) 2 p2 _ (by decide) h2) (xcS 3 htw kw_122 kw_1 kw_120 kw_121 rfl rfl ⟨by decide, by decide, by decide +kernel⟩ ⟨Nat.le_of_ble_eq_true rfl, Nat.le_of_ble_eq_true rfl⟩) (xPre hK h_kr) rfl rfl hl.1 rfl (lv_room (Nat.le_of_ble_eq_true rfl)) d_C_set_38 ⟨Nat.le_of_ble_eq_true rfl, Nat.le_of_ble_eq_true rfl⟩) hlo (fun q h => by have h : q = o + 2 + kr := h; rw [h]; exact ⟨by omega, by omega⟩) (fun G2 locg2 hB2 hlo => ?_)
  obtain ⟨hF2, h_kr⟩ := hB2
  have hO := hO.f1 hF2 (by omega)
  have hG := hG.tr hF2 (fun _ h => h)
  refine lv_aload_n hx hb d_C_set_41 rfl (lv_at hl 0 rfl) ?_
  refine va_get (D := D) (ci := 0) (v := .ref (o + 1)) (C := "WideNumbers") (T := F_C) (N := 7) hx hb htw inC hown hK hO.1 0 rfl rfl 0 (by decide) (htw _ kw_20) (fun _ h9 => h9) rfl d_C_set_42 ?_
  refine lv_iload_n hx hb d_C_set_45 rfl (lv_at hl 1 rfl) ?_
  refine x_aald hx hb rfl hQ9 hO.2 kr rfl hkr (by omega) (v := o + 2 + kr) (if_pos hkr) d_C_set_46 ?_
  refine lv_iconst (v := nI 3) hx hb d_C_set_47 (by decide) ?_
  refine lv_lload hx hb d_C_set_48 (lv_at hl 5 rfl) ?_
  refine x_callv (A := CA o) (va_runS (As := [.ref (o + 2 + kr), .int (nI 3), .long (lN p3)]) (rest := []) ⟨hx, hb, hml, hown, htw⟩ (c_writePart l D cJ cI cQ cR (o + 2 + kr) 3 p3 _ (by decide) h3) (xcS 3 htw kw_122 kw_1 kw_120 kw_121 rfl rfl ⟨by decide, by decide, by decide +kernel⟩ ⟨Nat.le_of_ble_eq_true rfl, Nat.le_of_ble_eq_true rfl⟩) (xPre hK h_kr) rfl rfl hl.1 rfl (lv_room (Nat.le_of_ble_eq_true rfl)) d_C_set_50 ⟨Nat.le_of_ble_eq_true rfl, Nat.le_of_ble_eq_true rfl⟩) hlo (fun q h => by have h : q = o + 2 + kr := h; rw [h]; exact ⟨by omega, by omega⟩) (fun G3 locg3 hB3 hlo => ?_)
  obtain ⟨hF3, h_kr⟩ := hB3
  have hO := hO.f1 hF3 (by omega)
  have hG := hG.tr hF3 (fun _ h => h)
  have hd := sv_dg h0 h1 h2 h3
  have hR2 := hR.put hG h_kr (v := sv p0 p1 p2 p3) (fun j hj => by
    rcases j8 hj with rfl | rfl | rfl | rfl | rfl | rfl | rfl | rfl <;> simp [vp_updL, hd])
  exact vx_ret (W.vret hx hb hr (fun t ht hW => ⟨rfl, by rw [ht]; exact hG.wk (fun q h => by have h : q = o + 2 + kr := h; rw [h]; exact ⟨by omega, by omega⟩), kr, hkr, rfl, by rw [ht]; exact ⟨hO, hSC.f1 hG (by omega), hR2⟩⟩) hlo d_C_set_53)
set_option maxHeartbeats 4000000 in
set_option maxRecDepth 100000 in
theorem c_two (l : Launch) (D : va_G) (cJ cI cQ cR : ClassId) (b0 sa : Nat) (hst : l.stackTraces = false) (o : Nat) (V : Nat → Nat) (hV : ∀ r, r < 16 → V r < 2 ^ 256) (op to a b : Int32) : vx_Met l y_C_two w_C_two { frames := 8, cells := 4, slots := 24, locals := 152 } (xPX D vwCl (TY cJ cI cQ cR) b0 sa [.ref o, .int op, .int to, .int a, .int b] (fun H => CO D cJ cQ o V H)) (xQv (fun H0 H => XF (CA o) H0 H ∧ ∃ ko kt ka kb : Nat, ko < 16 ∧ op = nI ko ∧ kt < 16 ∧ to = nI kt ∧ ka < 16 ∧ a = nI ka ∧ kb < 16 ∧ b = nI kb ∧ CO D cJ cQ o (va_up V kt (opv ko (V ka) (V kb))) H)) (xX (fun H0 H => ¬ (vd op 16 ∧ vd to 16 ∧ vd a 16 ∧ vd b 16) ∧ XF (fun _ => False) H0 H)) 4 24 (CA o) := by
  refine vx_ofW (cc := b_C_two) (maxL := 5) (ret := none) (by decide) rfl ?_
  intro p e s m args below meth c s₁ B hml hno hv
  obtain ⟨rfl, hK, hE, ⟨hO, hSC, hR⟩⟩ := hv
  have hx := B.exec
  have hb := B.bytes
  have hr := B.returns
  have hts := atoms_spec (ws := w_C_two) B.pre
  have htw : ∀ w ∈ WT, w.before _ s = true := fun w h => hts w (List.mem_cons_of_mem _ h)
  have hown : s.vm.findClass "WideNumbers" = some m.cls := findClass_of_methodNamed B.named
  have hlocks := B.notSynchronized
  have hJ : ArrOfT s cJ .long := (hK.2 0 _ rfl).1
  have hI9 : ArrOfT s cI .int := (hK.2 1 _ rfl).1
  have hQ9 : ArrOfT s cQ (.array .long) := (hK.2 2 _ rfl).1
  have hl := lv_entry ([.ref o, .int op, .int to, .int a, .int b]) (n := 5) (Nat.le_of_ble_eq_true rfl)
  rw [lg_entry_eq]
  generalize (lg_sl ([.ref o, .int op, .int to, .int a, .int b]) ++ List.replicate (5 - (lg_sl ([.ref o, .int op, .int to, .int a, .int b])).length) Slot.unset).toArray = ls at hl ⊢
  have hl : lv_has ls 5 [(0, .ref o), (1, .int op), (2, .int to), (3, .int a), (4, .int b)] := hl
  have hlo : ∀ q ∈ ([] : List Loc), CA o q.base := fun _ h => nomatch h
  refine lv_iload_n hx hb d_C_two_0 rfl (lv_at hl 1 rfl) ?_
  refine lv_bipush (v := nI 16) hx hb d_C_two_1 (by decide) ?_
  refine x_xcallv (A := CA o) (vx_runS (As := [.int op, .int (nI 16)]) (rest := []) ⟨hx, hb, hml, hown, htw⟩ (c_refuse l D cJ cI cQ cR b0 sa hst op 16 (by decide)) (xcS 2 htw kw_53 kw_1 kw_51 kw_52 rfl rfl ⟨by decide, by decide, by decide +kernel⟩ ⟨Nat.le_of_ble_eq_true rfl, Nat.le_of_ble_eq_true rfl⟩) (xPreX hK hE (fun _ _ _ => rfl) trivial) rfl rfl hl.1 rfl (lv_room (Nat.le_of_ble_eq_true rfl)) d_C_two_3 ⟨Nat.le_of_ble_eq_true rfl, Nat.le_of_ble_eq_true rfl⟩) hlo (fun _ h => h.elim) (fun q9 ce H1 locs1 hB1 hlo hc9 hv9 hcl9 => ?_) (fun H1 locs1 hB1 hlo => ?_)
  · obtain ⟨hinv, hF⟩ := hB1
    exact vx_out (fun x hx => (hno x hx).elim) hlocks hc9 hv9 hcl9 (fun t ht _ => ⟨rfl, fun h => hinv h.1, by rw [ht]; exact hF⟩) hlo (by decide) (by decide)
  obtain ⟨rfl, ko, hko, rfl⟩ := hB1
  have hl : lv_has ls 5 [(0, .ref o), (1, .int (nI ko)), (2, .int to), (3, .int a), (4, .int b)] := hl
  refine lv_iload_n hx hb d_C_two_6 rfl (lv_at hl 2 rfl) ?_
  refine lv_bipush (v := nI 16) hx hb d_C_two_7 (by decide) ?_
  refine x_xcallv (A := CA o) (vx_runS (As := [.int to, .int (nI 16)]) (rest := []) ⟨hx, hb, hml, hown, htw⟩ (c_refuse l D cJ cI cQ cR b0 sa hst to 16 (by decide)) (xcS 2 htw kw_53 kw_1 kw_51 kw_52 rfl rfl ⟨by decide, by decide, by decide +kernel⟩ ⟨Nat.le_of_ble_eq_true rfl, Nat.le_of_ble_eq_true rfl⟩) (xPreX hK hE (fun _ _ _ => rfl) trivial) rfl rfl hl.1 rfl (lv_room (Nat.le_of_ble_eq_true rfl)) d_C_two_9 ⟨Nat.le_of_ble_eq_true rfl, Nat.le_of_ble_eq_true rfl⟩) hlo (fun _ h => h.elim) (fun q9 ce H1 locs1 hB1 hlo hc9 hv9 hcl9 => ?_) (fun H1 locs1 hB1 hlo => ?_)
  · obtain ⟨hinv, hF⟩ := hB1
    exact vx_out (fun x hx => (hno x hx).elim) hlocks hc9 hv9 hcl9 (fun t ht _ => ⟨rfl, fun h => hinv h.2.1, by rw [ht]; exact hF⟩) hlo (by decide) (by decide)
  obtain ⟨rfl, kt, hkt, rfl⟩ := hB1
  have hl : lv_has ls 5 [(0, .ref o), (1, .int (nI ko)), (2, .int (nI kt)), (3, .int a), (4, .int b)] := hl
  refine lv_iload_n hx hb d_C_two_12 rfl (lv_at hl 3 rfl) ?_
  refine lv_bipush (v := nI 16) hx hb d_C_two_13 (by decide) ?_
  refine x_xcallv (A := CA o) (vx_runS (As := [.int a, .int (nI 16)]) (rest := []) ⟨hx, hb, hml, hown, htw⟩ (c_refuse l D cJ cI cQ cR b0 sa hst a 16 (by decide)) (xcS 2 htw kw_53 kw_1 kw_51 kw_52 rfl rfl ⟨by decide, by decide, by decide +kernel⟩ ⟨Nat.le_of_ble_eq_true rfl, Nat.le_of_ble_eq_true rfl⟩) (xPreX hK hE (fun _ _ _ => rfl) trivial) rfl rfl hl.1 rfl (lv_room (Nat.le_of_ble_eq_true rfl)) d_C_two_15 ⟨Nat.le_of_ble_eq_true rfl, Nat.le_of_ble_eq_true rfl⟩) hlo (fun _ h => h.elim) (fun q9 ce H1 locs1 hB1 hlo hc9 hv9 hcl9 => ?_) (fun H1 locs1 hB1 hlo => ?_)
  · obtain ⟨hinv, hF⟩ := hB1
    exact vx_out (fun x hx => (hno x hx).elim) hlocks hc9 hv9 hcl9 (fun t ht _ => ⟨rfl, fun h => hinv h.2.2.1, by rw [ht]; exact hF⟩) hlo (by decide) (by decide)
  obtain ⟨rfl, ka, hka, rfl⟩ := hB1
  have hl : lv_has ls 5 [(0, .ref o), (1, .int (nI ko)), (2, .int (nI kt)), (3, .int (nI ka)), (4, .int b)] := hl
  refine lv_iload hx hb d_C_two_18 (lv_at hl 4 rfl) ?_
  refine lv_bipush (v := nI 16) hx hb d_C_two_20 (by decide) ?_
  refine x_xcallv (A := CA o) (vx_runS (As := [.int b, .int (nI 16)]) (rest := []) ⟨hx, hb, hml, hown, htw⟩ (c_refuse l D cJ cI cQ cR b0 sa hst b 16 (by decide)) (xcS 2 htw kw_53 kw_1 kw_51 kw_52 rfl rfl ⟨by decide, by decide, by decide +kernel⟩ ⟨Nat.le_of_ble_eq_true rfl, Nat.le_of_ble_eq_true rfl⟩) (xPreX hK hE (fun _ _ _ => rfl) trivial) rfl rfl hl.1 rfl (lv_room (Nat.le_of_ble_eq_true rfl)) d_C_two_22 ⟨Nat.le_of_ble_eq_true rfl, Nat.le_of_ble_eq_true rfl⟩) hlo (fun _ h => h.elim) (fun q9 ce H1 locs1 hB1 hlo hc9 hv9 hcl9 => ?_) (fun H1 locs1 hB1 hlo => ?_)
  · obtain ⟨hinv, hF⟩ := hB1
    exact vx_out (fun x hx => (hno x hx).elim) hlocks hc9 hv9 hcl9 (fun t ht _ => ⟨rfl, fun h => hinv h.2.2.2, by rw [ht]; exact hF⟩) hlo (by decide) (by decide)
  obtain ⟨rfl, kb, hkb, rfl⟩ := hB1
  have hl : lv_has ls 5 [(0, .ref o), (1, .int (nI ko)), (2, .int (nI kt)), (3, .int (nI ka)), (4, .int (nI kb))] := hl
  obtain ⟨fka, h_ka, hNka⟩ := hR ka hka
  have hvka := hV ka hka
  obtain ⟨fkb, h_kb, hNkb⟩ := hR kb hkb
  have hvkb := hV kb hkb
  refine lv_iload_n hx hb d_C_two_25 rfl (lv_at hl 1 rfl) ?_
  refine lv_bipush (v := nI 7) hx hb d_C_two_26 (by decide) ?_
  refine x_cut 70 (fun H locs ls => lv_has ls 5 [(0, .ref o), (1, .int (nI ko)), (2, .int (nI kt)), (3, .int (nI ka)), (4, .int (nI kb))] ∧ (∀ q ∈ locs, CA o q.base) ∧ XF (CA o) s.heap H ∧ CB D cQ o H ∧ SC cJ o H ∧ RG cJ o V H ∧ ∃ f, hL H cJ (o + 18) 8 f ∧ NL f 8 (opv ko (V ka) (V kb))) ?_ (fun J => ?_)
  · rintro H locs ls ⟨hl, hlo, hG, hO, hSC, hR, f, hf, hN⟩
    refine lv_aload_n hx hb d_C_two_70 rfl (lv_at hl 0 rfl) ?_
    refine va_get (D := D) (ci := 0) (v := .ref (o + 1)) (C := "WideNumbers") (T := F_C) (N := 7) hx hb htw inC hown hK hO.1 0 rfl rfl 0 (by decide) (htw _ kw_20) (fun _ h9 => h9) rfl d_C_two_71 ?_
    refine lv_iload_n hx hb d_C_two_74 rfl (lv_at hl 2 rfl) ?_
    refine x_aald hx hb rfl hQ9 hO.2 kt rfl hkt (by omega) (v := o + 2 + kt) (if_pos hkt) d_C_two_75 ?_
    refine lv_aload_n hx hb d_C_two_76 rfl (lv_at hl 0 rfl) ?_
    refine va_get (D := D) (ci := 0) (v := .ref (o + 18)) (C := "WideNumbers") (T := F_C) (N := 7) hx hb htw inC hown hK hO.1 0 rfl rfl 1 (by decide) (htw _ kw_21) (fun _ h9 => h9) rfl d_C_two_77 ?_
    obtain ⟨ft, h_t, hNt⟩ := hR kt hkt
    refine x_callv (A := CA o) (va_runS (As := [.ref (o + 2 + kt), .ref (o + 18)]) (rest := []) ⟨hx, hb, hml, hown, htw⟩ (c_copy l D cJ cI cQ cR (o + 2 + kt) (o + 18) 8 (opv ko (V ka) (V kb)) ft f (by decide) (by omega) hN) (xcS 2 htw kw_179 kw_1 kw_177 kw_178 rfl rfl ⟨by decide, by decide, by decide +kernel⟩ ⟨Nat.le_of_ble_eq_true rfl, Nat.le_of_ble_eq_true rfl⟩) (xPre hK ⟨h_t, hf⟩) rfl rfl hl.1 rfl (lv_room (Nat.le_of_ble_eq_true rfl)) d_C_two_80 ⟨Nat.le_of_ble_eq_true rfl, Nat.le_of_ble_eq_true rfl⟩) hlo (fun q h => by rcases h with h | h <;> (rw [h]; exact ⟨by omega, by omega⟩)) (fun H8 locs8 hB8 hlo => ?_)
    obtain ⟨hF8, f8, hf8, hN8⟩ := hB8
    have hO := hO.f1 hF8 (by omega)
    have hSC := hSC.f1 hF8 (by omega)
    have hR := hR.put hF8 hf8 hN8
    have hG := hG.tr hF8 (fun q h => by have h : q = o + 2 + kt := h; rw [h]; exact ⟨by omega, by omega⟩)
    exact vx_ret (W.vret hx hb hr (fun t ht hW => ⟨rfl, by rw [ht]; exact hG, ko, kt, ka, kb, hko, rfl, hkt, rfl, hka, rfl, hkb, rfl, by rw [ht]; exact ⟨hO, hSC, hR⟩⟩) hlo d_C_two_83)
  · refine lv_icmp_gt (tgt := 52) hx hb d_C_two_28 (by decide) (fun hc => ?_) (fun hc => ?_)
    · refine lv_aload_n hx hb d_C_two_52 rfl (lv_at hl 0 rfl) ?_
      refine lv_iload_n hx hb d_C_two_53 rfl (lv_at hl 1 rfl) ?_
      refine lv_aload_n hx hb d_C_two_54 rfl (lv_at hl 0 rfl) ?_
      refine va_get (D := D) (ci := 0) (v := .ref (o + 1)) (C := "WideNumbers") (T := F_C) (N := 7) hx hb htw inC hown hK hO.1 0 rfl rfl 0 (by decide) (htw _ kw_20) (fun _ h9 => h9) rfl d_C_two_55 ?_
      refine lv_iload_n hx hb d_C_two_58 rfl (lv_at hl 3 rfl) ?_
      refine x_aald hx hb rfl hQ9 hO.2 ka rfl hka (by omega) (v := o + 2 + ka) (if_pos hka) d_C_two_59 ?_
      refine lv_aload_n hx hb d_C_two_60 rfl (lv_at hl 0 rfl) ?_
      refine va_get (D := D) (ci := 0) (v := .ref (o + 1)) (C := "WideNumbers") (T := F_C) (N := 7) hx hb htw inC hown hK hO.1 0 rfl rfl 0 (by decide) (htw _ kw_20) (fun _ h9 => h9) rfl d_C_two_61 ?_
      refine lv_iload hx hb d_C_two_64 (lv_at hl 4 rfl) ?_
      refine x_aald hx hb rfl hQ9 hO.2 kb rfl hkb (by omega) (v := o + 2 + kb) (if_pos hkb) d_C_two_66 ?_
      refine x_callv (A := CA o) (va_runV (As := [.int (nI ko), .ref (o + 2 + ka), .ref (o + 2 + kb)]) (rest := []) ⟨hx, hb, hml, hown, htw⟩ (c_arrangeBits l D cJ cI cQ cR ko ⟨Nat.le_of_not_lt (fun h => absurd hc (nI_nlt (by omega) (by omega))), by omega⟩ o (o + 2 + ka) (o + 2 + kb) (V ka) (V kb) fka fkb (by omega) (by omega) hvka hvkb hNka hNkb) (xcV 3 htw kw_203 kw_1 kw_200 kw_202 ks_C_arrangeBits rfl rfl ⟨by decide, by decide, by decide +kernel⟩ ⟨Nat.le_of_ble_eq_true rfl, Nat.le_of_ble_eq_true rfl⟩) (xPreV hK (hO.rv hK) ⟨hO, hSC, h_ka, h_kb⟩) rfl rfl hl.1 rfl (lv_room (Nat.le_of_ble_eq_true rfl)) d_C_two_67 ⟨Nat.le_of_ble_eq_true rfl, Nat.le_of_ble_eq_true rfl⟩) hlo (fun _ h => h) (fun H7 locs7 hB7 hlo => ?_)
      obtain ⟨hF7, hSC7, f7, hf7, hN7⟩ := hB7
      exact J _ _ ls ⟨hl, hlo, hF7.wk (fun _ h => SA_CA h), hO.fS hF7, hSC7, hR.fS hF7, f7, hf7, hN7⟩
    · refine lv_aload_n hx hb d_C_two_31 rfl (lv_at hl 0 rfl) ?_
      refine lv_iload_n hx hb d_C_two_32 rfl (lv_at hl 1 rfl) ?_
      refine lv_aload_n hx hb d_C_two_33 rfl (lv_at hl 0 rfl) ?_
      refine va_get (D := D) (ci := 0) (v := .ref (o + 1)) (C := "WideNumbers") (T := F_C) (N := 7) hx hb htw inC hown hK hO.1 0 rfl rfl 0 (by decide) (htw _ kw_20) (fun _ h9 => h9) rfl d_C_two_34 ?_
      refine lv_iload_n hx hb d_C_two_37 rfl (lv_at hl 3 rfl) ?_
      refine x_aald hx hb rfl hQ9 hO.2 ka rfl hka (by omega) (v := o + 2 + ka) (if_pos hka) d_C_two_38 ?_
      refine lv_aload_n hx hb d_C_two_39 rfl (lv_at hl 0 rfl) ?_
      refine va_get (D := D) (ci := 0) (v := .ref (o + 1)) (C := "WideNumbers") (T := F_C) (N := 7) hx hb htw inC hown hK hO.1 0 rfl rfl 0 (by decide) (htw _ kw_20) (fun _ h9 => h9) rfl d_C_two_40 ?_
      refine lv_iload hx hb d_C_two_43 (lv_at hl 4 rfl) ?_
      refine x_aald hx hb rfl hQ9 hO.2 kb rfl hkb (by omega) (v := o + 2 + kb) (if_pos hkb) d_C_two_45 ?_
      refine x_callv (A := CA o) (va_runV (As := [.int (nI ko), .ref (o + 2 + ka), .ref (o + 2 + kb)]) (rest := []) ⟨hx, hb, hml, hown, htw⟩ (c_calculate l D cJ cI cQ cR ko ⟨by omega, Nat.le_of_not_lt (fun h => hc (nI_lt (by omega) (by omega)))⟩ o (o + 2 + ka) (o + 2 + kb) (V ka) (V kb) fka fkb (by omega) (by omega) hvka hvkb hNka hNkb) (xcV 3 htw kw_144 kw_1 kw_141 kw_143 ks_C_calculate rfl rfl ⟨by decide, by decide, by decide +kernel⟩ ⟨Nat.le_of_ble_eq_true rfl, Nat.le_of_ble_eq_true rfl⟩) (xPreV hK (hO.rv hK) ⟨hO, hSC, h_ka, h_kb⟩) rfl rfl hl.1 rfl (lv_room (Nat.le_of_ble_eq_true rfl)) d_C_two_46 ⟨Nat.le_of_ble_eq_true rfl, Nat.le_of_ble_eq_true rfl⟩) hlo (fun _ h => h) (fun H7 locs7 hB7 hlo => ?_)
      obtain ⟨hF7, hSC7, f7, hf7, hN7⟩ := hB7
      refine lv_goto (tgt := 70) hx hb d_C_two_49 (by decide) ?_
      exact J _ _ ls ⟨hl, hlo, hF7.wk (fun _ h => SA_CA h), hO.fS hF7, hSC7, hR.fS hF7, f7, hf7, hN7⟩
set_option maxHeartbeats 4000000 in
set_option maxRecDepth 100000 in
theorem c_turn (l : Launch) (D : va_G) (cJ cI cQ cR : ClassId) (b0 sa : Nat) (hst : l.stackTraces = false) (o : Nat) (V : Nat → Nat) (hV : ∀ r, r < 16 → V r < 2 ^ 256) (to a z : Int32) : vx_Met l y_C_turn w_C_turn { frames := 8, cells := 2, slots := 12, locals := 131 } (xPX D vwCl (TY cJ cI cQ cR) b0 sa [.ref o, .int to, .int a, .int z] (fun H => CO D cJ cQ o V H)) (xQv (fun H0 H => XF (CA o) H0 H ∧ ∃ kt ka : Nat, kt < 16 ∧ to = nI kt ∧ ka < 16 ∧ a = nI ka ∧ CO D cJ cQ o (va_up V kt (trn z (V ka))) H)) (xX (fun H0 H => ¬ (vd to 16 ∧ vd a 16) ∧ XF (fun _ => False) H0 H)) 2 12 (CA o) := by
  refine vx_ofW (cc := b_C_turn) (maxL := 4) (ret := none) (by decide) rfl ?_
  intro p e s m args below meth c s₁ B hml hno hv
  obtain ⟨rfl, hK, hE, ⟨hO, hSC, hR⟩⟩ := hv
  have hx := B.exec
  have hb := B.bytes
  have hr := B.returns
  have hts := atoms_spec (ws := w_C_turn) B.pre
  have htw : ∀ w ∈ WT, w.before _ s = true := fun w h => hts w (List.mem_cons_of_mem _ h)
  have hown : s.vm.findClass "WideNumbers" = some m.cls := findClass_of_methodNamed B.named
  have hlocks := B.notSynchronized
  have hJ : ArrOfT s cJ .long := (hK.2 0 _ rfl).1
  have hI9 : ArrOfT s cI .int := (hK.2 1 _ rfl).1
  have hQ9 : ArrOfT s cQ (.array .long) := (hK.2 2 _ rfl).1
  have hl := lv_entry ([.ref o, .int to, .int a, .int z]) (n := 4) (Nat.le_of_ble_eq_true rfl)
  rw [lg_entry_eq]
  generalize (lg_sl ([.ref o, .int to, .int a, .int z]) ++ List.replicate (4 - (lg_sl ([.ref o, .int to, .int a, .int z])).length) Slot.unset).toArray = ls at hl ⊢
  have hl : lv_has ls 4 [(0, .ref o), (1, .int to), (2, .int a), (3, .int z)] := hl
  have hlo : ∀ q ∈ ([] : List Loc), CA o q.base := fun _ h => nomatch h
  refine lv_iload_n hx hb d_C_turn_0 rfl (lv_at hl 1 rfl) ?_
  refine lv_bipush (v := nI 16) hx hb d_C_turn_1 (by decide) ?_
  refine x_xcallv (A := CA o) (vx_runS (As := [.int to, .int (nI 16)]) (rest := []) ⟨hx, hb, hml, hown, htw⟩ (c_refuse l D cJ cI cQ cR b0 sa hst to 16 (by decide)) (xcS 2 htw kw_53 kw_1 kw_51 kw_52 rfl rfl ⟨by decide, by decide, by decide +kernel⟩ ⟨Nat.le_of_ble_eq_true rfl, Nat.le_of_ble_eq_true rfl⟩) (xPreX hK hE (fun _ _ _ => rfl) trivial) rfl rfl hl.1 rfl (lv_room (Nat.le_of_ble_eq_true rfl)) d_C_turn_3 ⟨Nat.le_of_ble_eq_true rfl, Nat.le_of_ble_eq_true rfl⟩) hlo (fun _ h => h.elim) (fun q9 ce H1 locs1 hB1 hlo hc9 hv9 hcl9 => ?_) (fun H1 locs1 hB1 hlo => ?_)
  · obtain ⟨hinv, hF⟩ := hB1
    exact vx_out (fun x hx => (hno x hx).elim) hlocks hc9 hv9 hcl9 (fun t ht _ => ⟨rfl, fun h => hinv h.1, by rw [ht]; exact hF⟩) hlo (by decide) (by decide)
  obtain ⟨rfl, kt, hkt, rfl⟩ := hB1
  have hl : lv_has ls 4 [(0, .ref o), (1, .int (nI kt)), (2, .int a), (3, .int z)] := hl
  refine lv_iload_n hx hb d_C_turn_6 rfl (lv_at hl 2 rfl) ?_
  refine lv_bipush (v := nI 16) hx hb d_C_turn_7 (by decide) ?_
  refine x_xcallv (A := CA o) (vx_runS (As := [.int a, .int (nI 16)]) (rest := []) ⟨hx, hb, hml, hown, htw⟩ (c_refuse l D cJ cI cQ cR b0 sa hst a 16 (by decide)) (xcS 2 htw kw_53 kw_1 kw_51 kw_52 rfl rfl ⟨by decide, by decide, by decide +kernel⟩ ⟨Nat.le_of_ble_eq_true rfl, Nat.le_of_ble_eq_true rfl⟩) (xPreX hK hE (fun _ _ _ => rfl) trivial) rfl rfl hl.1 rfl (lv_room (Nat.le_of_ble_eq_true rfl)) d_C_turn_9 ⟨Nat.le_of_ble_eq_true rfl, Nat.le_of_ble_eq_true rfl⟩) hlo (fun _ h => h.elim) (fun q9 ce H1 locs1 hB1 hlo hc9 hv9 hcl9 => ?_) (fun H1 locs1 hB1 hlo => ?_)
  · obtain ⟨hinv, hF⟩ := hB1
    exact vx_out (fun x hx => (hno x hx).elim) hlocks hc9 hv9 hcl9 (fun t ht _ => ⟨rfl, fun h => hinv h.2, by rw [ht]; exact hF⟩) hlo (by decide) (by decide)
  obtain ⟨rfl, ka, hka, rfl⟩ := hB1
  have hl : lv_has ls 4 [(0, .ref o), (1, .int (nI kt)), (2, .int (nI ka)), (3, .int z)] := hl
  obtain ⟨fka, h_ka, hNka⟩ := hR ka hka
  have hvka := hV ka hka
  refine lv_iload_n hx hb d_C_turn_12 rfl (lv_at hl 3 rfl) ?_
  refine x_cut 45 (fun H locs ls => lv_has ls 4 [(0, .ref o), (1, .int (nI kt)), (2, .int (nI ka)), (3, .int z)] ∧ (∀ q ∈ locs, CA o q.base) ∧ XF (CA o) s.heap H ∧ CB D cQ o H ∧ SC cJ o H ∧ RG cJ o V H ∧ ∃ f, hL H cJ (o + 18) 8 f ∧ NL f 8 (trn z (V ka))) ?_ (fun J => ?_)
  · rintro H locs ls ⟨hl, hlo, hG, hO, hSC, hR, f, hf, hN⟩
    refine lv_aload_n hx hb d_C_turn_45 rfl (lv_at hl 0 rfl) ?_
    refine va_get (D := D) (ci := 0) (v := .ref (o + 1)) (C := "WideNumbers") (T := F_C) (N := 7) hx hb htw inC hown hK hO.1 0 rfl rfl 0 (by decide) (htw _ kw_20) (fun _ h9 => h9) rfl d_C_turn_46 ?_
    refine lv_iload_n hx hb d_C_turn_49 rfl (lv_at hl 1 rfl) ?_
    refine x_aald hx hb rfl hQ9 hO.2 kt rfl hkt (by omega) (v := o + 2 + kt) (if_pos hkt) d_C_turn_50 ?_
    refine lv_aload_n hx hb d_C_turn_51 rfl (lv_at hl 0 rfl) ?_
    refine va_get (D := D) (ci := 0) (v := .ref (o + 18)) (C := "WideNumbers") (T := F_C) (N := 7) hx hb htw inC hown hK hO.1 0 rfl rfl 1 (by decide) (htw _ kw_21) (fun _ h9 => h9) rfl d_C_turn_52 ?_
    obtain ⟨ft, h_t, hNt⟩ := hR kt hkt
    refine x_callv (A := CA o) (va_runS (As := [.ref (o + 2 + kt), .ref (o + 18)]) (rest := []) ⟨hx, hb, hml, hown, htw⟩ (c_copy l D cJ cI cQ cR (o + 2 + kt) (o + 18) 8 (trn z (V ka)) ft f (by decide) (by omega) hN) (xcS 2 htw kw_179 kw_1 kw_177 kw_178 rfl rfl ⟨by decide, by decide, by decide +kernel⟩ ⟨Nat.le_of_ble_eq_true rfl, Nat.le_of_ble_eq_true rfl⟩) (xPre hK ⟨h_t, hf⟩) rfl rfl hl.1 rfl (lv_room (Nat.le_of_ble_eq_true rfl)) d_C_turn_55 ⟨Nat.le_of_ble_eq_true rfl, Nat.le_of_ble_eq_true rfl⟩) hlo (fun q h => by rcases h with h | h <;> (rw [h]; exact ⟨by omega, by omega⟩)) (fun H8 locs8 hB8 hlo => ?_)
    obtain ⟨hF8, f8, hf8, hN8⟩ := hB8
    have hO := hO.f1 hF8 (by omega)
    have hSC := hSC.f1 hF8 (by omega)
    have hR := hR.put hF8 hf8 hN8
    have hG := hG.tr hF8 (fun q h => by have h : q = o + 2 + kt := h; rw [h]; exact ⟨by omega, by omega⟩)
    exact vx_ret (W.vret hx hb hr (fun t ht hW => ⟨rfl, by rw [ht]; exact hG, kt, ka, hkt, rfl, hka, rfl, by rw [ht]; exact ⟨hO, hSC, hR⟩⟩) hlo d_C_turn_58)
  · obtain ⟨⟨f18, h_18⟩, h19, h20, h21, h22, h23⟩ := hSC
    refine lv_if_eq (tgt := 32) hx hb d_C_turn_13 (by decide) (fun hc => ?_) (fun hc => ?_)
    · refine lv_aload_n hx hb d_C_turn_32 rfl (lv_at hl 0 rfl) ?_
      refine va_get (D := D) (ci := 0) (v := .ref (o + 18)) (C := "WideNumbers") (T := F_C) (N := 7) hx hb htw inC hown hK hO.1 0 rfl rfl 1 (by decide) (htw _ kw_21) (fun _ h9 => h9) rfl d_C_turn_33 ?_
      refine lv_aload_n hx hb d_C_turn_36 rfl (lv_at hl 0 rfl) ?_
      refine va_get (D := D) (ci := 0) (v := .ref (o + 1)) (C := "WideNumbers") (T := F_C) (N := 7) hx hb htw inC hown hK hO.1 0 rfl rfl 0 (by decide) (htw _ kw_20) (fun _ h9 => h9) rfl d_C_turn_37 ?_
      refine lv_iload_n hx hb d_C_turn_40 rfl (lv_at hl 2 rfl) ?_
      refine x_aald hx hb rfl hQ9 hO.2 ka rfl hka (by omega) (v := o + 2 + ka) (if_pos hka) d_C_turn_41 ?_
      refine x_callv (A := CA o) (va_runS (As := [.ref (o + 18), .ref (o + 2 + ka)]) (rest := []) ⟨hx, hb, hml, hown, htw⟩ (c_negate l D cJ cI cQ cR (o + 18) (o + 2 + ka) 8 (V ka) f18 fka (by decide) (by omega) hvka hNka) (xcS 2 htw kw_195 kw_1 kw_193 kw_194 rfl rfl ⟨by decide, by decide, by decide +kernel⟩ ⟨Nat.le_of_ble_eq_true rfl, Nat.le_of_ble_eq_true rfl⟩) (xPre hK ⟨h_18, h_ka⟩) rfl rfl hl.1 rfl (lv_room (Nat.le_of_ble_eq_true rfl)) d_C_turn_42 ⟨Nat.le_of_ble_eq_true rfl, Nat.le_of_ble_eq_true rfl⟩) hlo (fun q h => by have h : q = o + 18 := h; rw [h]; exact ⟨by omega, by omega⟩) (fun H7 locs7 hB7 hlo => ?_)
      obtain ⟨hF7, f7, hf7, hN7⟩ := hB7
      obtain ⟨⟨f19, h19⟩, ⟨f20, h20⟩, ⟨f21, h21⟩, ⟨f22, h22⟩, ⟨f23, h23⟩⟩ := (⟨h19, h20, h21, h22, h23⟩ : _ ∧ _ ∧ _ ∧ _ ∧ _)
      have hSC7 : SC cJ o H7 := ⟨⟨_, hf7⟩, ⟨_, hL_f h19 hF7 (show o + 19 ≠ o + 18 by omega)⟩, ⟨_, hL_f h20 hF7 (show o + 20 ≠ o + 18 by omega)⟩, ⟨_, hL_f h21 hF7 (show o + 21 ≠ o + 18 by omega)⟩, ⟨_, hL_f h22 hF7 (show o + 22 ≠ o + 18 by omega)⟩, ⟨_, hL_f h23 hF7 (show o + 23 ≠ o + 18 by omega)⟩⟩
      exact J _ _ ls ⟨hl, hlo, hF7.wk (fun q h => by have h : q = o + 18 := h; rw [h]; exact ⟨by omega, by omega⟩), hO.f1 hF7 (by omega), hSC7, hR.f1 hF7 (by omega), f7, hf7, by unfold trn; rw [if_pos hc]; exact hN7⟩
    · refine lv_aload_n hx hb d_C_turn_16 rfl (lv_at hl 0 rfl) ?_
      refine va_get (D := D) (ci := 0) (v := .ref (o + 18)) (C := "WideNumbers") (T := F_C) (N := 7) hx hb htw inC hown hK hO.1 0 rfl rfl 1 (by decide) (htw _ kw_21) (fun _ h9 => h9) rfl d_C_turn_17 ?_
      refine lv_aload_n hx hb d_C_turn_20 rfl (lv_at hl 0 rfl) ?_
      refine va_get (D := D) (ci := 0) (v := .ref (o + 1)) (C := "WideNumbers") (T := F_C) (N := 7) hx hb htw inC hown hK hO.1 0 rfl rfl 0 (by decide) (htw _ kw_20) (fun _ h9 => h9) rfl d_C_turn_21 ?_
      refine lv_iload_n hx hb d_C_turn_24 rfl (lv_at hl 2 rfl) ?_
      refine x_aald hx hb rfl hQ9 hO.2 ka rfl hka (by omega) (v := o + 2 + ka) (if_pos hka) d_C_turn_25 ?_
      refine x_callv (A := CA o) (va_runS (As := [.ref (o + 18), .ref (o + 2 + ka)]) (rest := []) ⟨hx, hb, hml, hown, htw⟩ (c_invert l D cJ cI cQ cR (o + 18) (o + 2 + ka) (V ka) f18 fka (by omega) hvka hNka) (xcS 2 htw kw_253 kw_1 kw_251 kw_252 rfl rfl ⟨by decide, by decide, by decide +kernel⟩ ⟨Nat.le_of_ble_eq_true rfl, Nat.le_of_ble_eq_true rfl⟩) (xPre hK ⟨h_18, h_ka⟩) rfl rfl hl.1 rfl (lv_room (Nat.le_of_ble_eq_true rfl)) d_C_turn_26 ⟨Nat.le_of_ble_eq_true rfl, Nat.le_of_ble_eq_true rfl⟩) hlo (fun q h => by have h : q = o + 18 := h; rw [h]; exact ⟨by omega, by omega⟩) (fun H7 locs7 hB7 hlo => ?_)
      obtain ⟨hF7, f7, hf7, hN7⟩ := hB7
      obtain ⟨⟨f19, h19⟩, ⟨f20, h20⟩, ⟨f21, h21⟩, ⟨f22, h22⟩, ⟨f23, h23⟩⟩ := (⟨h19, h20, h21, h22, h23⟩ : _ ∧ _ ∧ _ ∧ _ ∧ _)
      have hSC7 : SC cJ o H7 := ⟨⟨_, hf7⟩, ⟨_, hL_f h19 hF7 (show o + 19 ≠ o + 18 by omega)⟩, ⟨_, hL_f h20 hF7 (show o + 20 ≠ o + 18 by omega)⟩, ⟨_, hL_f h21 hF7 (show o + 21 ≠ o + 18 by omega)⟩, ⟨_, hL_f h22 hF7 (show o + 22 ≠ o + 18 by omega)⟩, ⟨_, hL_f h23 hF7 (show o + 23 ≠ o + 18 by omega)⟩⟩
      refine lv_goto (tgt := 45) hx hb d_C_turn_29 (by decide) ?_
      exact J _ _ ls ⟨hl, hlo, hF7.wk (fun q h => by have h : q = o + 18 := h; rw [h]; exact ⟨by omega, by omega⟩), hO.f1 hF7 (by omega), hSC7, hR.f1 hF7 (by omega), f7, hf7, by unfold trn; rw [if_neg hc]; exact hN7⟩
set_option maxHeartbeats 4000000 in
set_option maxRecDepth 100000 in
theorem c_compare (l : Launch) (D : va_G) (cJ cI cQ cR : ClassId) (b0 sa : Nat) (hst : l.stackTraces = false) (o : Nat) (V : Nat → Nat) (hV : ∀ r, r < 16 → V r < 2 ^ 256) (a b z : Int32) : vx_Met l y_C_compare w_C_compare { frames := 8, cells := 2, slots := 12, locals := 131 } (xPX D vwCl (TY cJ cI cQ cR) b0 sa [.ref o, .int a, .int b, .int z] (fun H => CO D cJ cQ o V H)) (xQi (fun x H0 H => H = H0 ∧ ∃ ka kb : Nat, ka < 16 ∧ a = nI ka ∧ kb < 16 ∧ b = nI kb ∧ x = cmpv z (V ka) (V kb))) (xX (fun H0 H => ¬ (vd a 16 ∧ vd b 16) ∧ XF (fun _ => False) H0 H)) 2 12 (CA o) := by
  refine vx_ofW (cc := b_C_compare) (maxL := 5) (ret := some .int) (by decide) rfl ?_
  intro p e s m args below meth c s₁ B hml hno hv
  obtain ⟨rfl, hK, hE, ⟨hO, hSC, hR⟩⟩ := hv
  have hx := B.exec
  have hb := B.bytes
  have hr := B.returns
  have hts := atoms_spec (ws := w_C_compare) B.pre
  have htw : ∀ w ∈ WT, w.before _ s = true := fun w h => hts w (List.mem_cons_of_mem _ h)
  have hown : s.vm.findClass "WideNumbers" = some m.cls := findClass_of_methodNamed B.named
  have hlocks := B.notSynchronized
  have hJ : ArrOfT s cJ .long := (hK.2 0 _ rfl).1
  have hI9 : ArrOfT s cI .int := (hK.2 1 _ rfl).1
  have hQ9 : ArrOfT s cQ (.array .long) := (hK.2 2 _ rfl).1
  have hl := lv_entry ([.ref o, .int a, .int b, .int z]) (n := 5) (Nat.le_of_ble_eq_true rfl)
  rw [lg_entry_eq]
  generalize (lg_sl ([.ref o, .int a, .int b, .int z]) ++ List.replicate (5 - (lg_sl ([.ref o, .int a, .int b, .int z])).length) Slot.unset).toArray = ls at hl ⊢
  have hl : lv_has ls 5 [(0, .ref o), (1, .int a), (2, .int b), (3, .int z)] := hl
  have hlo : ∀ q ∈ ([] : List Loc), CA o q.base := fun _ h => nomatch h
  refine lv_iload_n hx hb d_C_compare_0 rfl (lv_at hl 1 rfl) ?_
  refine lv_bipush (v := nI 16) hx hb d_C_compare_1 (by decide) ?_
  refine x_xcallv (A := CA o) (vx_runS (As := [.int a, .int (nI 16)]) (rest := []) ⟨hx, hb, hml, hown, htw⟩ (c_refuse l D cJ cI cQ cR b0 sa hst a 16 (by decide)) (xcS 2 htw kw_53 kw_1 kw_51 kw_52 rfl rfl ⟨by decide, by decide, by decide +kernel⟩ ⟨Nat.le_of_ble_eq_true rfl, Nat.le_of_ble_eq_true rfl⟩) (xPreX hK hE (fun _ _ _ => rfl) trivial) rfl rfl hl.1 rfl (lv_room (Nat.le_of_ble_eq_true rfl)) d_C_compare_3 ⟨Nat.le_of_ble_eq_true rfl, Nat.le_of_ble_eq_true rfl⟩) hlo (fun _ h => h.elim) (fun q9 ce H1 locs1 hB1 hlo hc9 hv9 hcl9 => ?_) (fun H1 locs1 hB1 hlo => ?_)
  · obtain ⟨hinv, hF⟩ := hB1
    exact vx_out (fun x hx => (hno x hx).elim) hlocks hc9 hv9 hcl9 (fun t ht _ => ⟨rfl, fun h => hinv h.1, by rw [ht]; exact hF⟩) hlo (by decide) (by decide)
  obtain ⟨rfl, ka, hka, rfl⟩ := hB1
  have hl : lv_has ls 5 [(0, .ref o), (1, .int (nI ka)), (2, .int b), (3, .int z)] := hl
  refine lv_iload_n hx hb d_C_compare_6 rfl (lv_at hl 2 rfl) ?_
  refine lv_bipush (v := nI 16) hx hb d_C_compare_7 (by decide) ?_
  refine x_xcallv (A := CA o) (vx_runS (As := [.int b, .int (nI 16)]) (rest := []) ⟨hx, hb, hml, hown, htw⟩ (c_refuse l D cJ cI cQ cR b0 sa hst b 16 (by decide)) (xcS 2 htw kw_53 kw_1 kw_51 kw_52 rfl rfl ⟨by decide, by decide, by decide +kernel⟩ ⟨Nat.le_of_ble_eq_true rfl, Nat.le_of_ble_eq_true rfl⟩) (xPreX hK hE (fun _ _ _ => rfl) trivial) rfl rfl hl.1 rfl (lv_room (Nat.le_of_ble_eq_true rfl)) d_C_compare_9 ⟨Nat.le_of_ble_eq_true rfl, Nat.le_of_ble_eq_true rfl⟩) hlo (fun _ h => h.elim) (fun q9 ce H1 locs1 hB1 hlo hc9 hv9 hcl9 => ?_) (fun H1 locs1 hB1 hlo => ?_)
  · obtain ⟨hinv, hF⟩ := hB1
    exact vx_out (fun x hx => (hno x hx).elim) hlocks hc9 hv9 hcl9 (fun t ht _ => ⟨rfl, fun h => hinv h.2, by rw [ht]; exact hF⟩) hlo (by decide) (by decide)
  obtain ⟨rfl, kb, hkb, rfl⟩ := hB1
  have hl : lv_has ls 5 [(0, .ref o), (1, .int (nI ka)), (2, .int (nI kb)), (3, .int z)] := hl
  obtain ⟨fka, h_ka, hNka⟩ := hR ka hka
  have hvka := hV ka hka
  obtain ⟨fkb, h_kb, hNkb⟩ := hR kb hkb
  have hvkb := hV kb hkb
  refine lv_aload_n hx hb d_C_compare_12 rfl (lv_at hl 0 rfl) ?_
  refine va_get (D := D) (ci := 0) (v := .ref (o + 1)) (C := "WideNumbers") (T := F_C) (N := 7) hx hb htw inC hown hK hO.1 0 rfl rfl 0 (by decide) (htw _ kw_20) (fun _ h9 => h9) rfl d_C_compare_13 ?_
  refine lv_iload_n hx hb d_C_compare_16 rfl (lv_at hl 1 rfl) ?_
  refine x_aald hx hb rfl hQ9 hO.2 ka rfl hka (by omega) (v := o + 2 + ka) (if_pos hka) d_C_compare_17 ?_
  refine x_calli (A := CA o) (va_runS (As := [.ref (o + 2 + ka)]) (rest := []) ⟨hx, hb, hml, hown, htw⟩ (c_isNegative l D cJ cI cQ cR (o + 2 + ka) (V ka) fka hvka hNka) (xcS 1 htw kw_189 kw_1 kw_187 kw_188 rfl rfl ⟨by decide, by decide, by decide +kernel⟩ ⟨Nat.le_of_ble_eq_true rfl, Nat.le_of_ble_eq_true rfl⟩) (xPre hK h_ka) rfl rfl hl.1 rfl (lv_room (Nat.le_of_ble_eq_true rfl)) d_C_compare_18 ⟨Nat.le_of_ble_eq_true rfl, Nat.le_of_ble_eq_true rfl⟩) hlo (fun _ h => h.elim) (fun r2 H2 locs2 hB2 hlo => ?_)
  obtain ⟨rfl, rfl⟩ := hB2
  refine lv_istore hx hb d_C_compare_21 hl (by decide) rfl (fun ls hl => ?_)
  have hl : lv_has ls 5 [(4, .int (if 2 ^ 255 ≤ V ka then 1 else 0)), (0, .ref o), (1, .int (nI ka)), (2, .int (nI kb)), (3, .int z)] := hl
  refine x_cut 52 (fun H locs ls => H = s.heap ∧ lv_has ls 5 [(4, .int (if 2 ^ 255 ≤ V ka then 1 else 0)), (0, .ref o), (1, .int (nI ka)), (2, .int (nI kb)), (3, .int z)] ∧ (∀ q ∈ locs, CA o q.base) ∧ cmpv z (V ka) (V kb) = ordv (V ka) (V kb)) ?_ (fun J => ?_)
  · rintro H locs ls ⟨rfl, hl, hlo, hcv⟩
    refine lv_aload_n hx hb d_C_compare_52 rfl (lv_at hl 1 rfl) ?_
    refine va_get (D := D) (ci := 0) (v := .ref (o + 1)) (C := "WideNumbers") (T := F_C) (N := 7) hx hb htw inC hown hK hO.1 0 rfl rfl 0 (by decide) (htw _ kw_20) (fun _ h9 => h9) rfl d_C_compare_53 ?_
    refine lv_iload_n hx hb d_C_compare_56 rfl (lv_at hl 2 rfl) ?_
    refine x_aald hx hb rfl hQ9 hO.2 ka rfl hka (by omega) (v := o + 2 + ka) (if_pos hka) d_C_compare_57 ?_
    refine lv_aload_n hx hb d_C_compare_58 rfl (lv_at hl 1 rfl) ?_
    refine va_get (D := D) (ci := 0) (v := .ref (o + 1)) (C := "WideNumbers") (T := F_C) (N := 7) hx hb htw inC hown hK hO.1 0 rfl rfl 0 (by decide) (htw _ kw_20) (fun _ h9 => h9) rfl d_C_compare_59 ?_
    refine lv_iload_n hx hb d_C_compare_62 rfl (lv_at hl 3 rfl) ?_
    refine x_aald hx hb rfl hQ9 hO.2 kb rfl hkb (by omega) (v := o + 2 + kb) (if_pos hkb) d_C_compare_63 ?_
    refine x_calli (A := CA o) (va_runS (As := [.ref (o + 2 + ka), .ref (o + 2 + kb)]) (rest := []) ⟨hx, hb, hml, hown, htw⟩ (c_order l D cJ cI cQ cR (o + 2 + ka) (o + 2 + kb) (V ka) (V kb) fka fkb hvka hvkb hNka hNkb) (xcS 2 htw kw_176 kw_1 kw_174 kw_175 rfl rfl ⟨by decide, by decide, by decide +kernel⟩ ⟨Nat.le_of_ble_eq_true rfl, Nat.le_of_ble_eq_true rfl⟩) (xPre hK ⟨h_ka, h_kb⟩) rfl rfl hl.1 rfl (lv_room (Nat.le_of_ble_eq_true rfl)) d_C_compare_64 ⟨Nat.le_of_ble_eq_true rfl, Nat.le_of_ble_eq_true rfl⟩) hlo (fun _ h => h.elim) (fun r5 H5 locs5 hB5 hlo => ?_)
    obtain ⟨rfl, rfl⟩ := hB5
    exact vx_ret (W.iret hx hb hr (fun t ht hW => ⟨_, rfl, ht, ka, kb, hka, rfl, hkb, rfl, hcv.symm⟩) hlo d_C_compare_67)
  · refine lv_iload_n hx hb d_C_compare_23 rfl (lv_at hl 4 rfl) ?_
    refine lv_if_eq (tgt := 52) hx hb d_C_compare_24 (by decide) (fun hc => ?_) (fun hc => ?_)
    · exact J _ _ ls ⟨rfl, hl, hlo, by unfold cmpv; rw [if_pos hc]⟩
    · refine lv_iload hx hb d_C_compare_27 (lv_at hl 0 rfl) ?_
      refine lv_aload_n hx hb d_C_compare_29 rfl (lv_at hl 1 rfl) ?_
      refine va_get (D := D) (ci := 0) (v := .ref (o + 1)) (C := "WideNumbers") (T := F_C) (N := 7) hx hb htw inC hown hK hO.1 0 rfl rfl 0 (by decide) (htw _ kw_20) (fun _ h9 => h9) rfl d_C_compare_30 ?_
      refine lv_iload_n hx hb d_C_compare_33 rfl (lv_at hl 3 rfl) ?_
      refine x_aald hx hb rfl hQ9 hO.2 kb rfl hkb (by omega) (v := o + 2 + kb) (if_pos hkb) d_C_compare_34 ?_
      refine x_calli (A := CA o) (va_runS (As := [.ref (o + 2 + kb)]) (rest := [.int (if 2 ^ 255 ≤ V ka then 1 else 0)]) ⟨hx, hb, hml, hown, htw⟩ (c_isNegative l D cJ cI cQ cR (o + 2 + kb) (V kb) fkb hvkb hNkb) (xcS 1 htw kw_189 kw_1 kw_187 kw_188 rfl rfl ⟨by decide, by decide, by decide +kernel⟩ ⟨Nat.le_of_ble_eq_true rfl, Nat.le_of_ble_eq_true rfl⟩) (xPre hK h_kb) rfl rfl hl.1 rfl (lv_room (Nat.le_of_ble_eq_true rfl)) d_C_compare_35 ⟨Nat.le_of_ble_eq_true rfl, Nat.le_of_ble_eq_true rfl⟩) hlo (fun _ h => h.elim) (fun r3 H3 locs3 hB3 hlo => ?_)
      obtain ⟨rfl, rfl⟩ := hB3
      refine lv_icmp_eq (tgt := 52) hx hb d_C_compare_38 (by decide) (fun hc2 => ?_) (fun hc2 => ?_)
      · exact J _ _ ls ⟨rfl, hl, hlo, by
          unfold cmpv
          rw [if_neg hc]
          by_cases h1 : 2 ^ 255 ≤ V ka
          · by_cases h2 : 2 ^ 255 ≤ V kb
            · rw [if_neg (fun h => h.2 h2), if_neg (fun h => h.1 h1)]
            · rw [if_pos h1, if_neg h2] at hc2
              exact absurd hc2 (by decide)
          · by_cases h2 : 2 ^ 255 ≤ V kb
            · rw [if_neg h1, if_pos h2] at hc2
              exact absurd hc2 (by decide)
            · rw [if_neg (fun h => h1 h.1), if_neg (fun h => h2 h.2)]⟩
      · refine lv_iload hx hb d_C_compare_41 (lv_at hl 0 rfl) ?_
        refine lv_if_eq (tgt := 50) hx hb d_C_compare_43 (by decide) (fun hc3 => ?_) (fun hc3 => ?_)
        · have h1 : ¬ 2 ^ 255 ≤ V ka := fun h => by
            rw [if_pos h] at hc3
            exact absurd hc3 (by decide)
          have h2 : 2 ^ 255 ≤ V kb := Decidable.byContradiction (fun h => hc2 (by rw [if_neg h1, if_neg h]))
          refine lv_iconst (v := nI 1) hx hb d_C_compare_50 (by decide) ?_
          exact vx_ret (W.iret hx hb hr (fun t ht hW => ⟨_, rfl, ht, ka, kb, hka, rfl, hkb, rfl, by unfold cmpv; rw [if_neg hc, if_neg (fun h => h1 h.1), if_pos ⟨h1, h2⟩]; rfl⟩) hlo d_C_compare_51)
        · have h1 : 2 ^ 255 ≤ V ka := Decidable.byContradiction (fun h => hc3 (by rw [if_neg h]))
          have h2 : ¬ 2 ^ 255 ≤ V kb := fun h => hc2 (by rw [if_pos h1, if_pos h])
          refine lv_iconst (v := -1) hx hb d_C_compare_46 (by decide) ?_
          refine lv_goto (tgt := 51) hx hb d_C_compare_47 (by decide) ?_
          exact vx_ret (W.iret hx hb hr (fun t ht hW => ⟨_, rfl, ht, ka, kb, hka, rfl, hkb, rfl, by unfold cmpv; rw [if_neg hc, if_pos ⟨h1, h2⟩]⟩) hlo d_C_compare_51)
set_option maxHeartbeats 4000000 in
set_option maxRecDepth 100000 in
theorem c_bytes (l : Launch) (D : va_G) (cJ cI cQ cR : ClassId) (b0 sa : Nat) (hst : l.stackTraces = false) (o : Nat) (V : Nat → Nat) (hV : ∀ r, r < 16 → V r < 2 ^ 256) (a : Int32) : vx_Met l y_C_bytes w_C_bytes { frames := 8, cells := 1, slots := 6, locals := 131 } (xPX D vwCl (TY cJ cI cQ cR) b0 sa [.ref o, .int a] (fun H => CO D cJ cQ o V H)) (xQi (fun x H0 H => H = H0 ∧ ∃ ka n : Nat, ka < 16 ∧ a = nI ka ∧ x = nI n ∧ byv (V ka) n ∧ n ≤ 32)) (xX (fun H0 H => ¬ vd a 16 ∧ XF (fun _ => False) H0 H)) 1 6 (CA o) := by
  refine vx_ofW (cc := b_C_bytes) (maxL := 2) (ret := some .int) (by decide) rfl ?_
  intro p e s m args below meth c s₁ B hml hno hv
  obtain ⟨rfl, hK, hE, ⟨hO, hSC, hR⟩⟩ := hv
  have hx := B.exec
  have hb := B.bytes
  have hr := B.returns
  have hts := atoms_spec (ws := w_C_bytes) B.pre
  have htw : ∀ w ∈ WT, w.before _ s = true := fun w h => hts w (List.mem_cons_of_mem _ h)
  have hown : s.vm.findClass "WideNumbers" = some m.cls := findClass_of_methodNamed B.named
  have hlocks := B.notSynchronized
  have hJ : ArrOfT s cJ .long := (hK.2 0 _ rfl).1
  have hI9 : ArrOfT s cI .int := (hK.2 1 _ rfl).1
  have hQ9 : ArrOfT s cQ (.array .long) := (hK.2 2 _ rfl).1
  have hl := lv_entry ([.ref o, .int a]) (n := 2) (Nat.le_of_ble_eq_true rfl)
  rw [lg_entry_eq]
  generalize (lg_sl ([.ref o, .int a]) ++ List.replicate (2 - (lg_sl ([.ref o, .int a])).length) Slot.unset).toArray = ls at hl ⊢
  have hl : lv_has ls 2 [(0, .ref o), (1, .int a)] := hl
  have hlo : ∀ q ∈ ([] : List Loc), CA o q.base := fun _ h => nomatch h
  refine lv_iload_n hx hb d_C_bytes_0 rfl (lv_at hl 1 rfl) ?_
  refine lv_bipush (v := nI 16) hx hb d_C_bytes_1 (by decide) ?_
  refine x_xcallv (A := CA o) (vx_runS (As := [.int a, .int (nI 16)]) (rest := []) ⟨hx, hb, hml, hown, htw⟩ (c_refuse l D cJ cI cQ cR b0 sa hst a 16 (by decide)) (xcS 2 htw kw_53 kw_1 kw_51 kw_52 rfl rfl ⟨by decide, by decide, by decide +kernel⟩ ⟨Nat.le_of_ble_eq_true rfl, Nat.le_of_ble_eq_true rfl⟩) (xPreX hK hE (fun _ _ _ => rfl) trivial) rfl rfl hl.1 rfl (lv_room (Nat.le_of_ble_eq_true rfl)) d_C_bytes_3 ⟨Nat.le_of_ble_eq_true rfl, Nat.le_of_ble_eq_true rfl⟩) hlo (fun _ h => h.elim) (fun q9 ce H1 locs1 hB1 hlo hc9 hv9 hcl9 => ?_) (fun H1 locs1 hB1 hlo => ?_)
  · obtain ⟨hinv, hF⟩ := hB1
    exact vx_out (fun x hx => (hno x hx).elim) hlocks hc9 hv9 hcl9 (fun t ht _ => ⟨rfl, hinv, by rw [ht]; exact hF⟩) hlo (by decide) (by decide)
  obtain ⟨rfl, ka, hka, rfl⟩ := hB1
  have hl : lv_has ls 2 [(0, .ref o), (1, .int (nI ka))] := hl
  obtain ⟨fka, h_ka, hNka⟩ := hR ka hka
  have hvka := hV ka hka
  refine lv_aload_n hx hb d_C_bytes_6 rfl (lv_at hl 0 rfl) ?_
  refine va_get (D := D) (ci := 0) (v := .ref (o + 1)) (C := "WideNumbers") (T := F_C) (N := 7) hx hb htw inC hown hK hO.1 0 rfl rfl 0 (by decide) (htw _ kw_20) (fun _ h9 => h9) rfl d_C_bytes_7 ?_
  refine lv_iload_n hx hb d_C_bytes_10 rfl (lv_at hl 1 rfl) ?_
  refine x_aald hx hb rfl hQ9 hO.2 ka rfl hka (by omega) (v := o + 2 + ka) (if_pos hka) d_C_bytes_11 ?_
  refine x_calli (A := CA o) (va_runS (As := [.ref (o + 2 + ka)]) (rest := []) ⟨hx, hb, hml, hown, htw⟩ (c_usedBits l D cJ cI cQ cR (o + 2 + ka) 8 (V ka) fka (by decide) hvka hNka) (xcS 1 htw kw_163 kw_1 kw_161 kw_162 rfl rfl ⟨by decide, by decide, by decide +kernel⟩ ⟨Nat.le_of_ble_eq_true rfl, Nat.le_of_ble_eq_true rfl⟩) (xPre hK h_ka) rfl rfl hl.1 rfl (lv_room (Nat.le_of_ble_eq_true rfl)) d_C_bytes_12 ⟨Nat.le_of_ble_eq_true rfl, Nat.le_of_ble_eq_true rfl⟩) hlo (fun _ h => h.elim) (fun r2 H2 locs2 hB2 hlo => ?_)
  obtain ⟨rfl, k, rfl, hk, hk3⟩ := hB2
  refine lv_bipush (v := nI 8) hx hb d_C_bytes_15 (by decide) ?_
  refine lv_iadd hx hb d_C_bytes_17 ?_
  refine x_topi (v := nI (k + 8)) (nI_add _ _) ?_
  refine lv_iconst (v := nI 1) hx hb d_C_bytes_18 (by decide) ?_
  refine lv_isub hx hb d_C_bytes_19 ?_
  refine x_topi (v := nI (k + 8 - 1)) (pk_sub (by omega)) ?_
  refine lv_bipush (v := nI 8) hx hb d_C_bytes_20 (by decide) ?_
  refine lv_idiv hx hb d_C_bytes_22 (by decide) ?_
  refine x_topi (v := nI ((k + 8 - 1) / 8)) (pk_div (by omega) (by decide) (by decide)) ?_
  exact vx_ret (W.iret hx hb hr (fun t ht hW => ⟨_, rfl, ht, ka, (k + 7) / 8, hka, rfl, congrArg nI (by omega), by_of hk, by omega⟩) hlo d_C_bytes_23)
set_option maxHeartbeats 4000000 in
set_option maxRecDepth 100000 in
theorem c_modular (l : Launch) (D : va_G) (cJ cI cQ cR : ClassId) (b0 sa : Nat) (hst : l.stackTraces = false) (o : Nat) (V : Nat → Nat) (hV : ∀ r, r < 16 → V r < 2 ^ 256) (to a b c1 z : Int32) : vx_Met l y_C_modular w_C_modular { frames := 8, cells := 4, slots := 24, locals := 131 } (xPX D vwCl (TY cJ cI cQ cR) b0 sa [.ref o, .int to, .int a, .int b, .int c1, .int z] (fun H => CO D cJ cQ o V H)) (xQv (fun H0 H => XF (CA o) H0 H ∧ ∃ kt ka kb kc : Nat, kt < 16 ∧ to = nI kt ∧ ka < 16 ∧ a = nI ka ∧ kb < 16 ∧ b = nI kb ∧ kc < 16 ∧ c1 = nI kc ∧ CO D cJ cQ o (va_up V kt (mdv z (V ka) (V kb) (V kc))) H)) (xX (fun H0 H => ¬ (vd to 16 ∧ vd a 16 ∧ vd b 16 ∧ vd c1 16) ∧ XF (fun _ => False) H0 H)) 4 24 (CA o) := by
  refine vx_ofW (cc := b_C_modular) (maxL := 6) (ret := none) (by decide) rfl ?_
  intro p e s m args below meth c s₁ B hml hno hv
  obtain ⟨rfl, hK, hE, ⟨hO, hSC, hR⟩⟩ := hv
  have hx := B.exec
  have hb := B.bytes
  have hr := B.returns
  have hts := atoms_spec (ws := w_C_modular) B.pre
  have htw : ∀ w ∈ WT, w.before _ s = true := fun w h => hts w (List.mem_cons_of_mem _ h)
  have hown : s.vm.findClass "WideNumbers" = some m.cls := findClass_of_methodNamed B.named
  have hlocks := B.notSynchronized
  have hJ : ArrOfT s cJ .long := (hK.2 0 _ rfl).1
  have hI9 : ArrOfT s cI .int := (hK.2 1 _ rfl).1
  have hQ9 : ArrOfT s cQ (.array .long) := (hK.2 2 _ rfl).1
  have hl := lv_entry ([.ref o, .int to, .int a, .int b, .int c1, .int z]) (n := 6) (Nat.le_of_ble_eq_true rfl)
  rw [lg_entry_eq]
  generalize (lg_sl ([.ref o, .int to, .int a, .int b, .int c1, .int z]) ++ List.replicate (6 - (lg_sl ([.ref o, .int to, .int a, .int b, .int c1, .int z])).length) Slot.unset).toArray = ls at hl ⊢
  have hl : lv_has ls 6 [(0, .ref o), (1, .int to), (2, .int a), (3, .int b), (4, .int c1), (5, .int z)] := hl
  have hlo : ∀ q ∈ ([] : List Loc), CA o q.base := fun _ h => nomatch h
  refine lv_iload_n hx hb d_C_modular_0 rfl (lv_at hl 1 rfl) ?_
  refine lv_bipush (v := nI 16) hx hb d_C_modular_1 (by decide) ?_
  refine x_xcallv (A := CA o) (vx_runS (As := [.int to, .int (nI 16)]) (rest := []) ⟨hx, hb, hml, hown, htw⟩ (c_refuse l D cJ cI cQ cR b0 sa hst to 16 (by decide)) (xcS 2 htw kw_53 kw_1 kw_51 kw_52 rfl rfl ⟨by decide, by decide, by decide +kernel⟩ ⟨Nat.le_of_ble_eq_true rfl, Nat.le_of_ble_eq_true rfl⟩) (xPreX hK hE (fun _ _ _ => rfl) trivial) rfl rfl hl.1 rfl (lv_room (Nat.le_of_ble_eq_true rfl)) d_C_modular_3 ⟨Nat.le_of_ble_eq_true rfl, Nat.le_of_ble_eq_true rfl⟩) hlo (fun _ h => h.elim) (fun q9 ce H1 locs1 hB1 hlo hc9 hv9 hcl9 => ?_) (fun H1 locs1 hB1 hlo => ?_)
  · obtain ⟨hinv, hF⟩ := hB1
    exact vx_out (fun x hx => (hno x hx).elim) hlocks hc9 hv9 hcl9 (fun t ht _ => ⟨rfl, fun h => hinv h.1, by rw [ht]; exact hF⟩) hlo (by decide) (by decide)
  obtain ⟨rfl, kt, hkt, rfl⟩ := hB1
  have hl : lv_has ls 6 [(0, .ref o), (1, .int (nI kt)), (2, .int a), (3, .int b), (4, .int c1), (5, .int z)] := hl
  refine lv_iload_n hx hb d_C_modular_6 rfl (lv_at hl 2 rfl) ?_
  refine lv_bipush (v := nI 16) hx hb d_C_modular_7 (by decide) ?_
  refine x_xcallv (A := CA o) (vx_runS (As := [.int a, .int (nI 16)]) (rest := []) ⟨hx, hb, hml, hown, htw⟩ (c_refuse l D cJ cI cQ cR b0 sa hst a 16 (by decide)) (xcS 2 htw kw_53 kw_1 kw_51 kw_52 rfl rfl ⟨by decide, by decide, by decide +kernel⟩ ⟨Nat.le_of_ble_eq_true rfl, Nat.le_of_ble_eq_true rfl⟩) (xPreX hK hE (fun _ _ _ => rfl) trivial) rfl rfl hl.1 rfl (lv_room (Nat.le_of_ble_eq_true rfl)) d_C_modular_9 ⟨Nat.le_of_ble_eq_true rfl, Nat.le_of_ble_eq_true rfl⟩) hlo (fun _ h => h.elim) (fun q9 ce H1 locs1 hB1 hlo hc9 hv9 hcl9 => ?_) (fun H1 locs1 hB1 hlo => ?_)
  · obtain ⟨hinv, hF⟩ := hB1
    exact vx_out (fun x hx => (hno x hx).elim) hlocks hc9 hv9 hcl9 (fun t ht _ => ⟨rfl, fun h => hinv h.2.1, by rw [ht]; exact hF⟩) hlo (by decide) (by decide)
  obtain ⟨rfl, ka, hka, rfl⟩ := hB1
  have hl : lv_has ls 6 [(0, .ref o), (1, .int (nI kt)), (2, .int (nI ka)), (3, .int b), (4, .int c1), (5, .int z)] := hl
  refine lv_iload_n hx hb d_C_modular_12 rfl (lv_at hl 3 rfl) ?_
  refine lv_bipush (v := nI 16) hx hb d_C_modular_13 (by decide) ?_
  refine x_xcallv (A := CA o) (vx_runS (As := [.int b, .int (nI 16)]) (rest := []) ⟨hx, hb, hml, hown, htw⟩ (c_refuse l D cJ cI cQ cR b0 sa hst b 16 (by decide)) (xcS 2 htw kw_53 kw_1 kw_51 kw_52 rfl rfl ⟨by decide, by decide, by decide +kernel⟩ ⟨Nat.le_of_ble_eq_true rfl, Nat.le_of_ble_eq_true rfl⟩) (xPreX hK hE (fun _ _ _ => rfl) trivial) rfl rfl hl.1 rfl (lv_room (Nat.le_of_ble_eq_true rfl)) d_C_modular_15 ⟨Nat.le_of_ble_eq_true rfl, Nat.le_of_ble_eq_true rfl⟩) hlo (fun _ h => h.elim) (fun q9 ce H1 locs1 hB1 hlo hc9 hv9 hcl9 => ?_) (fun H1 locs1 hB1 hlo => ?_)
  · obtain ⟨hinv, hF⟩ := hB1
    exact vx_out (fun x hx => (hno x hx).elim) hlocks hc9 hv9 hcl9 (fun t ht _ => ⟨rfl, fun h => hinv h.2.2.1, by rw [ht]; exact hF⟩) hlo (by decide) (by decide)
  obtain ⟨rfl, kb, hkb, rfl⟩ := hB1
  have hl : lv_has ls 6 [(0, .ref o), (1, .int (nI kt)), (2, .int (nI ka)), (3, .int (nI kb)), (4, .int c1), (5, .int z)] := hl
  refine lv_iload hx hb d_C_modular_18 (lv_at hl 4 rfl) ?_
  refine lv_bipush (v := nI 16) hx hb d_C_modular_20 (by decide) ?_
  refine x_xcallv (A := CA o) (vx_runS (As := [.int c1, .int (nI 16)]) (rest := []) ⟨hx, hb, hml, hown, htw⟩ (c_refuse l D cJ cI cQ cR b0 sa hst c1 16 (by decide)) (xcS 2 htw kw_53 kw_1 kw_51 kw_52 rfl rfl ⟨by decide, by decide, by decide +kernel⟩ ⟨Nat.le_of_ble_eq_true rfl, Nat.le_of_ble_eq_true rfl⟩) (xPreX hK hE (fun _ _ _ => rfl) trivial) rfl rfl hl.1 rfl (lv_room (Nat.le_of_ble_eq_true rfl)) d_C_modular_22 ⟨Nat.le_of_ble_eq_true rfl, Nat.le_of_ble_eq_true rfl⟩) hlo (fun _ h => h.elim) (fun q9 ce H1 locs1 hB1 hlo hc9 hv9 hcl9 => ?_) (fun H1 locs1 hB1 hlo => ?_)
  · obtain ⟨hinv, hF⟩ := hB1
    exact vx_out (fun x hx => (hno x hx).elim) hlocks hc9 hv9 hcl9 (fun t ht _ => ⟨rfl, fun h => hinv h.2.2.2, by rw [ht]; exact hF⟩) hlo (by decide) (by decide)
  obtain ⟨rfl, kc, hkc, rfl⟩ := hB1
  have hl : lv_has ls 6 [(0, .ref o), (1, .int (nI kt)), (2, .int (nI ka)), (3, .int (nI kb)), (4, .int (nI kc)), (5, .int z)] := hl
  obtain ⟨fka, h_ka, hNka⟩ := hR ka hka
  have hvka := hV ka hka
  obtain ⟨fkb, h_kb, hNkb⟩ := hR kb hkb
  have hvkb := hV kb hkb
  obtain ⟨fkc, h_kc, hNkc⟩ := hR kc hkc
  have hvkc := hV kc hkc
  obtain ⟨⟨f18, h18⟩, ⟨f19, h19⟩, ⟨f20, h20⟩, ⟨f21, h21⟩, ⟨f22, h22⟩, ⟨f23, h23⟩⟩ := hSC
  refine lv_iload hx hb d_C_modular_25 (lv_at hl 5 rfl) ?_
  refine x_cut 86 (fun H locs ls => lv_has ls 6 [(0, .ref o), (1, .int (nI kt)), (2, .int (nI ka)), (3, .int (nI kb)), (4, .int (nI kc)), (5, .int z)] ∧ (∀ q ∈ locs, CA o q.base) ∧ XF (fun q => q = o + 21) s.heap H ∧ ∃ (u : Nat) (f : Nat → Int64), hL H cJ (o + 21) 16 f ∧ NL f 16 u ∧ u < 2 ^ 512 ∧ u = (if z = 0 then V ka + V kb else V ka * V kb)) ?_ (fun J => ?_)
  · rintro H locs ls ⟨hl, hlo, hF0, u, f, hf, hN, hu, hue⟩
    have hO := hO.f1 hF0 (by omega)
    have hR := hR.f1 hF0 (by omega)
    have h_kc := hL_f h_kc hF0 (show o + 2 + kc ≠ o + 21 by omega)
    have h22 := hL_f h22 hF0 (show o + 22 ≠ o + 21 by omega)
    have h23 := hL_f h23 hF0 (show o + 23 ≠ o + 21 by omega)
    have h18 := hL_f h18 hF0 (show o + 18 ≠ o + 21 by omega)
    have h19 := hL_f h19 hF0 (show o + 19 ≠ o + 21 by omega)
    have h20 := hL_f h20 hF0 (show o + 20 ≠ o + 21 by omega)
    refine lv_aload_n hx hb d_C_modular_86 rfl (lv_at hl 0 rfl) ?_
    refine lv_aload_n hx hb d_C_modular_87 rfl (lv_at hl 0 rfl) ?_
    refine va_get (D := D) (ci := 0) (v := .ref (o + 21)) (C := "WideNumbers") (T := F_C) (N := 7) hx hb htw inC hown hK hO.1 0 rfl rfl 4 (by decide) (htw _ kw_24) (fun _ h9 => h9) rfl d_C_modular_88 ?_
    refine lv_aload_n hx hb d_C_modular_91 rfl (lv_at hl 0 rfl) ?_
    refine va_get (D := D) (ci := 0) (v := .ref (o + 1)) (C := "WideNumbers") (T := F_C) (N := 7) hx hb htw inC hown hK hO.1 0 rfl rfl 0 (by decide) (htw _ kw_20) (fun _ h9 => h9) rfl d_C_modular_92 ?_
    refine lv_iload hx hb d_C_modular_95 (lv_at hl 4 rfl) ?_
    refine x_aald hx hb rfl hQ9 hO.2 kc rfl hkc (by omega) (v := o + 2 + kc) (if_pos hkc) d_C_modular_97 ?_
    refine x_callv (A := CA o) (va_runV (As := [.ref (o + 21), .ref (o + 2 + kc)]) (rest := []) ⟨hx, hb, hml, hown, htw⟩ (c_divide l D cJ cI cQ cR o (o + 21) (o + 2 + kc) 16 u (V kc) f22 f23 f fkc (Or.inr rfl) (nDA (by omega)) (nDA (by omega)) hu hvkc hN hNkc) (xcV 2 htw kw_160 kw_1 kw_157 kw_159 ks_C_divide rfl rfl ⟨by decide, by decide, by decide +kernel⟩ ⟨Nat.le_of_ble_eq_true rfl, Nat.le_of_ble_eq_true rfl⟩) (xPreV hK (hO.rv hK) ⟨hO, h22, h23, hf, h_kc⟩) rfl rfl hl.1 rfl (lv_room (Nat.le_of_ble_eq_true rfl)) d_C_modular_98 ⟨Nat.le_of_ble_eq_true rfl, Nat.le_of_ble_eq_true rfl⟩) hlo (fun q h => by rcases h with h | h <;> (rw [h]; exact ⟨by omega, by omega⟩)) (fun H1 locs1 hB1 hlo => ?_)
    obtain ⟨hF1, f1, g1, hf1, hN1, hg1, hM1⟩ := hB1
    have hO := hO.fD hF1
    have hR := hR.fD hF1
    have hSC : SC cJ o H1 := ⟨⟨_, hL_f h18 hF1 (nDA (by omega))⟩, ⟨_, hL_f h19 hF1 (nDA (by omega))⟩, ⟨_, hL_f h20 hF1 (nDA (by omega))⟩, ⟨_, hL_f hf hF1 (nDA (by omega))⟩, ⟨_, hf1⟩, ⟨_, hg1⟩⟩
    have hG : XF (CA o) s.heap H1 := (hF0.wk (fun q h => by have h : q = o + 21 := h; rw [h]; exact ⟨by omega, by omega⟩)).tr hF1 (fun q h => by rcases h with h | h <;> (rw [h]; exact ⟨by omega, by omega⟩))
    have hmv : (if V kc = 0 then 0 else u % V kc) = mdv z (V ka) (V kb) (V kc) := by
      unfold mdv
      rw [hue]
    rw [hmv] at hM1
    refine lv_aload_n hx hb d_C_modular_101 rfl (lv_at hl 0 rfl) ?_
    refine va_get (D := D) (ci := 0) (v := .ref (o + 1)) (C := "WideNumbers") (T := F_C) (N := 7) hx hb htw inC hown hK hO.1 0 rfl rfl 0 (by decide) (htw _ kw_20) (fun _ h9 => h9) rfl d_C_modular_102 ?_
    refine lv_iload_n hx hb d_C_modular_105 rfl (lv_at hl 1 rfl) ?_
    refine x_aald hx hb rfl hQ9 hO.2 kt rfl hkt (by omega) (v := o + 2 + kt) (if_pos hkt) d_C_modular_106 ?_
    refine lv_aload_n hx hb d_C_modular_107 rfl (lv_at hl 0 rfl) ?_
    refine va_get (D := D) (ci := 0) (v := .ref (o + 23)) (C := "WideNumbers") (T := F_C) (N := 7) hx hb htw inC hown hK hO.1 0 rfl rfl 6 (by decide) (htw _ kw_26) (fun _ h9 => h9) rfl d_C_modular_108 ?_
    obtain ⟨ft, h_t, hNt⟩ := hR kt hkt
    refine x_callv (A := CA o) (va_runS (As := [.ref (o + 2 + kt), .ref (o + 23)]) (rest := []) ⟨hx, hb, hml, hown, htw⟩ (c_copy l D cJ cI cQ cR (o + 2 + kt) (o + 23) 8 (mdv z (V ka) (V kb) (V kc)) ft g1 (by decide) (by omega) hM1) (xcS 2 htw kw_179 kw_1 kw_177 kw_178 rfl rfl ⟨by decide, by decide, by decide +kernel⟩ ⟨Nat.le_of_ble_eq_true rfl, Nat.le_of_ble_eq_true rfl⟩) (xPre hK ⟨h_t, hg1⟩) rfl rfl hl.1 rfl (lv_room (Nat.le_of_ble_eq_true rfl)) d_C_modular_111 ⟨Nat.le_of_ble_eq_true rfl, Nat.le_of_ble_eq_true rfl⟩) hlo (fun q h => by rcases h with h | h <;> (rw [h]; exact ⟨by omega, by omega⟩)) (fun H8 locs8 hB8 hlo => ?_)
    obtain ⟨hF8, f8, hf8, hN8⟩ := hB8
    have hO := hO.f1 hF8 (by omega)
    have hSC := hSC.f1 hF8 (by omega)
    have hR := hR.put hF8 hf8 hN8
    have hG := hG.tr hF8 (fun q h => by have h : q = o + 2 + kt := h; rw [h]; exact ⟨by omega, by omega⟩)
    exact vx_ret (W.vret hx hb hr (fun t ht hW => ⟨rfl, by rw [ht]; exact hG, kt, ka, kb, kc, hkt, rfl, hka, rfl, hkb, rfl, hkc, rfl, by rw [ht]; exact ⟨hO, hSC, hR⟩⟩) hlo d_C_modular_114)
  · refine lv_if_eq (tgt := 52) hx hb d_C_modular_27 (by decide) (fun hc => ?_) (fun hc => ?_)
    · refine lv_aload_n hx hb d_C_modular_52 rfl (lv_at hl 0 rfl) ?_
      refine va_get (D := D) (ci := 0) (v := .ref (o + 21)) (C := "WideNumbers") (T := F_C) (N := 7) hx hb htw inC hown hK hO.1 0 rfl rfl 4 (by decide) (htw _ kw_24) (fun _ h9 => h9) rfl d_C_modular_53 ?_
      refine lv_lconst (v := lN 0) hx hb d_C_modular_56 (by decide) ?_
      refine x_callv (A := CA o) (va_runS (As := [.ref (o + 21), .long (lN 0)]) (rest := []) ⟨hx, hb, hml, hown, htw⟩ (c_fill l D cJ cI cQ cR (o + 21) 16 (lN 0) f21 (by decide)) (xcS 2 htw kw_156 kw_7 kw_154 kw_155 rfl rfl ⟨by decide, by decide, by decide +kernel⟩ ⟨Nat.le_of_ble_eq_true rfl, Nat.le_of_ble_eq_true rfl⟩) (xPre hK h21) rfl rfl hl.1 rfl (lv_room (Nat.le_of_ble_eq_true rfl)) d_C_modular_57 ⟨Nat.le_of_ble_eq_true rfl, Nat.le_of_ble_eq_true rfl⟩) hlo (fun q h => by have h : q = o + 21 := h; rw [h]; exact ⟨by omega, by omega⟩) (fun H1 locs1 hB1 hlo => ?_)
      obtain ⟨hF1, f1, hf1, hN1⟩ := hB1
      have hO := hO.f1 hF1 (by omega)
      have h_ka := hL_f h_ka hF1 (show o + 2 + ka ≠ o + 21 by omega)
      have h_kb := hL_f h_kb hF1 (show o + 2 + kb ≠ o + 21 by omega)
      refine lv_aload_n hx hb d_C_modular_60 rfl (lv_at hl 0 rfl) ?_
      refine va_get (D := D) (ci := 0) (v := .ref (o + 21)) (C := "WideNumbers") (T := F_C) (N := 7) hx hb htw inC hown hK hO.1 0 rfl rfl 4 (by decide) (htw _ kw_24) (fun _ h9 => h9) rfl d_C_modular_61 ?_
      refine lv_bipush (v := nI 8) hx hb d_C_modular_64 (by decide) ?_
      refine lv_aload_n hx hb d_C_modular_66 rfl (lv_at hl 0 rfl) ?_
      refine va_get (D := D) (ci := 0) (v := .ref (o + 21)) (C := "WideNumbers") (T := F_C) (N := 7) hx hb htw inC hown hK hO.1 0 rfl rfl 4 (by decide) (htw _ kw_24) (fun _ h9 => h9) rfl d_C_modular_67 ?_
      refine lv_aload_n hx hb d_C_modular_70 rfl (lv_at hl 0 rfl) ?_
      refine va_get (D := D) (ci := 0) (v := .ref (o + 1)) (C := "WideNumbers") (T := F_C) (N := 7) hx hb htw inC hown hK hO.1 0 rfl rfl 0 (by decide) (htw _ kw_20) (fun _ h9 => h9) rfl d_C_modular_71 ?_
      refine lv_iload_n hx hb d_C_modular_74 rfl (lv_at hl 2 rfl) ?_
      refine x_aald hx hb rfl hQ9 hO.2 ka rfl hka (by omega) (v := o + 2 + ka) (if_pos hka) d_C_modular_75 ?_
      refine lv_aload_n hx hb d_C_modular_76 rfl (lv_at hl 0 rfl) ?_
      refine va_get (D := D) (ci := 0) (v := .ref (o + 1)) (C := "WideNumbers") (T := F_C) (N := 7) hx hb htw inC hown hK hO.1 0 rfl rfl 0 (by decide) (htw _ kw_20) (fun _ h9 => h9) rfl d_C_modular_77 ?_
      refine lv_iload_n hx hb d_C_modular_80 rfl (lv_at hl 3 rfl) ?_
      refine x_aald hx hb rfl hQ9 hO.2 kb rfl hkb (by omega) (v := o + 2 + kb) (if_pos hkb) d_C_modular_81 ?_
      refine x_calll (A := CA o) (va_runS (As := [.ref (o + 21), .ref (o + 2 + ka), .ref (o + 2 + kb)]) (rest := [.int (nI 8), .ref (o + 21)]) ⟨hx, hb, hml, hown, htw⟩ (c_add l D cJ cI cQ cR (o + 21) (o + 2 + ka) (o + 2 + kb) 16 (V ka) (V kb) f1 fka fkb (by decide) (by omega) (by omega) hvka hvkb hNka hNkb) (xcS 3 htw kw_147 kw_1 kw_145 kw_146 rfl rfl ⟨by decide, by decide, by decide +kernel⟩ ⟨Nat.le_of_ble_eq_true rfl, Nat.le_of_ble_eq_true rfl⟩) (xPre hK ⟨hf1, h_ka, h_kb⟩) rfl rfl hl.1 rfl (lv_room (Nat.le_of_ble_eq_true rfl)) d_C_modular_82 ⟨Nat.le_of_ble_eq_true rfl, Nat.le_of_ble_eq_true rfl⟩) hlo (fun q h => by have h : q = o + 21 := h; rw [h]; exact ⟨by omega, by omega⟩) (fun r2 H2 locs2 hB2 hlo => ?_)
      obtain ⟨hF2, c2, v2, f2, rfl, hf2, hhi2, hN2, hv2, he2, hc2⟩ := hB2
      refine x_last (A := CA o) hx hb hJ hf2 hlo (⟨by omega, by omega⟩) (8) (rfl) (by omega) (by omega) d_C_modular_85 (fun H3 locs3 h3 hF3 hlo => ?_)
      have hNs := NL_put hN2 hv2 (show c2 < 4294967296 by omega)
      rw [show 2 ^ (32 * 8) = 2 ^ 256 from rfl, he2] at hNs
      exact J _ _ ls ⟨hl, hlo, (hF1.tr hF2 (fun _ h => h)).tr hF3 (fun _ h => h), V ka + V kb, _, h3, fun j hj => by
        by_cases h9 : j < 9
        · exact hNs j h9
        · rw [pk_uLn (by omega), hhi2 j (by omega), hN1 j hj, dg_big (Nat.lt_of_lt_of_le (show V ka + V kb < 2 ^ 257 by omega) (pw_le (by omega)))], by omega, by rw [if_pos hc]⟩
    · refine lv_aload_n hx hb d_C_modular_30 rfl (lv_at hl 0 rfl) ?_
      refine va_get (D := D) (ci := 0) (v := .ref (o + 21)) (C := "WideNumbers") (T := F_C) (N := 7) hx hb htw inC hown hK hO.1 0 rfl rfl 4 (by decide) (htw _ kw_24) (fun _ h9 => h9) rfl d_C_modular_31 ?_
      refine lv_aload_n hx hb d_C_modular_34 rfl (lv_at hl 0 rfl) ?_
      refine va_get (D := D) (ci := 0) (v := .ref (o + 1)) (C := "WideNumbers") (T := F_C) (N := 7) hx hb htw inC hown hK hO.1 0 rfl rfl 0 (by decide) (htw _ kw_20) (fun _ h9 => h9) rfl d_C_modular_35 ?_
      refine lv_iload_n hx hb d_C_modular_38 rfl (lv_at hl 2 rfl) ?_
      refine x_aald hx hb rfl hQ9 hO.2 ka rfl hka (by omega) (v := o + 2 + ka) (if_pos hka) d_C_modular_39 ?_
      refine lv_aload_n hx hb d_C_modular_40 rfl (lv_at hl 0 rfl) ?_
      refine va_get (D := D) (ci := 0) (v := .ref (o + 1)) (C := "WideNumbers") (T := F_C) (N := 7) hx hb htw inC hown hK hO.1 0 rfl rfl 0 (by decide) (htw _ kw_20) (fun _ h9 => h9) rfl d_C_modular_41 ?_
      refine lv_iload_n hx hb d_C_modular_44 rfl (lv_at hl 3 rfl) ?_
      refine x_aald hx hb rfl hQ9 hO.2 kb rfl hkb (by omega) (v := o + 2 + kb) (if_pos hkb) d_C_modular_45 ?_
      refine x_callv (A := CA o) (va_runS (As := [.ref (o + 21), .ref (o + 2 + ka), .ref (o + 2 + kb)]) (rest := []) ⟨hx, hb, hml, hown, htw⟩ (c_multiply l D cJ cI cQ cR (o + 21) (o + 2 + ka) (o + 2 + kb) 16 (V ka) (V kb) f21 fka fkb (Or.inr rfl) (by omega) (by omega) hvka hvkb hNka hNkb) (xcS 3 htw kw_153 kw_1 kw_151 kw_152 rfl rfl ⟨by decide, by decide, by decide +kernel⟩ ⟨Nat.le_of_ble_eq_true rfl, Nat.le_of_ble_eq_true rfl⟩) (xPre hK ⟨h21, h_ka, h_kb⟩) rfl rfl hl.1 rfl (lv_room (Nat.le_of_ble_eq_true rfl)) d_C_modular_46 ⟨Nat.le_of_ble_eq_true rfl, Nat.le_of_ble_eq_true rfl⟩) hlo (fun q h => by have h : q = o + 21 := h; rw [h]; exact ⟨by omega, by omega⟩) (fun H2 locs2 hB2 hlo => ?_)
      obtain ⟨hF2, f2, hf2, hN2⟩ := hB2
      refine lv_goto (tgt := 86) hx hb d_C_modular_49 (by decide) ?_
      exact J _ _ ls ⟨hl, hlo, hF2, V ka * V kb, f2, hf2, hN2, Nat.lt_of_lt_of_le (Nat.mul_lt_mul_of_lt_of_le hvka (Nat.le_of_lt hvkb) (pw_pos 256)) (by rw [← Nat.pow_add]; exact pw_le (by decide)), by rw [if_neg hc]⟩
