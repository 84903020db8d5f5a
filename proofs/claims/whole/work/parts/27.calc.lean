-- contracts: calculate, arrangeBits
set_option maxHeartbeats 4000000 in
set_option maxRecDepth 100000 in
theorem c_calculate (l : Launch) (D : va_G) (cJ cI cQ cR : ClassId) (op : Nat) (hop : 0 ≤ op ∧ op ≤ 7) (o x y vx vy : Nat) (fx fy : Nat → Int64) (hxr : o + 2 ≤ x ∧ x < o + 18) (hyr : o + 2 ≤ y ∧ y < o + 18) (hvx : vx < 2 ^ 256) (hvy : vy < 2 ^ 256) (hNx : NL fx 8 vx) (hNy : NL fy 8 vy) : Met l y_C_calculate w_C_calculate { frames := 4, cells := 0, slots := 0, locals := 129 } (xP D vwCl (TY cJ cI cQ cR) [.ref o, .int (nI op), .ref x, .ref y] (fun H => CB D cQ o H ∧ SC cJ o H ∧ hL H cJ x 8 fx ∧ hL H cJ y 8 fy)) (xQv (fun H0 H => XF (SA o) H0 H ∧ SC cJ o H ∧ ∃ (f : Nat → Int64), hL H cJ (o + 18) 8 f ∧ NL f 8 (opv op vx vy))) 0 0 (CA o) := by
  refine Met.ofW (cc := b_C_calculate) (maxL := 4) (ret := none) (by decide) rfl ?_
  intro p e s m args below meth c s₁ B hml hv
  obtain ⟨rfl, hK, ⟨hO, hSC, h_X, h_Y⟩⟩ := hv
  have hx := B.exec
  have hb := B.bytes
  have hr := B.returns
  have hts := atoms_spec (ws := w_C_calculate) B.pre
  have htw : ∀ w ∈ WT, w.before _ s = true := fun w h => hts w (List.mem_cons_of_mem _ h)
  have hown : s.vm.findClass "WideNumbers" = some m.cls := findClass_of_methodNamed B.named
  have hlocks := B.notSynchronized
  have hJ : ArrOfT s cJ .long := (hK.2 0 _ rfl).1
  have hI9 : ArrOfT s cI .int := (hK.2 1 _ rfl).1
  have hl := lv_entry ([.ref o, .int (nI op), .ref x, .ref y]) (n := 4) (Nat.le_of_ble_eq_true rfl)
  rw [lg_entry_eq]
  generalize (lg_sl ([.ref o, .int (nI op), .ref x, .ref y]) ++ List.replicate (4 - (lg_sl ([.ref o, .int (nI op), .ref x, .ref y])).length) Slot.unset).toArray = ls at hl ⊢
  have hl : lv_has ls 4 [(0, .ref o), (1, .int (nI op)), (2, .ref x), (3, .ref y)] := hl
  obtain ⟨⟨f18, h_18⟩, ⟨f19, h_19⟩, ⟨f20, h_20⟩, ⟨f21, h_21⟩, ⟨f22, h_22⟩, ⟨f23, h_23⟩⟩ := hSC
  have hG : XF (SA o) s.heap s.heap := XF.rf
  have hlo : ∀ q ∈ ([] : List Loc), CA o q.base := fun _ h => nomatch h
  rcases (show op = 0 ∨ op = 1 ∨ op = 2 ∨ op = 3 ∨ op = 4 ∨ op = 5 ∨ op = 6 ∨ op = 7 by omega) with rfl | rfl | rfl | rfl | rfl | rfl | rfl | rfl
  · refine lv_iload_n hx hb d_C_calculate_0 rfl (lv_at hl 1 rfl) ?_
    refine lv_tableIn (off := 47) (tgt := 48) hx hb d_C_calculate_1 (by decide) (by decide) (by decide) (by decide) ?_
    refine lv_aload_n hx hb d_C_calculate_48 rfl (lv_at hl 0 rfl) ?_
    refine va_get (D := D) (ci := 0) (v := .ref (o + 18)) (C := "WideNumbers") (T := F_C) (N := 7) hx hb htw inC hown hK hO.1 0 rfl rfl 1 (by decide) (htw _ kw_21) (fun _ h9 => h9) rfl d_C_calculate_49 ?_
    refine lv_aload_n hx hb d_C_calculate_52 rfl (lv_at hl 2 rfl) ?_
    refine lv_aload_n hx hb d_C_calculate_53 rfl (lv_at hl 3 rfl) ?_
    refine x_calll (A := CA o) (va_runS (As := [.ref (o + 18), .ref x, .ref y]) (rest := []) ⟨hx, hb, hml, hown, htw⟩ (c_add l D cJ cI cQ cR (o + 18) x y 8 vx vy f18 fx fy (by decide) (by omega) (by omega) hvx hvy hNx hNy) (xcS 3 htw kw_147 kw_1 kw_145 kw_146 rfl rfl ⟨by decide, by decide, by decide +kernel⟩ ⟨Nat.le_of_ble_eq_true rfl, Nat.le_of_ble_eq_true rfl⟩) (xPre hK ⟨h_18, h_X, h_Y⟩) rfl rfl hl.1 rfl (lv_room (Nat.le_of_ble_eq_true rfl)) d_C_calculate_54 ⟨Nat.le_of_ble_eq_true rfl, Nat.le_of_ble_eq_true rfl⟩) hlo (fun q h => by have h : q = o + 18 := h; rw [h]; exact ⟨by omega, by omega⟩) (fun r1 H1 locs1 hB1 hlo => ?_)
    obtain ⟨hF1, c1, v1, f1, rfl, hf1, -, hN1, hv1, he1, hc1⟩ := hB1
    have hv : v1 = (vx + vy) % 2 ^ 256 := by omega
    rw [hv] at hN1
    have h_18 := hf1
    have h_19 := hL_f h_19 hF1 (show o + 19 ≠ o + 18 by omega)
    have h_20 := hL_f h_20 hF1 (show o + 20 ≠ o + 18 by omega)
    have h_21 := hL_f h_21 hF1 (show o + 21 ≠ o + 18 by omega)
    have h_22 := hL_f h_22 hF1 (show o + 22 ≠ o + 18 by omega)
    have h_23 := hL_f h_23 hF1 (show o + 23 ≠ o + 18 by omega)
    have h_X := hL_f h_X hF1 (show x ≠ o + 18 by omega)
    have h_Y := hL_f h_Y hF1 (show y ≠ o + 18 by omega)
    have hO := hO.f1 hF1 (by omega)
    have hG := SA1 hG hF1 (by omega)
    refine lv_pop2_2 hx hb d_C_calculate_57 rfl ?_
    refine lv_goto (tgt := 194) hx hb d_C_calculate_58 (by decide) ?_
    exact W.vret hx hb hr (fun t ht hW => ⟨rfl, by rw [ht]; exact hG, by rw [ht]; exact ⟨⟨_, h_18⟩, ⟨_, h_19⟩, ⟨_, h_20⟩, ⟨_, h_21⟩, ⟨_, h_22⟩, ⟨_, h_23⟩⟩, _, by rw [ht]; exact h_18, hN1⟩) hlo d_C_calculate_194
  · refine lv_iload_n hx hb d_C_calculate_0 rfl (lv_at hl 1 rfl) ?_
    refine lv_tableIn (off := 60) (tgt := 61) hx hb d_C_calculate_1 (by decide) (by decide) (by decide) (by decide) ?_
    refine lv_aload_n hx hb d_C_calculate_61 rfl (lv_at hl 0 rfl) ?_
    refine va_get (D := D) (ci := 0) (v := .ref (o + 18)) (C := "WideNumbers") (T := F_C) (N := 7) hx hb htw inC hown hK hO.1 0 rfl rfl 1 (by decide) (htw _ kw_21) (fun _ h9 => h9) rfl d_C_calculate_62 ?_
    refine lv_aload_n hx hb d_C_calculate_65 rfl (lv_at hl 2 rfl) ?_
    refine lv_aload_n hx hb d_C_calculate_66 rfl (lv_at hl 3 rfl) ?_
    refine x_callv (A := CA o) (va_runS (As := [.ref (o + 18), .ref x, .ref y]) (rest := []) ⟨hx, hb, hml, hown, htw⟩ (c_subtract l D cJ cI cQ cR (o + 18) x y vx vy f18 fx fy (by omega) hvx hvy hNx hNy) (xcS 3 htw kw_150 kw_1 kw_148 kw_149 rfl rfl ⟨by decide, by decide, by decide +kernel⟩ ⟨Nat.le_of_ble_eq_true rfl, Nat.le_of_ble_eq_true rfl⟩) (xPre hK ⟨h_18, h_X, h_Y⟩) rfl rfl hl.1 rfl (lv_room (Nat.le_of_ble_eq_true rfl)) d_C_calculate_67 ⟨Nat.le_of_ble_eq_true rfl, Nat.le_of_ble_eq_true rfl⟩) hlo (fun q h => by have h : q = o + 18 := h; rw [h]; exact ⟨by omega, by omega⟩) (fun H1 locs1 hB1 hlo => ?_)
    obtain ⟨hF1, v1, c1, f1, hf1, hN1, hv1, he1, hc1⟩ := hB1
    have hv : v1 = (vx + (2 ^ 256 - vy)) % 2 ^ 256 := by omega
    rw [hv] at hN1
    have h_18 := hf1
    have h_19 := hL_f h_19 hF1 (show o + 19 ≠ o + 18 by omega)
    have h_20 := hL_f h_20 hF1 (show o + 20 ≠ o + 18 by omega)
    have h_21 := hL_f h_21 hF1 (show o + 21 ≠ o + 18 by omega)
    have h_22 := hL_f h_22 hF1 (show o + 22 ≠ o + 18 by omega)
    have h_23 := hL_f h_23 hF1 (show o + 23 ≠ o + 18 by omega)
    have h_X := hL_f h_X hF1 (show x ≠ o + 18 by omega)
    have h_Y := hL_f h_Y hF1 (show y ≠ o + 18 by omega)
    have hO := hO.f1 hF1 (by omega)
    have hG := SA1 hG hF1 (by omega)
    refine lv_goto (tgt := 194) hx hb d_C_calculate_70 (by decide) ?_
    exact W.vret hx hb hr (fun t ht hW => ⟨rfl, by rw [ht]; exact hG, by rw [ht]; exact ⟨⟨_, h_18⟩, ⟨_, h_19⟩, ⟨_, h_20⟩, ⟨_, h_21⟩, ⟨_, h_22⟩, ⟨_, h_23⟩⟩, _, by rw [ht]; exact h_18, hN1⟩) hlo d_C_calculate_194
  · refine lv_iload_n hx hb d_C_calculate_0 rfl (lv_at hl 1 rfl) ?_
    refine lv_tableIn (off := 72) (tgt := 73) hx hb d_C_calculate_1 (by decide) (by decide) (by decide) (by decide) ?_
    refine lv_aload_n hx hb d_C_calculate_73 rfl (lv_at hl 0 rfl) ?_
    refine va_get (D := D) (ci := 0) (v := .ref (o + 18)) (C := "WideNumbers") (T := F_C) (N := 7) hx hb htw inC hown hK hO.1 0 rfl rfl 1 (by decide) (htw _ kw_21) (fun _ h9 => h9) rfl d_C_calculate_74 ?_
    refine lv_aload_n hx hb d_C_calculate_77 rfl (lv_at hl 2 rfl) ?_
    refine lv_aload_n hx hb d_C_calculate_78 rfl (lv_at hl 3 rfl) ?_
    refine x_callv (A := CA o) (va_runS (As := [.ref (o + 18), .ref x, .ref y]) (rest := []) ⟨hx, hb, hml, hown, htw⟩ (c_multiply l D cJ cI cQ cR (o + 18) x y 8 vx vy f18 fx fy (Or.inl rfl) (by omega) (by omega) hvx hvy hNx hNy) (xcS 3 htw kw_153 kw_1 kw_151 kw_152 rfl rfl ⟨by decide, by decide, by decide +kernel⟩ ⟨Nat.le_of_ble_eq_true rfl, Nat.le_of_ble_eq_true rfl⟩) (xPre hK ⟨h_18, h_X, h_Y⟩) rfl rfl hl.1 rfl (lv_room (Nat.le_of_ble_eq_true rfl)) d_C_calculate_79 ⟨Nat.le_of_ble_eq_true rfl, Nat.le_of_ble_eq_true rfl⟩) hlo (fun q h => by have h : q = o + 18 := h; rw [h]; exact ⟨by omega, by omega⟩) (fun H1 locs1 hB1 hlo => ?_)
    obtain ⟨hF1, f1, hf1, hN1⟩ := hB1
    have h_18 := hf1
    have h_19 := hL_f h_19 hF1 (show o + 19 ≠ o + 18 by omega)
    have h_20 := hL_f h_20 hF1 (show o + 20 ≠ o + 18 by omega)
    have h_21 := hL_f h_21 hF1 (show o + 21 ≠ o + 18 by omega)
    have h_22 := hL_f h_22 hF1 (show o + 22 ≠ o + 18 by omega)
    have h_23 := hL_f h_23 hF1 (show o + 23 ≠ o + 18 by omega)
    have h_X := hL_f h_X hF1 (show x ≠ o + 18 by omega)
    have h_Y := hL_f h_Y hF1 (show y ≠ o + 18 by omega)
    have hO := hO.f1 hF1 (by omega)
    have hG := SA1 hG hF1 (by omega)
    refine lv_goto (tgt := 194) hx hb d_C_calculate_82 (by decide) ?_
    exact W.vret hx hb hr (fun t ht hW => ⟨rfl, by rw [ht]; exact hG, by rw [ht]; exact ⟨⟨_, h_18⟩, ⟨_, h_19⟩, ⟨_, h_20⟩, ⟨_, h_21⟩, ⟨_, h_22⟩, ⟨_, h_23⟩⟩, _, by rw [ht]; exact h_18, NL_m hN1⟩) hlo d_C_calculate_194
  · refine lv_iload_n hx hb d_C_calculate_0 rfl (lv_at hl 1 rfl) ?_
    refine lv_tableIn (off := 84) (tgt := 85) hx hb d_C_calculate_1 (by decide) (by decide) (by decide) (by decide) ?_
    refine lv_aload_n hx hb d_C_calculate_85 rfl (lv_at hl 0 rfl) ?_
    refine lv_aload_n hx hb d_C_calculate_86 rfl (lv_at hl 2 rfl) ?_
    refine lv_aload_n hx hb d_C_calculate_87 rfl (lv_at hl 3 rfl) ?_
    refine x_callv (A := CA o) (va_runV (As := [.ref x, .ref y]) (rest := []) ⟨hx, hb, hml, hown, htw⟩ (c_divide l D cJ cI cQ cR o x y 8 vx vy f22 f23 fx fy (Or.inl rfl) (nDA (by omega)) (nDA (by omega)) hvx hvy hNx hNy) (xcV 2 htw kw_160 kw_1 kw_157 kw_159 ks_C_divide rfl rfl ⟨by decide, by decide, by decide +kernel⟩ ⟨Nat.le_of_ble_eq_true rfl, Nat.le_of_ble_eq_true rfl⟩) (xPreV hK (hO.rv hK) ⟨hO, h_22, h_23, h_X, h_Y⟩) rfl rfl hl.1 rfl (lv_room (Nat.le_of_ble_eq_true rfl)) d_C_calculate_88 ⟨Nat.le_of_ble_eq_true rfl, Nat.le_of_ble_eq_true rfl⟩) hlo (fun q h => by rcases h with h | h <;> (rw [h]; exact ⟨by omega, by omega⟩)) (fun H1 locs1 hB1 hlo => ?_)
    obtain ⟨hF1, f1, g1, hf1, hN1, hg1, hM1⟩ := hB1
    have h_18 := hL_f h_18 hF1 (nDA (by omega))
    have h_19 := hL_f h_19 hF1 (nDA (by omega))
    have h_20 := hL_f h_20 hF1 (nDA (by omega))
    have h_21 := hL_f h_21 hF1 (nDA (by omega))
    have h_22 := hf1
    have h_23 := hg1
    have h_X := hL_f h_X hF1 (nDA (by omega))
    have h_Y := hL_f h_Y hF1 (nDA (by omega))
    have hO := hO.fD hF1
    have hG := SAD hG hF1
    refine lv_aload_n hx hb d_C_calculate_91 rfl (lv_at hl 0 rfl) ?_
    refine va_get (D := D) (ci := 0) (v := .ref (o + 18)) (C := "WideNumbers") (T := F_C) (N := 7) hx hb htw inC hown hK hO.1 0 rfl rfl 1 (by decide) (htw _ kw_21) (fun _ h9 => h9) rfl d_C_calculate_92 ?_
    refine lv_aload_n hx hb d_C_calculate_95 rfl (lv_at hl 0 rfl) ?_
    refine va_get (D := D) (ci := 0) (v := .ref (o + 22)) (C := "WideNumbers") (T := F_C) (N := 7) hx hb htw inC hown hK hO.1 0 rfl rfl 5 (by decide) (htw _ kw_25) (fun _ h9 => h9) rfl d_C_calculate_96 ?_
    refine x_callv (A := CA o) (va_runS (As := [.ref (o + 18), .ref (o + 22)]) (rest := []) ⟨hx, hb, hml, hown, htw⟩ (c_copy l D cJ cI cQ cR (o + 18) (o + 22) 16 (vx / vy) f18 f1 (by decide) (by omega) (fun j hj => hN1 j (by omega))) (xcS 2 htw kw_179 kw_1 kw_177 kw_178 rfl rfl ⟨by decide, by decide, by decide +kernel⟩ ⟨Nat.le_of_ble_eq_true rfl, Nat.le_of_ble_eq_true rfl⟩) (xPre hK ⟨h_18, h_22⟩) rfl rfl hl.1 rfl (lv_room (Nat.le_of_ble_eq_true rfl)) d_C_calculate_99 ⟨Nat.le_of_ble_eq_true rfl, Nat.le_of_ble_eq_true rfl⟩) hlo (fun q h => by rcases h with h | h <;> (rw [h]; exact ⟨by omega, by omega⟩)) (fun H2 locs2 hB2 hlo => ?_)
    obtain ⟨hF2, f2, hf2, hN2⟩ := hB2
    have h_18 := hf2
    have h_19 := hL_f h_19 hF2 (show o + 19 ≠ o + 18 by omega)
    have h_20 := hL_f h_20 hF2 (show o + 20 ≠ o + 18 by omega)
    have h_21 := hL_f h_21 hF2 (show o + 21 ≠ o + 18 by omega)
    have h_22 := hL_f h_22 hF2 (show o + 22 ≠ o + 18 by omega)
    have h_23 := hL_f h_23 hF2 (show o + 23 ≠ o + 18 by omega)
    have h_X := hL_f h_X hF2 (show x ≠ o + 18 by omega)
    have h_Y := hL_f h_Y hF2 (show y ≠ o + 18 by omega)
    have hO := hO.f1 hF2 (by omega)
    have hG := SA1 hG hF2 (by omega)
    refine lv_goto (tgt := 194) hx hb d_C_calculate_102 (by decide) ?_
    exact W.vret hx hb hr (fun t ht hW => ⟨rfl, by rw [ht]; exact hG, by rw [ht]; exact ⟨⟨_, h_18⟩, ⟨_, h_19⟩, ⟨_, h_20⟩, ⟨_, h_21⟩, ⟨_, h_22⟩, ⟨_, h_23⟩⟩, _, by rw [ht]; exact h_18, hN2⟩) hlo d_C_calculate_194
  · refine lv_iload_n hx hb d_C_calculate_0 rfl (lv_at hl 1 rfl) ?_
    refine lv_tableIn (off := 104) (tgt := 105) hx hb d_C_calculate_1 (by decide) (by decide) (by decide) (by decide) ?_
    refine lv_aload_n hx hb d_C_calculate_105 rfl (lv_at hl 0 rfl) ?_
    refine lv_aload_n hx hb d_C_calculate_106 rfl (lv_at hl 2 rfl) ?_
    refine lv_aload_n hx hb d_C_calculate_107 rfl (lv_at hl 3 rfl) ?_
    refine x_callv (A := CA o) (va_runV (As := [.ref x, .ref y]) (rest := []) ⟨hx, hb, hml, hown, htw⟩ (c_divide l D cJ cI cQ cR o x y 8 vx vy f22 f23 fx fy (Or.inl rfl) (nDA (by omega)) (nDA (by omega)) hvx hvy hNx hNy) (xcV 2 htw kw_160 kw_1 kw_157 kw_159 ks_C_divide rfl rfl ⟨by decide, by decide, by decide +kernel⟩ ⟨Nat.le_of_ble_eq_true rfl, Nat.le_of_ble_eq_true rfl⟩) (xPreV hK (hO.rv hK) ⟨hO, h_22, h_23, h_X, h_Y⟩) rfl rfl hl.1 rfl (lv_room (Nat.le_of_ble_eq_true rfl)) d_C_calculate_108 ⟨Nat.le_of_ble_eq_true rfl, Nat.le_of_ble_eq_true rfl⟩) hlo (fun q h => by rcases h with h | h <;> (rw [h]; exact ⟨by omega, by omega⟩)) (fun H1 locs1 hB1 hlo => ?_)
    obtain ⟨hF1, f1, g1, hf1, hN1, hg1, hM1⟩ := hB1
    have h_18 := hL_f h_18 hF1 (nDA (by omega))
    have h_19 := hL_f h_19 hF1 (nDA (by omega))
    have h_20 := hL_f h_20 hF1 (nDA (by omega))
    have h_21 := hL_f h_21 hF1 (nDA (by omega))
    have h_22 := hf1
    have h_23 := hg1
    have h_X := hL_f h_X hF1 (nDA (by omega))
    have h_Y := hL_f h_Y hF1 (nDA (by omega))
    have hO := hO.fD hF1
    have hG := SAD hG hF1
    refine lv_aload_n hx hb d_C_calculate_111 rfl (lv_at hl 0 rfl) ?_
    refine va_get (D := D) (ci := 0) (v := .ref (o + 18)) (C := "WideNumbers") (T := F_C) (N := 7) hx hb htw inC hown hK hO.1 0 rfl rfl 1 (by decide) (htw _ kw_21) (fun _ h9 => h9) rfl d_C_calculate_112 ?_
    refine lv_aload_n hx hb d_C_calculate_115 rfl (lv_at hl 0 rfl) ?_
    refine va_get (D := D) (ci := 0) (v := .ref (o + 23)) (C := "WideNumbers") (T := F_C) (N := 7) hx hb htw inC hown hK hO.1 0 rfl rfl 6 (by decide) (htw _ kw_26) (fun _ h9 => h9) rfl d_C_calculate_116 ?_
    refine x_callv (A := CA o) (va_runS (As := [.ref (o + 18), .ref (o + 23)]) (rest := []) ⟨hx, hb, hml, hown, htw⟩ (c_copy l D cJ cI cQ cR (o + 18) (o + 23) 8 (if vy = 0 then 0 else vx % vy) f18 g1 (by decide) (by omega) hM1) (xcS 2 htw kw_179 kw_1 kw_177 kw_178 rfl rfl ⟨by decide, by decide, by decide +kernel⟩ ⟨Nat.le_of_ble_eq_true rfl, Nat.le_of_ble_eq_true rfl⟩) (xPre hK ⟨h_18, h_23⟩) rfl rfl hl.1 rfl (lv_room (Nat.le_of_ble_eq_true rfl)) d_C_calculate_119 ⟨Nat.le_of_ble_eq_true rfl, Nat.le_of_ble_eq_true rfl⟩) hlo (fun q h => by rcases h with h | h <;> (rw [h]; exact ⟨by omega, by omega⟩)) (fun H2 locs2 hB2 hlo => ?_)
    obtain ⟨hF2, f2, hf2, hN2⟩ := hB2
    have h_18 := hf2
    have h_19 := hL_f h_19 hF2 (show o + 19 ≠ o + 18 by omega)
    have h_20 := hL_f h_20 hF2 (show o + 20 ≠ o + 18 by omega)
    have h_21 := hL_f h_21 hF2 (show o + 21 ≠ o + 18 by omega)
    have h_22 := hL_f h_22 hF2 (show o + 22 ≠ o + 18 by omega)
    have h_23 := hL_f h_23 hF2 (show o + 23 ≠ o + 18 by omega)
    have h_X := hL_f h_X hF2 (show x ≠ o + 18 by omega)
    have h_Y := hL_f h_Y hF2 (show y ≠ o + 18 by omega)
    have hO := hO.f1 hF2 (by omega)
    have hG := SA1 hG hF2 (by omega)
    refine lv_goto (tgt := 194) hx hb d_C_calculate_122 (by decide) ?_
    exact W.vret hx hb hr (fun t ht hW => ⟨rfl, by rw [ht]; exact hG, by rw [ht]; exact ⟨⟨_, h_18⟩, ⟨_, h_19⟩, ⟨_, h_20⟩, ⟨_, h_21⟩, ⟨_, h_22⟩, ⟨_, h_23⟩⟩, _, by rw [ht]; exact h_18, hN2⟩) hlo d_C_calculate_194
  · refine lv_iload_n hx hb d_C_calculate_0 rfl (lv_at hl 1 rfl) ?_
    refine lv_tableIn (off := 124) (tgt := 125) hx hb d_C_calculate_1 (by decide) (by decide) (by decide) (by decide) ?_
    refine lv_aload_n hx hb d_C_calculate_125 rfl (lv_at hl 0 rfl) ?_
    refine lv_aload_n hx hb d_C_calculate_126 rfl (lv_at hl 2 rfl) ?_
    refine lv_aload_n hx hb d_C_calculate_127 rfl (lv_at hl 3 rfl) ?_
    refine x_callv (A := CA o) (va_runV (As := [.ref x, .ref y]) (rest := []) ⟨hx, hb, hml, hown, htw⟩ (c_divideSizes l D cJ cI cQ cR o x y vx vy fx fy hxr hyr hvx hvy hNx hNy) (xcV 2 htw kw_186 kw_1 kw_183 kw_185 ks_C_divideSizes rfl rfl ⟨by decide, by decide, by decide +kernel⟩ ⟨Nat.le_of_ble_eq_true rfl, Nat.le_of_ble_eq_true rfl⟩) (xPreV hK (hO.rv hK) ⟨hO, ⟨⟨_, h_18⟩, ⟨_, h_19⟩, ⟨_, h_20⟩, ⟨_, h_21⟩, ⟨_, h_22⟩, ⟨_, h_23⟩⟩, h_X, h_Y⟩) rfl rfl hl.1 rfl (lv_room (Nat.le_of_ble_eq_true rfl)) d_C_calculate_128 ⟨Nat.le_of_ble_eq_true rfl, Nat.le_of_ble_eq_true rfl⟩) hlo (fun _ h => h) (fun H1 locs1 hB1 hlo => ?_)
    obtain ⟨hF1, ⟨⟨g18, h18⟩, ⟨g19, h19⟩, ⟨g20, h20⟩, ⟨g21, h21⟩, -, -⟩, f1, g1, hf1, hN1, hg1, hM1⟩ := hB1
    have h_18 := h18
    have h_19 := h19
    have h_20 := h20
    have h_21 := h21
    have h_22 := hf1
    have h_23 := hg1
    have h_X := hL_f h_X hF1 (nSA (by omega))
    have h_Y := hL_f h_Y hF1 (nSA (by omega))
    have hO := hO.fS hF1
    have hG := SAS hG hF1
    have hql : ab vx / ab vy < 2 ^ 256 := Nat.lt_of_le_of_lt (Nat.div_le_self _ _) (ab_lt hvx)
    have hrl : (if ab vy = 0 then 0 else ab vx % ab vy) < 2 ^ 256 := by
      split
      · exact pw_pos 256
      · exact Nat.lt_of_le_of_lt (Nat.mod_le _ _) (ab_lt hvx)
    refine lv_aload_n hx hb d_C_calculate_131 rfl (lv_at hl 0 rfl) ?_
    refine va_get (D := D) (ci := 0) (v := .ref (o + 18)) (C := "WideNumbers") (T := F_C) (N := 7) hx hb htw inC hown hK hO.1 0 rfl rfl 1 (by decide) (htw _ kw_21) (fun _ h9 => h9) rfl d_C_calculate_132 ?_
    refine lv_aload_n hx hb d_C_calculate_135 rfl (lv_at hl 0 rfl) ?_
    refine va_get (D := D) (ci := 0) (v := .ref (o + 22)) (C := "WideNumbers") (T := F_C) (N := 7) hx hb htw inC hown hK hO.1 0 rfl rfl 5 (by decide) (htw _ kw_25) (fun _ h9 => h9) rfl d_C_calculate_136 ?_
    refine lv_aload_n hx hb d_C_calculate_139 rfl (lv_at hl 2 rfl) ?_
    refine x_calli (A := CA o) (va_runS (As := [.ref x]) (rest := [.ref (o + 22), .ref (o + 18)]) ⟨hx, hb, hml, hown, htw⟩ (c_isNegative l D cJ cI cQ cR x vx fx hvx hNx) (xcS 1 htw kw_189 kw_1 kw_187 kw_188 rfl rfl ⟨by decide, by decide, by decide +kernel⟩ ⟨Nat.le_of_ble_eq_true rfl, Nat.le_of_ble_eq_true rfl⟩) (xPre hK h_X) rfl rfl hl.1 rfl (lv_room (Nat.le_of_ble_eq_true rfl)) d_C_calculate_140 ⟨Nat.le_of_ble_eq_true rfl, Nat.le_of_ble_eq_true rfl⟩) hlo (fun _ h => h.elim) (fun r2 H2 locs2 hB2 hlo => ?_)
    obtain ⟨rfl, rfl⟩ := hB2
    refine lv_aload_n hx hb d_C_calculate_143 rfl (lv_at hl 3 rfl) ?_
    refine x_calli (A := CA o) (va_runS (As := [.ref y]) (rest := [.int (if 2 ^ 255 ≤ vx then 1 else 0), .ref (o + 22), .ref (o + 18)]) ⟨hx, hb, hml, hown, htw⟩ (c_isNegative l D cJ cI cQ cR y vy fy hvy hNy) (xcS 1 htw kw_189 kw_1 kw_187 kw_188 rfl rfl ⟨by decide, by decide, by decide +kernel⟩ ⟨Nat.le_of_ble_eq_true rfl, Nat.le_of_ble_eq_true rfl⟩) (xPre hK h_Y) rfl rfl hl.1 rfl (lv_room (Nat.le_of_ble_eq_true rfl)) d_C_calculate_144 ⟨Nat.le_of_ble_eq_true rfl, Nat.le_of_ble_eq_true rfl⟩) hlo (fun _ h => h.elim) (fun r3 H3 locs3 hB3 hlo => ?_)
    obtain ⟨rfl, rfl⟩ := hB3
    refine lv_icmp_eq (tgt := 154) hx hb d_C_calculate_147 (by decide) (fun hc => ?_) (fun hc => ?_)
    · refine lv_iconst (v := nI 0) hx hb d_C_calculate_154 (by decide) ?_
      refine x_callv (A := CA o) (va_runS (As := [.ref (o + 18), .ref (o + 22), .int (nI 0)]) (rest := []) ⟨hx, hb, hml, hown, htw⟩ (c_copyWithSign l D cJ cI cQ cR (o + 18) (o + 22) 16 (ab vx / ab vy) (nI 0) g18 f1 (by decide) (by omega) hql (fun j hj => hN1 j (by omega))) (xcS 3 htw kw_192 kw_1 kw_190 kw_191 rfl rfl ⟨by decide, by decide, by decide +kernel⟩ ⟨Nat.le_of_ble_eq_true rfl, Nat.le_of_ble_eq_true rfl⟩) (xPre hK ⟨h_18, h_22⟩) rfl rfl hl.1 rfl (lv_room (Nat.le_of_ble_eq_true rfl)) d_C_calculate_155 ⟨Nat.le_of_ble_eq_true rfl, Nat.le_of_ble_eq_true rfl⟩) hlo (fun q h => by rcases h with h | h <;> (rw [h]; exact ⟨by omega, by omega⟩)) (fun H4 locs4 hB4 hlo => ?_)
      obtain ⟨hF4, f4, hf4, hN4⟩ := hB4
      rw [if_pos nI_0] at hN4
      have hv : ab vx / ab vy = sdv vx vy := by
        unfold sdv
        rw [if_pos]
        by_cases h1 : 2 ^ 255 ≤ vx
        · by_cases h2 : 2 ^ 255 ≤ vy
          · rw [decide_eq_true h1, decide_eq_true h2]
          · rw [if_pos h1, if_neg h2] at hc
            exact absurd hc (by decide)
        · by_cases h2 : 2 ^ 255 ≤ vy
          · rw [if_neg h1, if_pos h2] at hc
            exact absurd hc (by decide)
          · rw [decide_eq_false h1, decide_eq_false h2]
      rw [hv] at hN4
      have h_18 := hf4
      have h_19 := hL_f h_19 hF4 (show o + 19 ≠ o + 18 by omega)
      have h_20 := hL_f h_20 hF4 (show o + 20 ≠ o + 18 by omega)
      have h_21 := hL_f h_21 hF4 (show o + 21 ≠ o + 18 by omega)
      have h_22 := hL_f h_22 hF4 (show o + 22 ≠ o + 18 by omega)
      have h_23 := hL_f h_23 hF4 (show o + 23 ≠ o + 18 by omega)
      have h_X := hL_f h_X hF4 (show x ≠ o + 18 by omega)
      have h_Y := hL_f h_Y hF4 (show y ≠ o + 18 by omega)
      have hO := hO.f1 hF4 (by omega)
      have hG := SA1 hG hF4 (by omega)
      refine lv_goto (tgt := 194) hx hb d_C_calculate_158 (by decide) ?_
      exact W.vret hx hb hr (fun t ht hW => ⟨rfl, by rw [ht]; exact hG, by rw [ht]; exact ⟨⟨_, h_18⟩, ⟨_, h_19⟩, ⟨_, h_20⟩, ⟨_, h_21⟩, ⟨_, h_22⟩, ⟨_, h_23⟩⟩, _, by rw [ht]; exact h_18, hN4⟩) hlo d_C_calculate_194
    · refine lv_iconst (v := nI 1) hx hb d_C_calculate_150 (by decide) ?_
      refine lv_goto (tgt := 155) hx hb d_C_calculate_151 (by decide) ?_
      refine x_callv (A := CA o) (va_runS (As := [.ref (o + 18), .ref (o + 22), .int (nI 1)]) (rest := []) ⟨hx, hb, hml, hown, htw⟩ (c_copyWithSign l D cJ cI cQ cR (o + 18) (o + 22) 16 (ab vx / ab vy) (nI 1) g18 f1 (by decide) (by omega) hql (fun j hj => hN1 j (by omega))) (xcS 3 htw kw_192 kw_1 kw_190 kw_191 rfl rfl ⟨by decide, by decide, by decide +kernel⟩ ⟨Nat.le_of_ble_eq_true rfl, Nat.le_of_ble_eq_true rfl⟩) (xPre hK ⟨h_18, h_22⟩) rfl rfl hl.1 rfl (lv_room (Nat.le_of_ble_eq_true rfl)) d_C_calculate_155 ⟨Nat.le_of_ble_eq_true rfl, Nat.le_of_ble_eq_true rfl⟩) hlo (fun q h => by rcases h with h | h <;> (rw [h]; exact ⟨by omega, by omega⟩)) (fun H4 locs4 hB4 hlo => ?_)
      obtain ⟨hF4, f4, hf4, hN4⟩ := hB4
      rw [if_neg (by decide)] at hN4
      have hv : (2 ^ 256 - ab vx / ab vy) % 2 ^ 256 = sdv vx vy := by
        unfold sdv
        rw [if_neg]
        intro h
        apply hc
        by_cases h1 : 2 ^ 255 ≤ vx
        · have h2 : 2 ^ 255 ≤ vy := of_decide_eq_true (h.symm.trans (decide_eq_true h1))
          rw [if_pos h1, if_pos h2]
        · have h2 : ¬ 2 ^ 255 ≤ vy := of_decide_eq_false (h.symm.trans (decide_eq_false h1))
          rw [if_neg h1, if_neg h2]
      rw [hv] at hN4
      have h_18 := hf4
      have h_19 := hL_f h_19 hF4 (show o + 19 ≠ o + 18 by omega)
      have h_20 := hL_f h_20 hF4 (show o + 20 ≠ o + 18 by omega)
      have h_21 := hL_f h_21 hF4 (show o + 21 ≠ o + 18 by omega)
      have h_22 := hL_f h_22 hF4 (show o + 22 ≠ o + 18 by omega)
      have h_23 := hL_f h_23 hF4 (show o + 23 ≠ o + 18 by omega)
      have h_X := hL_f h_X hF4 (show x ≠ o + 18 by omega)
      have h_Y := hL_f h_Y hF4 (show y ≠ o + 18 by omega)
      have hO := hO.f1 hF4 (by omega)
      have hG := SA1 hG hF4 (by omega)
      refine lv_goto (tgt := 194) hx hb d_C_calculate_158 (by decide) ?_
      exact W.vret hx hb hr (fun t ht hW => ⟨rfl, by rw [ht]; exact hG, by rw [ht]; exact ⟨⟨_, h_18⟩, ⟨_, h_19⟩, ⟨_, h_20⟩, ⟨_, h_21⟩, ⟨_, h_22⟩, ⟨_, h_23⟩⟩, _, by rw [ht]; exact h_18, hN4⟩) hlo d_C_calculate_194
  · refine lv_iload_n hx hb d_C_calculate_0 rfl (lv_at hl 1 rfl) ?_
    refine lv_tableIn (off := 160) (tgt := 161) hx hb d_C_calculate_1 (by decide) (by decide) (by decide) (by decide) ?_
    refine lv_aload_n hx hb d_C_calculate_161 rfl (lv_at hl 0 rfl) ?_
    refine lv_aload_n hx hb d_C_calculate_162 rfl (lv_at hl 2 rfl) ?_
    refine lv_aload_n hx hb d_C_calculate_163 rfl (lv_at hl 3 rfl) ?_
    refine x_callv (A := CA o) (va_runV (As := [.ref x, .ref y]) (rest := []) ⟨hx, hb, hml, hown, htw⟩ (c_divideSizes l D cJ cI cQ cR o x y vx vy fx fy hxr hyr hvx hvy hNx hNy) (xcV 2 htw kw_186 kw_1 kw_183 kw_185 ks_C_divideSizes rfl rfl ⟨by decide, by decide, by decide +kernel⟩ ⟨Nat.le_of_ble_eq_true rfl, Nat.le_of_ble_eq_true rfl⟩) (xPreV hK (hO.rv hK) ⟨hO, ⟨⟨_, h_18⟩, ⟨_, h_19⟩, ⟨_, h_20⟩, ⟨_, h_21⟩, ⟨_, h_22⟩, ⟨_, h_23⟩⟩, h_X, h_Y⟩) rfl rfl hl.1 rfl (lv_room (Nat.le_of_ble_eq_true rfl)) d_C_calculate_164 ⟨Nat.le_of_ble_eq_true rfl, Nat.le_of_ble_eq_true rfl⟩) hlo (fun _ h => h) (fun H1 locs1 hB1 hlo => ?_)
    obtain ⟨hF1, ⟨⟨g18, h18⟩, ⟨g19, h19⟩, ⟨g20, h20⟩, ⟨g21, h21⟩, -, -⟩, f1, g1, hf1, hN1, hg1, hM1⟩ := hB1
    have h_18 := h18
    have h_19 := h19
    have h_20 := h20
    have h_21 := h21
    have h_22 := hf1
    have h_23 := hg1
    have h_X := hL_f h_X hF1 (nSA (by omega))
    have h_Y := hL_f h_Y hF1 (nSA (by omega))
    have hO := hO.fS hF1
    have hG := SAS hG hF1
    have hql : ab vx / ab vy < 2 ^ 256 := Nat.lt_of_le_of_lt (Nat.div_le_self _ _) (ab_lt hvx)
    have hrl : (if ab vy = 0 then 0 else ab vx % ab vy) < 2 ^ 256 := by
      split
      · exact pw_pos 256
      · exact Nat.lt_of_le_of_lt (Nat.mod_le _ _) (ab_lt hvx)
    refine lv_aload_n hx hb d_C_calculate_167 rfl (lv_at hl 0 rfl) ?_
    refine va_get (D := D) (ci := 0) (v := .ref (o + 18)) (C := "WideNumbers") (T := F_C) (N := 7) hx hb htw inC hown hK hO.1 0 rfl rfl 1 (by decide) (htw _ kw_21) (fun _ h9 => h9) rfl d_C_calculate_168 ?_
    refine lv_aload_n hx hb d_C_calculate_171 rfl (lv_at hl 0 rfl) ?_
    refine va_get (D := D) (ci := 0) (v := .ref (o + 23)) (C := "WideNumbers") (T := F_C) (N := 7) hx hb htw inC hown hK hO.1 0 rfl rfl 6 (by decide) (htw _ kw_26) (fun _ h9 => h9) rfl d_C_calculate_172 ?_
    refine lv_aload_n hx hb d_C_calculate_175 rfl (lv_at hl 2 rfl) ?_
    refine x_calli (A := CA o) (va_runS (As := [.ref x]) (rest := [.ref (o + 23), .ref (o + 18)]) ⟨hx, hb, hml, hown, htw⟩ (c_isNegative l D cJ cI cQ cR x vx fx hvx hNx) (xcS 1 htw kw_189 kw_1 kw_187 kw_188 rfl rfl ⟨by decide, by decide, by decide +kernel⟩ ⟨Nat.le_of_ble_eq_true rfl, Nat.le_of_ble_eq_true rfl⟩) (xPre hK h_X) rfl rfl hl.1 rfl (lv_room (Nat.le_of_ble_eq_true rfl)) d_C_calculate_176 ⟨Nat.le_of_ble_eq_true rfl, Nat.le_of_ble_eq_true rfl⟩) hlo (fun _ h => h.elim) (fun r2 H2 locs2 hB2 hlo => ?_)
    obtain ⟨rfl, rfl⟩ := hB2
    refine x_callv (A := CA o) (va_runS (As := [.ref (o + 18), .ref (o + 23), .int (if 2 ^ 255 ≤ vx then 1 else 0)]) (rest := []) ⟨hx, hb, hml, hown, htw⟩ (c_copyWithSign l D cJ cI cQ cR (o + 18) (o + 23) 8 (if ab vy = 0 then 0 else ab vx % ab vy) (if 2 ^ 255 ≤ vx then 1 else 0) g18 g1 (by decide) (by omega) hrl hM1) (xcS 3 htw kw_192 kw_1 kw_190 kw_191 rfl rfl ⟨by decide, by decide, by decide +kernel⟩ ⟨Nat.le_of_ble_eq_true rfl, Nat.le_of_ble_eq_true rfl⟩) (xPre hK ⟨h_18, h_23⟩) rfl rfl hl.1 rfl (lv_room (Nat.le_of_ble_eq_true rfl)) d_C_calculate_179 ⟨Nat.le_of_ble_eq_true rfl, Nat.le_of_ble_eq_true rfl⟩) hlo (fun q h => by rcases h with h | h <;> (rw [h]; exact ⟨by omega, by omega⟩)) (fun H3 locs3 hB3 hlo => ?_)
    obtain ⟨hF3, f3, hf3, hN3⟩ := hB3
    have hv : (if (if 2 ^ 255 ≤ vx then (1 : Int32) else 0) = 0 then (if ab vy = 0 then 0 else ab vx % ab vy) else (2 ^ 256 - (if ab vy = 0 then 0 else ab vx % ab vy)) % 2 ^ 256) = srm vx vy := by
      unfold srm
      by_cases h : 2 ^ 255 ≤ vx
      · rw [if_pos h, if_pos h, if_neg (by decide)]
      · rw [if_neg h, if_neg h, if_pos rfl]
    rw [hv] at hN3
    have h_18 := hf3
    have h_19 := hL_f h_19 hF3 (show o + 19 ≠ o + 18 by omega)
    have h_20 := hL_f h_20 hF3 (show o + 20 ≠ o + 18 by omega)
    have h_21 := hL_f h_21 hF3 (show o + 21 ≠ o + 18 by omega)
    have h_22 := hL_f h_22 hF3 (show o + 22 ≠ o + 18 by omega)
    have h_23 := hL_f h_23 hF3 (show o + 23 ≠ o + 18 by omega)
    have h_X := hL_f h_X hF3 (show x ≠ o + 18 by omega)
    have h_Y := hL_f h_Y hF3 (show y ≠ o + 18 by omega)
    have hO := hO.f1 hF3 (by omega)
    have hG := SA1 hG hF3 (by omega)
    refine lv_goto (tgt := 194) hx hb d_C_calculate_182 (by decide) ?_
    exact W.vret hx hb hr (fun t ht hW => ⟨rfl, by rw [ht]; exact hG, by rw [ht]; exact ⟨⟨_, h_18⟩, ⟨_, h_19⟩, ⟨_, h_20⟩, ⟨_, h_21⟩, ⟨_, h_22⟩, ⟨_, h_23⟩⟩, _, by rw [ht]; exact h_18, hN3⟩) hlo d_C_calculate_194
  · refine lv_iload_n hx hb d_C_calculate_0 rfl (lv_at hl 1 rfl) ?_
    refine lv_tableIn (off := 184) (tgt := 185) hx hb d_C_calculate_1 (by decide) (by decide) (by decide) (by decide) ?_
    refine lv_aload_n hx hb d_C_calculate_185 rfl (lv_at hl 0 rfl) ?_
    refine lv_aload_n hx hb d_C_calculate_186 rfl (lv_at hl 2 rfl) ?_
    refine lv_aload_n hx hb d_C_calculate_187 rfl (lv_at hl 3 rfl) ?_
    refine x_callv (A := CA o) (va_runV (As := [.ref x, .ref y]) (rest := []) ⟨hx, hb, hml, hown, htw⟩ (c_raise l D cJ cI cQ cR o x y vx vy fx fy hxr hyr hvx hvy hNx hNy) (xcV 2 htw kw_199 kw_1 kw_196 kw_198 ks_C_raise rfl rfl ⟨by decide, by decide, by decide +kernel⟩ ⟨Nat.le_of_ble_eq_true rfl, Nat.le_of_ble_eq_true rfl⟩) (xPreV hK (hO.rv hK) ⟨hO, ⟨⟨_, h_18⟩, ⟨_, h_19⟩, ⟨_, h_20⟩, ⟨_, h_21⟩, ⟨_, h_22⟩, ⟨_, h_23⟩⟩, h_X, h_Y⟩) rfl rfl hl.1 rfl (lv_room (Nat.le_of_ble_eq_true rfl)) d_C_calculate_188 ⟨Nat.le_of_ble_eq_true rfl, Nat.le_of_ble_eq_true rfl⟩) hlo (fun _ h => h) (fun H1 locs1 hB1 hlo => ?_)
    obtain ⟨hF1, hSC1, f1, hf1, hN1⟩ := hB1
    refine lv_goto (tgt := 194) hx hb d_C_calculate_191 (by decide) ?_
    exact W.vret hx hb hr (fun t ht hW => ⟨rfl, by rw [ht]; exact SAS hG hF1, by rw [ht]; exact hSC1, f1, by rw [ht]; exact hf1, hN1⟩) hlo d_C_calculate_194
set_option maxHeartbeats 4000000 in
set_option maxRecDepth 100000 in
theorem c_arrangeBits (l : Launch) (D : va_G) (cJ cI cQ cR : ClassId) (op : Nat) (hop : 8 ≤ op ∧ op ≤ 15) (o x y vx vy : Nat) (fx fy : Nat → Int64) (hxr : o + 2 ≤ x ∧ x < o + 18) (hyr : o + 2 ≤ y ∧ y < o + 18) (hvx : vx < 2 ^ 256) (hvy : vy < 2 ^ 256) (hNx : NL fx 8 vx) (hNy : NL fy 8 vy) : Met l y_C_arrangeBits w_C_arrangeBits { frames := 4, cells := 0, slots := 0, locals := 87 } (xP D vwCl (TY cJ cI cQ cR) [.ref o, .int (nI op), .ref x, .ref y] (fun H => CB D cQ o H ∧ SC cJ o H ∧ hL H cJ x 8 fx ∧ hL H cJ y 8 fy)) (xQv (fun H0 H => XF (SA o) H0 H ∧ SC cJ o H ∧ ∃ (f : Nat → Int64), hL H cJ (o + 18) 8 f ∧ NL f 8 (opv op vx vy))) 0 0 (CA o) := by
  refine Met.ofW (cc := b_C_arrangeBits) (maxL := 4) (ret := none) (by decide) rfl ?_
  intro p e s m args below meth c s₁ B hml hv
  obtain ⟨rfl, hK, ⟨hO, hSC, h_X, h_Y⟩⟩ := hv
  have hx := B.exec
  have hb := B.bytes
  have hr := B.returns
  have hts := atoms_spec (ws := w_C_arrangeBits) B.pre
  have htw : ∀ w ∈ WT, w.before _ s = true := fun w h => hts w (List.mem_cons_of_mem _ h)
  have hown : s.vm.findClass "WideNumbers" = some m.cls := findClass_of_methodNamed B.named
  have hlocks := B.notSynchronized
  have hJ : ArrOfT s cJ .long := (hK.2 0 _ rfl).1
  have hI9 : ArrOfT s cI .int := (hK.2 1 _ rfl).1
  have hl := lv_entry ([.ref o, .int (nI op), .ref x, .ref y]) (n := 4) (Nat.le_of_ble_eq_true rfl)
  rw [lg_entry_eq]
  generalize (lg_sl ([.ref o, .int (nI op), .ref x, .ref y]) ++ List.replicate (4 - (lg_sl ([.ref o, .int (nI op), .ref x, .ref y])).length) Slot.unset).toArray = ls at hl ⊢
  have hl : lv_has ls 4 [(0, .ref o), (1, .int (nI op)), (2, .ref x), (3, .ref y)] := hl
  obtain ⟨⟨f18, h_18⟩, ⟨f19, h_19⟩, ⟨f20, h_20⟩, ⟨f21, h_21⟩, ⟨f22, h_22⟩, ⟨f23, h_23⟩⟩ := hSC
  have hG : XF (SA o) s.heap s.heap := XF.rf
  have hlo : ∀ q ∈ ([] : List Loc), CA o q.base := fun _ h => nomatch h
  rcases (show op = 8 ∨ op = 9 ∨ op = 10 ∨ op = 11 ∨ op = 12 ∨ op = 13 ∨ op = 14 ∨ op = 15 by omega) with rfl | rfl | rfl | rfl | rfl | rfl | rfl | rfl
  · refine lv_iload_n hx hb d_C_arrangeBits_0 rfl (lv_at hl 1 rfl) ?_
    refine lv_tableIn (off := 47) (tgt := 48) hx hb d_C_arrangeBits_1 (by decide) (by decide) (by decide) (by decide) ?_
    refine lv_aload_n hx hb d_C_arrangeBits_48 rfl (lv_at hl 0 rfl) ?_
    refine lv_aload_n hx hb d_C_arrangeBits_49 rfl (lv_at hl 2 rfl) ?_
    refine lv_aload_n hx hb d_C_arrangeBits_50 rfl (lv_at hl 3 rfl) ?_
    refine x_callv (A := CA o) (va_runV (As := [.ref x, .ref y]) (rest := []) ⟨hx, hb, hml, hown, htw⟩ (c_extendSign l D cJ cI cQ cR o x y vx vy fx fy hxr hyr hvx hvy hNx hNy) (xcV 2 htw kw_207 kw_1 kw_204 kw_206 ks_C_extendSign rfl rfl ⟨by decide, by decide, by decide +kernel⟩ ⟨Nat.le_of_ble_eq_true rfl, Nat.le_of_ble_eq_true rfl⟩) (xPreV hK (hO.rv hK) ⟨hO, ⟨⟨_, h_18⟩, ⟨_, h_19⟩, ⟨_, h_20⟩, ⟨_, h_21⟩, ⟨_, h_22⟩, ⟨_, h_23⟩⟩, h_X, h_Y⟩) rfl rfl hl.1 rfl (lv_room (Nat.le_of_ble_eq_true rfl)) d_C_arrangeBits_51 ⟨Nat.le_of_ble_eq_true rfl, Nat.le_of_ble_eq_true rfl⟩) hlo (fun _ h => h) (fun H1 locs1 hB1 hlo => ?_)
    obtain ⟨hF1, hSC1, f1, hf1, hN1⟩ := hB1
    refine lv_goto (tgt := 161) hx hb d_C_arrangeBits_54 (by decide) ?_
    exact W.vret hx hb hr (fun t ht hW => ⟨rfl, by rw [ht]; exact SAS hG hF1, by rw [ht]; exact hSC1, f1, by rw [ht]; exact hf1, hN1⟩) hlo d_C_arrangeBits_161
  · refine lv_iload_n hx hb d_C_arrangeBits_0 rfl (lv_at hl 1 rfl) ?_
    refine lv_tableIn (off := 56) (tgt := 57) hx hb d_C_arrangeBits_1 (by decide) (by decide) (by decide) (by decide) ?_
    refine lv_aload_n hx hb d_C_arrangeBits_57 rfl (lv_at hl 0 rfl) ?_
    refine va_get (D := D) (ci := 0) (v := .ref (o + 18)) (C := "WideNumbers") (T := F_C) (N := 7) hx hb htw inC hown hK hO.1 0 rfl rfl 1 (by decide) (htw _ kw_21) (fun _ h9 => h9) rfl d_C_arrangeBits_58 ?_
    refine lv_aload_n hx hb d_C_arrangeBits_61 rfl (lv_at hl 3 rfl) ?_
    refine lv_aload_n hx hb d_C_arrangeBits_62 rfl (lv_at hl 2 rfl) ?_
    refine lv_sipush (v := nI 256) hx hb d_C_arrangeBits_63 (by decide) ?_
    refine x_calli (A := CA o) (va_runS (As := [.ref x, .int (nI 256)]) (rest := [.ref y, .ref (o + 18)]) ⟨hx, hb, hml, hown, htw⟩ (c_valueUpTo l D cJ cI cQ cR x vx 256 fx hvx (by decide) hNx) (xcS 2 htw kw_210 kw_1 kw_208 kw_209 rfl rfl ⟨by decide, by decide, by decide +kernel⟩ ⟨Nat.le_of_ble_eq_true rfl, Nat.le_of_ble_eq_true rfl⟩) (xPre hK h_X) rfl rfl hl.1 rfl (lv_room (Nat.le_of_ble_eq_true rfl)) d_C_arrangeBits_66 ⟨Nat.le_of_ble_eq_true rfl, Nat.le_of_ble_eq_true rfl⟩) hlo (fun _ h => h.elim) (fun r1 H1 locs1 hB1 hlo => ?_)
    obtain ⟨rfl, rfl⟩ := hB1
    refine x_callv (A := CA o) (va_runS (As := [.ref (o + 18), .ref y, .int (nI (min vx 256))]) (rest := []) ⟨hx, hb, hml, hown, htw⟩ (c_moveLeft l D cJ cI cQ cR (o + 18) y vy (min vx 256) f18 fy (by omega) (by omega) hNy) (xcS 3 htw kw_213 kw_1 kw_211 kw_212 rfl rfl ⟨by decide, by decide, by decide +kernel⟩ ⟨Nat.le_of_ble_eq_true rfl, Nat.le_of_ble_eq_true rfl⟩) (xPre hK ⟨h_18, h_Y⟩) rfl rfl hl.1 rfl (lv_room (Nat.le_of_ble_eq_true rfl)) d_C_arrangeBits_69 ⟨Nat.le_of_ble_eq_true rfl, Nat.le_of_ble_eq_true rfl⟩) hlo (fun q h => by have h : q = o + 18 := h; rw [h]; exact ⟨by omega, by omega⟩) (fun H2 locs2 hB2 hlo => ?_)
    obtain ⟨hF2, f2, hf2, hN2⟩ := hB2
    have h_18 := hf2
    have h_19 := hL_f h_19 hF2 (show o + 19 ≠ o + 18 by omega)
    have h_20 := hL_f h_20 hF2 (show o + 20 ≠ o + 18 by omega)
    have h_21 := hL_f h_21 hF2 (show o + 21 ≠ o + 18 by omega)
    have h_22 := hL_f h_22 hF2 (show o + 22 ≠ o + 18 by omega)
    have h_23 := hL_f h_23 hF2 (show o + 23 ≠ o + 18 by omega)
    have h_X := hL_f h_X hF2 (show x ≠ o + 18 by omega)
    have h_Y := hL_f h_Y hF2 (show y ≠ o + 18 by omega)
    have hO := hO.f1 hF2 (by omega)
    have hG := SA1 hG hF2 (by omega)
    refine lv_goto (tgt := 161) hx hb d_C_arrangeBits_72 (by decide) ?_
    exact W.vret hx hb hr (fun t ht hW => ⟨rfl, by rw [ht]; exact hG, by rw [ht]; exact ⟨⟨_, h_18⟩, ⟨_, h_19⟩, ⟨_, h_20⟩, ⟨_, h_21⟩, ⟨_, h_22⟩, ⟨_, h_23⟩⟩, _, by rw [ht]; exact h_18, NL_m hN2⟩) hlo d_C_arrangeBits_161
  · refine lv_iload_n hx hb d_C_arrangeBits_0 rfl (lv_at hl 1 rfl) ?_
    refine lv_tableIn (off := 74) (tgt := 75) hx hb d_C_arrangeBits_1 (by decide) (by decide) (by decide) (by decide) ?_
    refine lv_aload_n hx hb d_C_arrangeBits_75 rfl (lv_at hl 0 rfl) ?_
    refine va_get (D := D) (ci := 0) (v := .ref (o + 18)) (C := "WideNumbers") (T := F_C) (N := 7) hx hb htw inC hown hK hO.1 0 rfl rfl 1 (by decide) (htw _ kw_21) (fun _ h9 => h9) rfl d_C_arrangeBits_76 ?_
    refine lv_aload_n hx hb d_C_arrangeBits_79 rfl (lv_at hl 3 rfl) ?_
    refine lv_aload_n hx hb d_C_arrangeBits_80 rfl (lv_at hl 2 rfl) ?_
    refine lv_sipush (v := nI 256) hx hb d_C_arrangeBits_81 (by decide) ?_
    refine x_calli (A := CA o) (va_runS (As := [.ref x, .int (nI 256)]) (rest := [.ref y, .ref (o + 18)]) ⟨hx, hb, hml, hown, htw⟩ (c_valueUpTo l D cJ cI cQ cR x vx 256 fx hvx (by decide) hNx) (xcS 2 htw kw_210 kw_1 kw_208 kw_209 rfl rfl ⟨by decide, by decide, by decide +kernel⟩ ⟨Nat.le_of_ble_eq_true rfl, Nat.le_of_ble_eq_true rfl⟩) (xPre hK h_X) rfl rfl hl.1 rfl (lv_room (Nat.le_of_ble_eq_true rfl)) d_C_arrangeBits_84 ⟨Nat.le_of_ble_eq_true rfl, Nat.le_of_ble_eq_true rfl⟩) hlo (fun _ h => h.elim) (fun r1 H1 locs1 hB1 hlo => ?_)
    obtain ⟨rfl, rfl⟩ := hB1
    refine lv_lconst (v := lN 0) hx hb d_C_arrangeBits_87 (by decide) ?_
    refine x_callv (A := CA o) (va_runS (As := [.ref (o + 18), .ref y, .int (nI (min vx 256)), .long (lN 0)]) (rest := []) ⟨hx, hb, hml, hown, htw⟩ (c_moveRight l D cJ cI cQ cR (o + 18) y vy (min vx 256) 0 vy f18 fy (by omega) (by decide) (by omega) hNy (fun _ _ => rfl) (fun k h1 _ => dg_big (Nat.lt_of_lt_of_le hvy (pw_le (by omega))))) (xcS 4 htw kw_222 kw_1 kw_220 kw_221 rfl rfl ⟨by decide, by decide, by decide +kernel⟩ ⟨Nat.le_of_ble_eq_true rfl, Nat.le_of_ble_eq_true rfl⟩) (xPre hK ⟨h_18, h_Y⟩) rfl rfl hl.1 rfl (lv_room (Nat.le_of_ble_eq_true rfl)) d_C_arrangeBits_88 ⟨Nat.le_of_ble_eq_true rfl, Nat.le_of_ble_eq_true rfl⟩) hlo (fun q h => by have h : q = o + 18 := h; rw [h]; exact ⟨by omega, by omega⟩) (fun H2 locs2 hB2 hlo => ?_)
    obtain ⟨hF2, f2, hf2, hN2⟩ := hB2
    have h_18 := hf2
    have h_19 := hL_f h_19 hF2 (show o + 19 ≠ o + 18 by omega)
    have h_20 := hL_f h_20 hF2 (show o + 20 ≠ o + 18 by omega)
    have h_21 := hL_f h_21 hF2 (show o + 21 ≠ o + 18 by omega)
    have h_22 := hL_f h_22 hF2 (show o + 22 ≠ o + 18 by omega)
    have h_23 := hL_f h_23 hF2 (show o + 23 ≠ o + 18 by omega)
    have h_X := hL_f h_X hF2 (show x ≠ o + 18 by omega)
    have h_Y := hL_f h_Y hF2 (show y ≠ o + 18 by omega)
    have hO := hO.f1 hF2 (by omega)
    have hG := SA1 hG hF2 (by omega)
    refine lv_goto (tgt := 161) hx hb d_C_arrangeBits_91 (by decide) ?_
    exact W.vret hx hb hr (fun t ht hW => ⟨rfl, by rw [ht]; exact hG, by rw [ht]; exact ⟨⟨_, h_18⟩, ⟨_, h_19⟩, ⟨_, h_20⟩, ⟨_, h_21⟩, ⟨_, h_22⟩, ⟨_, h_23⟩⟩, _, by rw [ht]; exact h_18, hN2⟩) hlo d_C_arrangeBits_161
  · refine lv_iload_n hx hb d_C_arrangeBits_0 rfl (lv_at hl 1 rfl) ?_
    refine lv_tableIn (off := 93) (tgt := 94) hx hb d_C_arrangeBits_1 (by decide) (by decide) (by decide) (by decide) ?_
    refine lv_aload_n hx hb d_C_arrangeBits_94 rfl (lv_at hl 0 rfl) ?_
    refine va_get (D := D) (ci := 0) (v := .ref (o + 18)) (C := "WideNumbers") (T := F_C) (N := 7) hx hb htw inC hown hK hO.1 0 rfl rfl 1 (by decide) (htw _ kw_21) (fun _ h9 => h9) rfl d_C_arrangeBits_95 ?_
    refine lv_aload_n hx hb d_C_arrangeBits_98 rfl (lv_at hl 3 rfl) ?_
    refine lv_aload_n hx hb d_C_arrangeBits_99 rfl (lv_at hl 2 rfl) ?_
    refine lv_sipush (v := nI 256) hx hb d_C_arrangeBits_100 (by decide) ?_
    refine x_calli (A := CA o) (va_runS (As := [.ref x, .int (nI 256)]) (rest := [.ref y, .ref (o + 18)]) ⟨hx, hb, hml, hown, htw⟩ (c_valueUpTo l D cJ cI cQ cR x vx 256 fx hvx (by decide) hNx) (xcS 2 htw kw_210 kw_1 kw_208 kw_209 rfl rfl ⟨by decide, by decide, by decide +kernel⟩ ⟨Nat.le_of_ble_eq_true rfl, Nat.le_of_ble_eq_true rfl⟩) (xPre hK h_X) rfl rfl hl.1 rfl (lv_room (Nat.le_of_ble_eq_true rfl)) d_C_arrangeBits_103 ⟨Nat.le_of_ble_eq_true rfl, Nat.le_of_ble_eq_true rfl⟩) hlo (fun _ h => h.elim) (fun r1 H1 locs1 hB1 hlo => ?_)
    obtain ⟨rfl, rfl⟩ := hB1
    refine lv_aload_n hx hb d_C_arrangeBits_106 rfl (lv_at hl 3 rfl) ?_
    refine x_calll (A := CA o) (va_runS (As := [.ref y]) (rest := [.int (nI (min vx 256)), .ref y, .ref (o + 18)]) ⟨hx, hb, hml, hown, htw⟩ (c_limbOfSign l D cJ cI cQ cR y vy fy hvy hNy) (xcS 1 htw kw_219 kw_1 kw_217 kw_218 rfl rfl ⟨by decide, by decide, by decide +kernel⟩ ⟨Nat.le_of_ble_eq_true rfl, Nat.le_of_ble_eq_true rfl⟩) (xPre hK h_Y) rfl rfl hl.1 rfl (lv_room (Nat.le_of_ble_eq_true rfl)) d_C_arrangeBits_107 ⟨Nat.le_of_ble_eq_true rfl, Nat.le_of_ble_eq_true rfl⟩) hlo (fun _ h => h.elim) (fun r3 H3 locs3 hB3 hlo => ?_)
    obtain ⟨rfl, rfl⟩ := hB3
    refine x_callv (A := CA o) (va_runS (As := [.ref (o + 18), .ref y, .int (nI (min vx 256)), .long (lN (if 2 ^ 255 ≤ vy then 4294967295 else 0))]) (rest := []) ⟨hx, hb, hml, hown, htw⟩ (c_moveRight l D cJ cI cQ cR (o + 18) y vy (min vx 256) (if 2 ^ 255 ≤ vy then 4294967295 else 0) (sx vy) f18 fy (by omega) (by split <;> decide) (by omega) hNy sx_lo (sx_hi hvy)) (xcS 4 htw kw_222 kw_1 kw_220 kw_221 rfl rfl ⟨by decide, by decide, by decide +kernel⟩ ⟨Nat.le_of_ble_eq_true rfl, Nat.le_of_ble_eq_true rfl⟩) (xPre hK ⟨h_18, h_Y⟩) rfl rfl hl.1 rfl (lv_room (Nat.le_of_ble_eq_true rfl)) d_C_arrangeBits_110 ⟨Nat.le_of_ble_eq_true rfl, Nat.le_of_ble_eq_true rfl⟩) hlo (fun q h => by have h : q = o + 18 := h; rw [h]; exact ⟨by omega, by omega⟩) (fun H2 locs2 hB2 hlo => ?_)
    obtain ⟨hF2, f2, hf2, hN2⟩ := hB2
    have h_18 := hf2
    have h_19 := hL_f h_19 hF2 (show o + 19 ≠ o + 18 by omega)
    have h_20 := hL_f h_20 hF2 (show o + 20 ≠ o + 18 by omega)
    have h_21 := hL_f h_21 hF2 (show o + 21 ≠ o + 18 by omega)
    have h_22 := hL_f h_22 hF2 (show o + 22 ≠ o + 18 by omega)
    have h_23 := hL_f h_23 hF2 (show o + 23 ≠ o + 18 by omega)
    have h_X := hL_f h_X hF2 (show x ≠ o + 18 by omega)
    have h_Y := hL_f h_Y hF2 (show y ≠ o + 18 by omega)
    have hO := hO.f1 hF2 (by omega)
    have hG := SA1 hG hF2 (by omega)
    refine lv_goto (tgt := 161) hx hb d_C_arrangeBits_113 (by decide) ?_
    exact W.vret hx hb hr (fun t ht hW => ⟨rfl, by rw [ht]; exact hG, by rw [ht]; exact ⟨⟨_, h_18⟩, ⟨_, h_19⟩, ⟨_, h_20⟩, ⟨_, h_21⟩, ⟨_, h_22⟩, ⟨_, h_23⟩⟩, _, by rw [ht]; exact h_18, NL_m hN2⟩) hlo d_C_arrangeBits_161
  · refine lv_iload_n hx hb d_C_arrangeBits_0 rfl (lv_at hl 1 rfl) ?_
    refine lv_tableIn (off := 115) (tgt := 116) hx hb d_C_arrangeBits_1 (by decide) (by decide) (by decide) (by decide) ?_
    refine lv_aload_n hx hb d_C_arrangeBits_116 rfl (lv_at hl 0 rfl) ?_
    refine lv_aload_n hx hb d_C_arrangeBits_117 rfl (lv_at hl 2 rfl) ?_
    refine lv_aload_n hx hb d_C_arrangeBits_118 rfl (lv_at hl 3 rfl) ?_
    refine x_callv (A := CA o) (va_runV (As := [.ref x, .ref y]) (rest := []) ⟨hx, hb, hml, hown, htw⟩ (c_pickByte l D cJ cI cQ cR o x y vx vy fx fy hxr hyr hvx hvy hNx hNy) (xcV 2 htw kw_226 kw_1 kw_223 kw_225 ks_C_pickByte rfl rfl ⟨by decide, by decide, by decide +kernel⟩ ⟨Nat.le_of_ble_eq_true rfl, Nat.le_of_ble_eq_true rfl⟩) (xPreV hK (hO.rv hK) ⟨hO, ⟨⟨_, h_18⟩, ⟨_, h_19⟩, ⟨_, h_20⟩, ⟨_, h_21⟩, ⟨_, h_22⟩, ⟨_, h_23⟩⟩, h_X, h_Y⟩) rfl rfl hl.1 rfl (lv_room (Nat.le_of_ble_eq_true rfl)) d_C_arrangeBits_119 ⟨Nat.le_of_ble_eq_true rfl, Nat.le_of_ble_eq_true rfl⟩) hlo (fun _ h => h) (fun H1 locs1 hB1 hlo => ?_)
    obtain ⟨hF1, hSC1, f1, hf1, hN1⟩ := hB1
    refine lv_goto (tgt := 161) hx hb d_C_arrangeBits_122 (by decide) ?_
    exact W.vret hx hb hr (fun t ht hW => ⟨rfl, by rw [ht]; exact SAS hG hF1, by rw [ht]; exact hSC1, f1, by rw [ht]; exact hf1, hN1⟩) hlo d_C_arrangeBits_161
  · refine lv_iload_n hx hb d_C_arrangeBits_0 rfl (lv_at hl 1 rfl) ?_
    refine lv_tableIn (off := 124) (tgt := 125) hx hb d_C_arrangeBits_1 (by decide) (by decide) (by decide) (by decide) ?_
    refine lv_aload_n hx hb d_C_arrangeBits_125 rfl (lv_at hl 0 rfl) ?_
    refine va_get (D := D) (ci := 0) (v := .ref (o + 18)) (C := "WideNumbers") (T := F_C) (N := 7) hx hb htw inC hown hK hO.1 0 rfl rfl 1 (by decide) (htw _ kw_21) (fun _ h9 => h9) rfl d_C_arrangeBits_126 ?_
    refine lv_aload_n hx hb d_C_arrangeBits_129 rfl (lv_at hl 2 rfl) ?_
    refine lv_aload_n hx hb d_C_arrangeBits_130 rfl (lv_at hl 3 rfl) ?_
    refine x_callv (A := CA o) (va_runS (As := [.ref (o + 18), .ref x, .ref y]) (rest := []) ⟨hx, hb, hml, hown, htw⟩ (c_and l D cJ cI cQ cR (o + 18) x y vx vy f18 fx fy (by omega) (by omega) hNx hNy) (xcS 3 htw kw_230 kw_1 kw_228 kw_229 rfl rfl ⟨by decide, by decide, by decide +kernel⟩ ⟨Nat.le_of_ble_eq_true rfl, Nat.le_of_ble_eq_true rfl⟩) (xPre hK ⟨h_18, h_X, h_Y⟩) rfl rfl hl.1 rfl (lv_room (Nat.le_of_ble_eq_true rfl)) d_C_arrangeBits_131 ⟨Nat.le_of_ble_eq_true rfl, Nat.le_of_ble_eq_true rfl⟩) hlo (fun q h => by have h : q = o + 18 := h; rw [h]; exact ⟨by omega, by omega⟩) (fun H2 locs2 hB2 hlo => ?_)
    obtain ⟨hF2, f2, hf2, hN2⟩ := hB2
    have h_18 := hf2
    have h_19 := hL_f h_19 hF2 (show o + 19 ≠ o + 18 by omega)
    have h_20 := hL_f h_20 hF2 (show o + 20 ≠ o + 18 by omega)
    have h_21 := hL_f h_21 hF2 (show o + 21 ≠ o + 18 by omega)
    have h_22 := hL_f h_22 hF2 (show o + 22 ≠ o + 18 by omega)
    have h_23 := hL_f h_23 hF2 (show o + 23 ≠ o + 18 by omega)
    have h_X := hL_f h_X hF2 (show x ≠ o + 18 by omega)
    have h_Y := hL_f h_Y hF2 (show y ≠ o + 18 by omega)
    have hO := hO.f1 hF2 (by omega)
    have hG := SA1 hG hF2 (by omega)
    refine lv_goto (tgt := 161) hx hb d_C_arrangeBits_134 (by decide) ?_
    exact W.vret hx hb hr (fun t ht hW => ⟨rfl, by rw [ht]; exact hG, by rw [ht]; exact ⟨⟨_, h_18⟩, ⟨_, h_19⟩, ⟨_, h_20⟩, ⟨_, h_21⟩, ⟨_, h_22⟩, ⟨_, h_23⟩⟩, _, by rw [ht]; exact h_18, hN2⟩) hlo d_C_arrangeBits_161
  · refine lv_iload_n hx hb d_C_arrangeBits_0 rfl (lv_at hl 1 rfl) ?_
    refine lv_tableIn (off := 136) (tgt := 137) hx hb d_C_arrangeBits_1 (by decide) (by decide) (by decide) (by decide) ?_
    refine lv_aload_n hx hb d_C_arrangeBits_137 rfl (lv_at hl 0 rfl) ?_
    refine va_get (D := D) (ci := 0) (v := .ref (o + 18)) (C := "WideNumbers") (T := F_C) (N := 7) hx hb htw inC hown hK hO.1 0 rfl rfl 1 (by decide) (htw _ kw_21) (fun _ h9 => h9) rfl d_C_arrangeBits_138 ?_
    refine lv_aload_n hx hb d_C_arrangeBits_141 rfl (lv_at hl 2 rfl) ?_
    refine lv_aload_n hx hb d_C_arrangeBits_142 rfl (lv_at hl 3 rfl) ?_
    refine x_callv (A := CA o) (va_runS (As := [.ref (o + 18), .ref x, .ref y]) (rest := []) ⟨hx, hb, hml, hown, htw⟩ (c_or l D cJ cI cQ cR (o + 18) x y vx vy f18 fx fy (by omega) (by omega) hNx hNy) (xcS 3 htw kw_233 kw_1 kw_231 kw_232 rfl rfl ⟨by decide, by decide, by decide +kernel⟩ ⟨Nat.le_of_ble_eq_true rfl, Nat.le_of_ble_eq_true rfl⟩) (xPre hK ⟨h_18, h_X, h_Y⟩) rfl rfl hl.1 rfl (lv_room (Nat.le_of_ble_eq_true rfl)) d_C_arrangeBits_143 ⟨Nat.le_of_ble_eq_true rfl, Nat.le_of_ble_eq_true rfl⟩) hlo (fun q h => by have h : q = o + 18 := h; rw [h]; exact ⟨by omega, by omega⟩) (fun H2 locs2 hB2 hlo => ?_)
    obtain ⟨hF2, f2, hf2, hN2⟩ := hB2
    have h_18 := hf2
    have h_19 := hL_f h_19 hF2 (show o + 19 ≠ o + 18 by omega)
    have h_20 := hL_f h_20 hF2 (show o + 20 ≠ o + 18 by omega)
    have h_21 := hL_f h_21 hF2 (show o + 21 ≠ o + 18 by omega)
    have h_22 := hL_f h_22 hF2 (show o + 22 ≠ o + 18 by omega)
    have h_23 := hL_f h_23 hF2 (show o + 23 ≠ o + 18 by omega)
    have h_X := hL_f h_X hF2 (show x ≠ o + 18 by omega)
    have h_Y := hL_f h_Y hF2 (show y ≠ o + 18 by omega)
    have hO := hO.f1 hF2 (by omega)
    have hG := SA1 hG hF2 (by omega)
    refine lv_goto (tgt := 161) hx hb d_C_arrangeBits_146 (by decide) ?_
    exact W.vret hx hb hr (fun t ht hW => ⟨rfl, by rw [ht]; exact hG, by rw [ht]; exact ⟨⟨_, h_18⟩, ⟨_, h_19⟩, ⟨_, h_20⟩, ⟨_, h_21⟩, ⟨_, h_22⟩, ⟨_, h_23⟩⟩, _, by rw [ht]; exact h_18, hN2⟩) hlo d_C_arrangeBits_161
  · refine lv_iload_n hx hb d_C_arrangeBits_0 rfl (lv_at hl 1 rfl) ?_
    refine lv_tableIn (off := 148) (tgt := 149) hx hb d_C_arrangeBits_1 (by decide) (by decide) (by decide) (by decide) ?_
    refine lv_aload_n hx hb d_C_arrangeBits_149 rfl (lv_at hl 0 rfl) ?_
    refine va_get (D := D) (ci := 0) (v := .ref (o + 18)) (C := "WideNumbers") (T := F_C) (N := 7) hx hb htw inC hown hK hO.1 0 rfl rfl 1 (by decide) (htw _ kw_21) (fun _ h9 => h9) rfl d_C_arrangeBits_150 ?_
    refine lv_aload_n hx hb d_C_arrangeBits_153 rfl (lv_at hl 2 rfl) ?_
    refine lv_aload_n hx hb d_C_arrangeBits_154 rfl (lv_at hl 3 rfl) ?_
    refine x_callv (A := CA o) (va_runS (As := [.ref (o + 18), .ref x, .ref y]) (rest := []) ⟨hx, hb, hml, hown, htw⟩ (c_xor l D cJ cI cQ cR (o + 18) x y vx vy f18 fx fy (by omega) (by omega) hNx hNy) (xcS 3 htw kw_236 kw_1 kw_234 kw_235 rfl rfl ⟨by decide, by decide, by decide +kernel⟩ ⟨Nat.le_of_ble_eq_true rfl, Nat.le_of_ble_eq_true rfl⟩) (xPre hK ⟨h_18, h_X, h_Y⟩) rfl rfl hl.1 rfl (lv_room (Nat.le_of_ble_eq_true rfl)) d_C_arrangeBits_155 ⟨Nat.le_of_ble_eq_true rfl, Nat.le_of_ble_eq_true rfl⟩) hlo (fun q h => by have h : q = o + 18 := h; rw [h]; exact ⟨by omega, by omega⟩) (fun H2 locs2 hB2 hlo => ?_)
    obtain ⟨hF2, f2, hf2, hN2⟩ := hB2
    have h_18 := hf2
    have h_19 := hL_f h_19 hF2 (show o + 19 ≠ o + 18 by omega)
    have h_20 := hL_f h_20 hF2 (show o + 20 ≠ o + 18 by omega)
    have h_21 := hL_f h_21 hF2 (show o + 21 ≠ o + 18 by omega)
    have h_22 := hL_f h_22 hF2 (show o + 22 ≠ o + 18 by omega)
    have h_23 := hL_f h_23 hF2 (show o + 23 ≠ o + 18 by omega)
    have h_X := hL_f h_X hF2 (show x ≠ o + 18 by omega)
    have h_Y := hL_f h_Y hF2 (show y ≠ o + 18 by omega)
    have hO := hO.f1 hF2 (by omega)
    have hG := SA1 hG hF2 (by omega)
    refine lv_goto (tgt := 161) hx hb d_C_arrangeBits_158 (by decide) ?_
    exact W.vret hx hb hr (fun t ht hW => ⟨rfl, by rw [ht]; exact hG, by rw [ht]; exact ⟨⟨_, h_18⟩, ⟨_, h_19⟩, ⟨_, h_20⟩, ⟨_, h_21⟩, ⟨_, h_22⟩, ⟨_, h_23⟩⟩, _, by rw [ht]; exact h_18, hN2⟩) hlo d_C_arrangeBits_161
