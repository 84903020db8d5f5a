-- contracts: divideSizes, pickByte, extendSign, raise
set_option maxHeartbeats 4000000 in
set_option maxRecDepth 100000 in
theorem c_divideSizes (l : Launch) (D : va_G) (cJ cI cQ cR : ClassId) (o x y vx vy : Nat) (fx fy : Nat → Int64) (hxr : o + 2 ≤ x ∧ x < o + 18) (hyr : o + 2 ≤ y ∧ y < o + 18) (hvx : vx < 2 ^ 256) (hvy : vy < 2 ^ 256) (hNx : NL fx 8 vx) (hNy : NL fy 8 vy) : Met l y_C_divideSizes w_C_divideSizes { frames := 3, cells := 0, slots := 0, locals := 107 } (xP D vwCl (TY cJ cI cQ cR) [.ref o, .ref x, .ref y] (fun H => CB D cQ o H ∧ SC cJ o H ∧ hL H cJ x 8 fx ∧ hL H cJ y 8 fy)) (xQv (fun H0 H => XF (SA o) H0 H ∧ SC cJ o H ∧ ∃ (f g : Nat → Int64), hL H cJ (o + 22) 16 f ∧ NL f 16 (ab vx / ab vy) ∧ hL H cJ (o + 23) 8 g ∧ NL g 8 (if ab vy = 0 then 0 else ab vx % ab vy))) 0 0 (CA o) := by
  refine Met.ofW (cc := b_C_divideSizes) (maxL := 3) (ret := none) (by decide) rfl ?_
  intro p e s m args below meth c s₁ B hml hv
  obtain ⟨rfl, hK, ⟨hO, hSC, h_X, h_Y⟩⟩ := hv
  have hx := B.exec
  have hb := B.bytes
  have hr := B.returns
  have hts := atoms_spec (ws := w_C_divideSizes) B.pre
  have htw : ∀ w ∈ WT, w.before _ s = true := fun w h => hts w (List.mem_cons_of_mem _ h)
  have hown : s.vm.findClass "WideNumbers" = some m.cls := findClass_of_methodNamed B.named
  have hlocks := B.notSynchronized
  have hJ : ArrOfT s cJ .long := (hK.2 0 _ rfl).1
  have hI9 : ArrOfT s cI .int := (hK.2 1 _ rfl).1
  have hl := lv_entry ([.ref o, .ref x, .ref y]) (n := 3) (Nat.le_of_ble_eq_true rfl)
  rw [lg_entry_eq]
  generalize (lg_sl ([.ref o, .ref x, .ref y]) ++ List.replicate (3 - (lg_sl ([.ref o, .ref x, .ref y])).length) Slot.unset).toArray = ls at hl ⊢
  have hl : lv_has ls 3 [(0, .ref o), (1, .ref x), (2, .ref y)] := hl
  obtain ⟨⟨f18, h_18⟩, ⟨f19, h_19⟩, ⟨f20, h_20⟩, ⟨f21, h_21⟩, ⟨f22, h_22⟩, ⟨f23, h_23⟩⟩ := hSC
  have hG : XF (SA o) s.heap s.heap := XF.rf
  have hlo : ∀ q ∈ ([] : List Loc), CA o q.base := fun _ h => nomatch h
  have hab : ∀ v : Nat, v < 2 ^ 256 → (if (if 2 ^ 255 ≤ v then (1 : Int32) else 0) = 0 then v else (2 ^ 256 - v) % 2 ^ 256) = ab v := by
    intro v hv
    unfold ab
    by_cases h : 2 ^ 255 ≤ v
    · rw [if_pos h, if_pos h, if_neg (by decide), Nat.mod_eq_of_lt (by omega)]
    · rw [if_neg h, if_neg h, if_pos rfl]
  refine lv_aload_n hx hb d_C_divideSizes_0 rfl (lv_at hl 0 rfl) ?_
  refine va_get (D := D) (ci := 0) (v := .ref (o + 19)) (C := "WideNumbers") (T := F_C) (N := 7) hx hb htw inC hown hK hO.1 0 rfl rfl 2 (by decide) (htw _ kw_22) (fun _ h9 => h9) rfl d_C_divideSizes_1 ?_
  refine lv_aload_n hx hb d_C_divideSizes_4 rfl (lv_at hl 1 rfl) ?_
  refine lv_aload_n hx hb d_C_divideSizes_5 rfl (lv_at hl 1 rfl) ?_
  refine x_calli (A := CA o) (va_runS (As := [.ref x]) (rest := [.ref x, .ref (o + 19)]) ⟨hx, hb, hml, hown, htw⟩ (c_isNegative l D cJ cI cQ cR x vx fx hvx hNx) (xcS 1 htw kw_189 kw_1 kw_187 kw_188 rfl rfl ⟨by decide, by decide, by decide +kernel⟩ ⟨Nat.le_of_ble_eq_true rfl, Nat.le_of_ble_eq_true rfl⟩) (xPre hK h_X) rfl rfl hl.1 rfl (lv_room (Nat.le_of_ble_eq_true rfl)) d_C_divideSizes_6 ⟨Nat.le_of_ble_eq_true rfl, Nat.le_of_ble_eq_true rfl⟩) hlo (fun _ h => h.elim) (fun r0 H1 locs1 hB1 hlo => ?_)
  obtain ⟨rfl, rfl⟩ := hB1
  refine x_callv (A := CA o) (va_runS (As := [.ref (o + 19), .ref x, .int (if 2 ^ 255 ≤ vx then 1 else 0)]) (rest := []) ⟨hx, hb, hml, hown, htw⟩ (c_copyWithSign l D cJ cI cQ cR (o + 19) x 8 vx (if 2 ^ 255 ≤ vx then 1 else 0) f19 fx (by decide) (by omega) hvx hNx) (xcS 3 htw kw_192 kw_1 kw_190 kw_191 rfl rfl ⟨by decide, by decide, by decide +kernel⟩ ⟨Nat.le_of_ble_eq_true rfl, Nat.le_of_ble_eq_true rfl⟩) (xPre hK ⟨h_19, h_X⟩) rfl rfl hl.1 rfl (lv_room (Nat.le_of_ble_eq_true rfl)) d_C_divideSizes_9 ⟨Nat.le_of_ble_eq_true rfl, Nat.le_of_ble_eq_true rfl⟩) hlo (fun q h => by rcases h with h | h <;> (rw [h]; exact ⟨by omega, by omega⟩)) (fun G0 locg0 hC0 hlo => ?_)
  obtain ⟨hF0, g0, hg0, hNg0⟩ := hC0
  rw [hab vx hvx] at hNg0
  have h_18 := hL_f h_18 hF0 (show o + 18 ≠ o + 19 by omega)
  have h_19 := hg0
  have h_20 := hL_f h_20 hF0 (show o + 20 ≠ o + 19 by omega)
  have h_21 := hL_f h_21 hF0 (show o + 21 ≠ o + 19 by omega)
  have h_22 := hL_f h_22 hF0 (show o + 22 ≠ o + 19 by omega)
  have h_23 := hL_f h_23 hF0 (show o + 23 ≠ o + 19 by omega)
  have h_X := hL_f h_X hF0 (show x ≠ o + 19 by omega)
  have h_Y := hL_f h_Y hF0 (show y ≠ o + 19 by omega)
  have hO := hO.f1 hF0 (by omega)
  have hG := SA1 hG hF0 (by omega)
  refine lv_aload_n hx hb d_C_divideSizes_12 rfl (lv_at hl 0 rfl) ?_
  refine va_get (D := D) (ci := 0) (v := .ref (o + 20)) (C := "WideNumbers") (T := F_C) (N := 7) hx hb htw inC hown hK hO.1 0 rfl rfl 3 (by decide) (htw _ kw_23) (fun _ h9 => h9) rfl d_C_divideSizes_13 ?_
  refine lv_aload_n hx hb d_C_divideSizes_16 rfl (lv_at hl 2 rfl) ?_
  refine lv_aload_n hx hb d_C_divideSizes_17 rfl (lv_at hl 2 rfl) ?_
  refine x_calli (A := CA o) (va_runS (As := [.ref y]) (rest := [.ref y, .ref (o + 20)]) ⟨hx, hb, hml, hown, htw⟩ (c_isNegative l D cJ cI cQ cR y vy fy hvy hNy) (xcS 1 htw kw_189 kw_1 kw_187 kw_188 rfl rfl ⟨by decide, by decide, by decide +kernel⟩ ⟨Nat.le_of_ble_eq_true rfl, Nat.le_of_ble_eq_true rfl⟩) (xPre hK h_Y) rfl rfl hl.1 rfl (lv_room (Nat.le_of_ble_eq_true rfl)) d_C_divideSizes_18 ⟨Nat.le_of_ble_eq_true rfl, Nat.le_of_ble_eq_true rfl⟩) hlo (fun _ h => h.elim) (fun r1 H2 locs2 hB2 hlo => ?_)
  obtain ⟨rfl, rfl⟩ := hB2
  refine x_callv (A := CA o) (va_runS (As := [.ref (o + 20), .ref y, .int (if 2 ^ 255 ≤ vy then 1 else 0)]) (rest := []) ⟨hx, hb, hml, hown, htw⟩ (c_copyWithSign l D cJ cI cQ cR (o + 20) y 8 vy (if 2 ^ 255 ≤ vy then 1 else 0) f20 fy (by decide) (by omega) hvy hNy) (xcS 3 htw kw_192 kw_1 kw_190 kw_191 rfl rfl ⟨by decide, by decide, by decide +kernel⟩ ⟨Nat.le_of_ble_eq_true rfl, Nat.le_of_ble_eq_true rfl⟩) (xPre hK ⟨h_20, h_Y⟩) rfl rfl hl.1 rfl (lv_room (Nat.le_of_ble_eq_true rfl)) d_C_divideSizes_21 ⟨Nat.le_of_ble_eq_true rfl, Nat.le_of_ble_eq_true rfl⟩) hlo (fun q h => by rcases h with h | h <;> (rw [h]; exact ⟨by omega, by omega⟩)) (fun G1 locg1 hC1 hlo => ?_)
  obtain ⟨hF1, g1, hg1, hNg1⟩ := hC1
  rw [hab vy hvy] at hNg1
  have h_18 := hL_f h_18 hF1 (show o + 18 ≠ o + 20 by omega)
  have h_19 := hL_f h_19 hF1 (show o + 19 ≠ o + 20 by omega)
  have h_20 := hg1
  have h_21 := hL_f h_21 hF1 (show o + 21 ≠ o + 20 by omega)
  have h_22 := hL_f h_22 hF1 (show o + 22 ≠ o + 20 by omega)
  have h_23 := hL_f h_23 hF1 (show o + 23 ≠ o + 20 by omega)
  have h_X := hL_f h_X hF1 (show x ≠ o + 20 by omega)
  have h_Y := hL_f h_Y hF1 (show y ≠ o + 20 by omega)
  have hO := hO.f1 hF1 (by omega)
  have hG := SA1 hG hF1 (by omega)
  refine lv_aload_n hx hb d_C_divideSizes_24 rfl (lv_at hl 0 rfl) ?_
  refine lv_aload_n hx hb d_C_divideSizes_25 rfl (lv_at hl 0 rfl) ?_
  refine va_get (D := D) (ci := 0) (v := .ref (o + 19)) (C := "WideNumbers") (T := F_C) (N := 7) hx hb htw inC hown hK hO.1 0 rfl rfl 2 (by decide) (htw _ kw_22) (fun _ h9 => h9) rfl d_C_divideSizes_26 ?_
  refine lv_aload_n hx hb d_C_divideSizes_29 rfl (lv_at hl 0 rfl) ?_
  refine va_get (D := D) (ci := 0) (v := .ref (o + 20)) (C := "WideNumbers") (T := F_C) (N := 7) hx hb htw inC hown hK hO.1 0 rfl rfl 3 (by decide) (htw _ kw_23) (fun _ h9 => h9) rfl d_C_divideSizes_30 ?_
  refine x_callv (A := CA o) (va_runV (As := [.ref (o + 19), .ref (o + 20)]) (rest := []) ⟨hx, hb, hml, hown, htw⟩ (c_divide l D cJ cI cQ cR o (o + 19) (o + 20) 8 (ab vx) (ab vy) f22 f23 g0 g1 (Or.inl rfl) (nDA (by omega)) (nDA (by omega)) (ab_lt hvx) (ab_lt hvy) hNg0 hNg1) (xcV 2 htw kw_160 kw_1 kw_157 kw_159 ks_C_divide rfl rfl ⟨by decide, by decide, by decide +kernel⟩ ⟨Nat.le_of_ble_eq_true rfl, Nat.le_of_ble_eq_true rfl⟩) (xPreV hK (hO.rv hK) ⟨hO, h_22, h_23, h_19, h_20⟩) rfl rfl hl.1 rfl (lv_room (Nat.le_of_ble_eq_true rfl)) d_C_divideSizes_33 ⟨Nat.le_of_ble_eq_true rfl, Nat.le_of_ble_eq_true rfl⟩) hlo (fun q h => by rcases h with h | h <;> (rw [h]; exact ⟨by omega, by omega⟩)) (fun H9 locs9 hB9 hlo => ?_)
  obtain ⟨hF9, f9, g9, hf9, hNf9, hg9, hNg9⟩ := hB9
  have h_18 := hL_f h_18 hF9 (nDA (by omega))
  have h_19 := hL_f h_19 hF9 (nDA (by omega))
  have h_20 := hL_f h_20 hF9 (nDA (by omega))
  have h_21 := hL_f h_21 hF9 (nDA (by omega))
  have h_22 := hf9
  have h_23 := hg9
  have h_X := hL_f h_X hF9 (nDA (by omega))
  have h_Y := hL_f h_Y hF9 (nDA (by omega))
  have hO := hO.fD hF9
  have hG := SAD hG hF9
  exact W.vret hx hb hr (fun t ht hW => ⟨rfl, by rw [ht]; exact hG, by rw [ht]; exact ⟨⟨_, h_18⟩, ⟨_, h_19⟩, ⟨_, h_20⟩, ⟨_, h_21⟩, ⟨_, h_22⟩, ⟨_, h_23⟩⟩, f9, g9, by rw [ht]; exact h_22, hNf9, by rw [ht]; exact h_23, hNg9⟩) hlo d_C_divideSizes_36
set_option maxHeartbeats 4000000 in
set_option maxRecDepth 100000 in
theorem c_pickByte (l : Launch) (D : va_G) (cJ cI cQ cR : ClassId) (o x y vx vy : Nat) (fx fy : Nat → Int64) (hxr : o + 2 ≤ x ∧ x < o + 18) (hyr : o + 2 ≤ y ∧ y < o + 18) (hvx : vx < 2 ^ 256) (hvy : vy < 2 ^ 256) (hNx : NL fx 8 vx) (hNy : NL fy 8 vy) : Met l y_C_pickByte w_C_pickByte { frames := 3, cells := 0, slots := 0, locals := 63 } (xP D vwCl (TY cJ cI cQ cR) [.ref o, .ref x, .ref y] (fun H => CB D cQ o H ∧ SC cJ o H ∧ hL H cJ x 8 fx ∧ hL H cJ y 8 fy)) (xQv (fun H0 H => XF (SA o) H0 H ∧ SC cJ o H ∧ ∃ (f : Nat → Int64), hL H cJ (o + 18) 8 f ∧ NL f 8 (if vx < 32 then vy / 2 ^ (8 * (31 - vx)) % 256 else 0))) 0 0 (CA o) := by
  refine Met.ofW (cc := b_C_pickByte) (maxL := 5) (ret := none) (by decide) rfl ?_
  intro p e s m args below meth c s₁ B hml hv
  obtain ⟨rfl, hK, ⟨hO, hSC, h_X, h_Y⟩⟩ := hv
  have hx := B.exec
  have hb := B.bytes
  have hr := B.returns
  have hts := atoms_spec (ws := w_C_pickByte) B.pre
  have htw : ∀ w ∈ WT, w.before _ s = true := fun w h => hts w (List.mem_cons_of_mem _ h)
  have hown : s.vm.findClass "WideNumbers" = some m.cls := findClass_of_methodNamed B.named
  have hlocks := B.notSynchronized
  have hJ : ArrOfT s cJ .long := (hK.2 0 _ rfl).1
  have hI9 : ArrOfT s cI .int := (hK.2 1 _ rfl).1
  have hl := lv_entry ([.ref o, .ref x, .ref y]) (n := 5) (Nat.le_of_ble_eq_true rfl)
  rw [lg_entry_eq]
  generalize (lg_sl ([.ref o, .ref x, .ref y]) ++ List.replicate (5 - (lg_sl ([.ref o, .ref x, .ref y])).length) Slot.unset).toArray = ls at hl ⊢
  have hl : lv_has ls 5 [(0, .ref o), (1, .ref x), (2, .ref y)] := hl
  obtain ⟨⟨f18, h_18⟩, ⟨f19, h_19⟩, ⟨f20, h_20⟩, ⟨f21, h_21⟩, ⟨f22, h_22⟩, ⟨f23, h_23⟩⟩ := hSC
  have hG : XF (SA o) s.heap s.heap := XF.rf
  have hlo : ∀ q ∈ ([] : List Loc), CA o q.base := fun _ h => nomatch h
  refine lv_aload_n hx hb d_C_pickByte_0 rfl (lv_at hl 0 rfl) ?_
  refine va_get (D := D) (ci := 0) (v := .ref (o + 18)) (C := "WideNumbers") (T := F_C) (N := 7) hx hb htw inC hown hK hO.1 0 rfl rfl 1 (by decide) (htw _ kw_21) (fun _ h9 => h9) rfl d_C_pickByte_1 ?_
  refine lv_lconst (v := lN 0) hx hb d_C_pickByte_4 (by decide) ?_
  refine x_callv (A := CA o) (va_runS (As := [.ref (o + 18), .long (lN 0)]) (rest := []) ⟨hx, hb, hml, hown, htw⟩ (c_fill l D cJ cI cQ cR (o + 18) 8 (lN 0) f18 (by decide)) (xcS 2 htw kw_156 kw_7 kw_154 kw_155 rfl rfl ⟨by decide, by decide, by decide +kernel⟩ ⟨Nat.le_of_ble_eq_true rfl, Nat.le_of_ble_eq_true rfl⟩) (xPre hK h_18) rfl rfl hl.1 rfl (lv_room (Nat.le_of_ble_eq_true rfl)) d_C_pickByte_5 ⟨Nat.le_of_ble_eq_true rfl, Nat.le_of_ble_eq_true rfl⟩) hlo (fun q h => by have h : q = o + 18 := h; rw [h]; exact ⟨by omega, by omega⟩) (fun H1 locs1 hB1 hlo => ?_)
  obtain ⟨hF1, f1, hf1, hN1⟩ := hB1
  have h_18 := hf1
  have h_19 := hL_f h_19 hF1 (show o + 19 ≠ o + 18 by omega)
  have h_20 := hL_f h_20 hF1 (show o + 20 ≠ o + 18 by omega)
  have h_21 := hL_f h_21 hF1 (show o + 21 ≠ o + 18 by omega)
  have h_22 := hL_f h_22 hF1 (show o + 22 ≠ o + 18 by omega)
  have h_23 := hL_f h_23 hF1 (show o + 23 ≠ o + 18 by omega)
  have h_X := hL_f h_X hF1 (show x ≠ o + 18 by omega)
  have h_Y := hL_f h_Y hF1 (show y ≠ o + 18 by omega)
  have hO := hO.f1 hF1 (by omega)
  have hG := SA1 hG hF1 (by omega)
  refine lv_aload_n hx hb d_C_pickByte_8 rfl (lv_at hl 1 rfl) ?_
  refine lv_bipush (v := nI 32) hx hb d_C_pickByte_9 (by decide) ?_
  refine x_calli (A := CA o) (va_runS (As := [.ref x, .int (nI 32)]) (rest := []) ⟨hx, hb, hml, hown, htw⟩ (c_valueUpTo l D cJ cI cQ cR x vx 32 fx hvx (by decide) hNx) (xcS 2 htw kw_210 kw_1 kw_208 kw_209 rfl rfl ⟨by decide, by decide, by decide +kernel⟩ ⟨Nat.le_of_ble_eq_true rfl, Nat.le_of_ble_eq_true rfl⟩) (xPre hK h_X) rfl rfl hl.1 rfl (lv_room (Nat.le_of_ble_eq_true rfl)) d_C_pickByte_11 ⟨Nat.le_of_ble_eq_true rfl, Nat.le_of_ble_eq_true rfl⟩) hlo (fun _ h => h.elim) (fun r2 H2 locs2 hB2 hlo => ?_)
  obtain ⟨rfl, rfl⟩ := hB2
  refine lv_istore_n hx hb d_C_pickByte_14 rfl hl (by decide) rfl (fun ls hl => ?_)
  have hl : lv_has ls 5 [(3, .int (nI (min vx 32))), (0, .ref o), (1, .ref x), (2, .ref y)] := hl
  refine lv_iload_n hx hb d_C_pickByte_15 rfl (lv_at hl 0 rfl) ?_
  refine lv_bipush (v := nI 32) hx hb d_C_pickByte_16 (by decide) ?_
  refine lv_icmp_ge (tgt := 53) hx hb d_C_pickByte_18 (by decide) (fun hc => ?_) (fun hc => ?_)
  · have h32 : ¬ vx < 32 := fun h => absurd hc (nI_ge (by omega) (by omega))
    exact W.vret hx hb hr (fun t ht hW => ⟨rfl, by rw [ht]; exact hG, by rw [ht]; exact ⟨⟨_, h_18⟩, ⟨_, h_19⟩, ⟨_, h_20⟩, ⟨_, h_21⟩, ⟨_, h_22⟩, ⟨_, h_23⟩⟩, _, by rw [ht]; exact h_18, by rw [if_neg h32]; exact fun j hj => by rw [hN1 j hj, dg_0]⟩) hlo d_C_pickByte_53
  · have h32 : vx < 32 := Nat.lt_of_not_le (fun h => hc (nI_le (by omega) (by omega)))
    rw [show min vx 32 = vx by omega] at hl
    have hl : lv_has ls 5 [(3, .int (nI (vx))), (0, .ref o), (1, .ref x), (2, .ref y)] := hl
    refine lv_bipush (v := nI 8) hx hb d_C_pickByte_21 (by decide) ?_
    refine lv_bipush (v := nI 31) hx hb d_C_pickByte_23 (by decide) ?_
    refine lv_iload_n hx hb d_C_pickByte_25 rfl (lv_at hl 0 rfl) ?_
    refine lv_isub hx hb d_C_pickByte_26 ?_
    refine x_topi (v := nI (31 - vx)) (pk_sub (by omega)) ?_
    refine lv_imul hx hb d_C_pickByte_27 ?_
    refine x_topi (v := nI (8 * (31 - vx))) (pk_mul _ _) ?_
    refine lv_istore hx hb d_C_pickByte_28 hl (by decide) rfl (fun ls hl => ?_)
    have hl : lv_has ls 5 [(4, .int (nI (8 * (31 - vx)))), (3, .int (nI (vx))), (0, .ref o), (1, .ref x), (2, .ref y)] := hl
    refine lv_aload_n hx hb d_C_pickByte_30 rfl (lv_at hl 2 rfl) ?_
    refine va_get (D := D) (ci := 0) (v := .ref (o + 18)) (C := "WideNumbers") (T := F_C) (N := 7) hx hb htw inC hown hK hO.1 0 rfl rfl 1 (by decide) (htw _ kw_21) (fun _ h9 => h9) rfl d_C_pickByte_31 ?_
    refine lv_iconst (v := nI 0) hx hb d_C_pickByte_34 (by decide) ?_
    refine lv_aload_n hx hb d_C_pickByte_35 rfl (lv_at hl 4 rfl) ?_
    refine lv_iload hx hb d_C_pickByte_36 (lv_at hl 0 rfl) ?_
    refine lv_bipush (v := nI 32) hx hb d_C_pickByte_38 (by decide) ?_
    refine lv_idiv hx hb d_C_pickByte_40 (by decide) ?_
    refine x_topi (v := nI (8 * (31 - vx) / 32)) (pk_div (by omega) (by decide) (by decide)) ?_
    refine x_lald hx hb hJ h_Y (8 * (31 - vx) / 32) (rfl) (by omega) (by omega) (v := lN (dg vy (8 * (31 - vx) / 32))) (hNy _ (by omega)) d_C_pickByte_41 ?_
    refine lv_iload hx hb d_C_pickByte_42 (lv_at hl 0 rfl) ?_
    refine lv_bipush (v := nI 32) hx hb d_C_pickByte_44 (by decide) ?_
    refine lv_irem hx hb d_C_pickByte_46 (by decide) ?_
    refine x_topi (v := nI (8 * (31 - vx) % 32)) (pk_rem (by omega) (by decide) (by decide)) ?_
    have hd := dg_lt vy (8 * (31 - vx) / 32)
    refine lv_lushr (v := lN (dg vy (8 * (31 - vx) / 32) / 2 ^ (8 * (31 - vx) % 32))) hx hb d_C_pickByte_47 (jN_shr (by omega) (by omega)) ?_
    refine lv_ldc2 (v := (255 : Int64)) hx hb hown (htw _ kw_227) d_C_pickByte_48 ?_
    refine lv_land hx hb d_C_pickByte_51 ?_
    refine x_topl (v := lN (vy / 2 ^ (8 * (31 - vx)) % 256)) (by rw [jN_a255, by_8]) ?_
    refine x_last (A := CA o) hx hb hJ h_18 hlo (⟨by omega, by omega⟩) (0) (rfl) (by omega) (by omega) d_C_pickByte_52 (fun H3 locs3 h3 hF3 hlo => ?_)
    have h_18 := h3
    have h_19 := hL_f h_19 hF3 (show o + 19 ≠ o + 18 by omega)
    have h_20 := hL_f h_20 hF3 (show o + 20 ≠ o + 18 by omega)
    have h_21 := hL_f h_21 hF3 (show o + 21 ≠ o + 18 by omega)
    have h_22 := hL_f h_22 hF3 (show o + 22 ≠ o + 18 by omega)
    have h_23 := hL_f h_23 hF3 (show o + 23 ≠ o + 18 by omega)
    have h_X := hL_f h_X hF3 (show x ≠ o + 18 by omega)
    have h_Y := hL_f h_Y hF3 (show y ≠ o + 18 by omega)
    have hO := hO.f1 hF3 (by omega)
    have hG := SA1 hG hF3 (by omega)
    exact W.vret hx hb hr (fun t ht hW => ⟨rfl, by rw [ht]; exact hG, by rw [ht]; exact ⟨⟨_, h_18⟩, ⟨_, h_19⟩, ⟨_, h_20⟩, ⟨_, h_21⟩, ⟨_, h_22⟩, ⟨_, h_23⟩⟩, _, by rw [ht]; exact h_18, by rw [if_pos h32]; exact NL_s (by omega) hN1⟩) hlo d_C_pickByte_53
set_option maxHeartbeats 4000000 in
set_option maxRecDepth 100000 in
theorem c_extendSign (l : Launch) (D : va_G) (cJ cI cQ cR : ClassId) (o x y vx vy : Nat) (fx fy : Nat → Int64) (hxr : o + 2 ≤ x ∧ x < o + 18) (hyr : o + 2 ≤ y ∧ y < o + 18) (hvx : vx < 2 ^ 256) (hvy : vy < 2 ^ 256) (hNx : NL fx 8 vx) (hNy : NL fy 8 vy) : Met l y_C_extendSign w_C_extendSign { frames := 3, cells := 0, slots := 0, locals := 63 } (xP D vwCl (TY cJ cI cQ cR) [.ref o, .ref x, .ref y] (fun H => CB D cQ o H ∧ SC cJ o H ∧ hL H cJ x 8 fx ∧ hL H cJ y 8 fy)) (xQv (fun H0 H => XF (SA o) H0 H ∧ SC cJ o H ∧ ∃ (f : Nat → Int64), hL H cJ (o + 18) 8 f ∧ NL f 8 (opv 8 vx vy))) 0 0 (CA o) := by
  refine Met.ofW (cc := b_C_extendSign) (maxL := 5) (ret := none) (by decide) rfl ?_
  intro p e s m args below meth c s₁ B hml hv
  obtain ⟨rfl, hK, ⟨hO, hSC, h_X, h_Y⟩⟩ := hv
  have hx := B.exec
  have hb := B.bytes
  have hr := B.returns
  have hts := atoms_spec (ws := w_C_extendSign) B.pre
  have htw : ∀ w ∈ WT, w.before _ s = true := fun w h => hts w (List.mem_cons_of_mem _ h)
  have hown : s.vm.findClass "WideNumbers" = some m.cls := findClass_of_methodNamed B.named
  have hlocks := B.notSynchronized
  have hJ : ArrOfT s cJ .long := (hK.2 0 _ rfl).1
  have hI9 : ArrOfT s cI .int := (hK.2 1 _ rfl).1
  have hl := lv_entry ([.ref o, .ref x, .ref y]) (n := 5) (Nat.le_of_ble_eq_true rfl)
  rw [lg_entry_eq]
  generalize (lg_sl ([.ref o, .ref x, .ref y]) ++ List.replicate (5 - (lg_sl ([.ref o, .ref x, .ref y])).length) Slot.unset).toArray = ls at hl ⊢
  have hl : lv_has ls 5 [(0, .ref o), (1, .ref x), (2, .ref y)] := hl
  obtain ⟨⟨f18, h_18⟩, ⟨f19, h_19⟩, ⟨f20, h_20⟩, ⟨f21, h_21⟩, ⟨f22, h_22⟩, ⟨f23, h_23⟩⟩ := hSC
  have hG : XF (SA o) s.heap s.heap := XF.rf
  have hlo : ∀ q ∈ ([] : List Loc), CA o q.base := fun _ h => nomatch h
  refine lv_bipush (v := nI 31) hx hb d_C_extendSign_0 (by decide) ?_
  refine lv_istore_n hx hb d_C_extendSign_2 rfl hl (by decide) rfl (fun ls hl => ?_)
  have hl : lv_has ls 5 [(3, .int (nI 31)), (0, .ref o), (1, .ref x), (2, .ref y)] := hl
  refine lv_bipush (v := nI 8) hx hb d_C_extendSign_3 (by decide) ?_
  refine lv_iload_n hx hb d_C_extendSign_5 rfl (lv_at hl 0 rfl) ?_
  refine lv_aload_n hx hb d_C_extendSign_6 rfl (lv_at hl 2 rfl) ?_
  refine lv_iload_n hx hb d_C_extendSign_7 rfl (lv_at hl 0 rfl) ?_
  refine x_calli (A := CA o) (va_runS (As := [.ref x, .int (nI 31)]) (rest := [.int (nI 31), .int (nI 8)]) ⟨hx, hb, hml, hown, htw⟩ (c_valueUpTo l D cJ cI cQ cR x vx 31 fx hvx (by decide) hNx) (xcS 2 htw kw_210 kw_1 kw_208 kw_209 rfl rfl ⟨by decide, by decide, by decide +kernel⟩ ⟨Nat.le_of_ble_eq_true rfl, Nat.le_of_ble_eq_true rfl⟩) (xPre hK h_X) rfl rfl hl.1 rfl (lv_room (Nat.le_of_ble_eq_true rfl)) d_C_extendSign_8 ⟨Nat.le_of_ble_eq_true rfl, Nat.le_of_ble_eq_true rfl⟩) hlo (fun _ h => h.elim) (fun r2 H2 locs2 hB2 hlo => ?_)
  obtain ⟨rfl, rfl⟩ := hB2
  refine lv_isub hx hb d_C_extendSign_11 ?_
  refine x_topi (v := nI (31 - min vx 31)) (pk_sub (by omega)) ?_
  refine lv_imul hx hb d_C_extendSign_12 ?_
  refine x_topi (v := nI (8 * (31 - min vx 31))) (pk_mul _ _) ?_
  obtain ⟨k, hk⟩ : ∃ k, k = 8 * (31 - min vx 31) := ⟨_, rfl⟩
  rw [← hk]
  have hk256 : k ≤ 256 := by omega
  refine lv_istore hx hb d_C_extendSign_13 hl (by decide) rfl (fun ls hl => ?_)
  have hl : lv_has ls 5 [(4, .int (nI k)), (3, .int (nI 31)), (0, .ref o), (1, .ref x), (2, .ref y)] := hl
  refine lv_aload_n hx hb d_C_extendSign_15 rfl (lv_at hl 2 rfl) ?_
  refine va_get (D := D) (ci := 0) (v := .ref (o + 19)) (C := "WideNumbers") (T := F_C) (N := 7) hx hb htw inC hown hK hO.1 0 rfl rfl 2 (by decide) (htw _ kw_22) (fun _ h9 => h9) rfl d_C_extendSign_16 ?_
  refine lv_aload_n hx hb d_C_extendSign_19 rfl (lv_at hl 4 rfl) ?_
  refine lv_iload hx hb d_C_extendSign_20 (lv_at hl 0 rfl) ?_
  refine x_callv (A := CA o) (va_runS (As := [.ref (o + 19), .ref y, .int (nI k)]) (rest := []) ⟨hx, hb, hml, hown, htw⟩ (c_moveLeft l D cJ cI cQ cR (o + 19) y vy k f19 fy hk256 (by omega) hNy) (xcS 3 htw kw_213 kw_1 kw_211 kw_212 rfl rfl ⟨by decide, by decide, by decide +kernel⟩ ⟨Nat.le_of_ble_eq_true rfl, Nat.le_of_ble_eq_true rfl⟩) (xPre hK ⟨h_19, h_Y⟩) rfl rfl hl.1 rfl (lv_room (Nat.le_of_ble_eq_true rfl)) d_C_extendSign_22 ⟨Nat.le_of_ble_eq_true rfl, Nat.le_of_ble_eq_true rfl⟩) hlo (fun q h => by have h : q = o + 19 := h; rw [h]; exact ⟨by omega, by omega⟩) (fun H3 locs3 hB3 hlo => ?_)
  obtain ⟨hF3, f3, hf3, hN3⟩ := hB3
  have hN3 := NL_m hN3
  have hu : vy * 2 ^ k % 2 ^ 256 < 2 ^ 256 := Nat.mod_lt _ (pw_pos 256)
  have h_18 := hL_f h_18 hF3 (show o + 18 ≠ o + 19 by omega)
  have h_19 := hf3
  have h_20 := hL_f h_20 hF3 (show o + 20 ≠ o + 19 by omega)
  have h_21 := hL_f h_21 hF3 (show o + 21 ≠ o + 19 by omega)
  have h_22 := hL_f h_22 hF3 (show o + 22 ≠ o + 19 by omega)
  have h_23 := hL_f h_23 hF3 (show o + 23 ≠ o + 19 by omega)
  have h_X := hL_f h_X hF3 (show x ≠ o + 19 by omega)
  have h_Y := hL_f h_Y hF3 (show y ≠ o + 19 by omega)
  have hO := hO.f1 hF3 (by omega)
  have hG := SA1 hG hF3 (by omega)
  refine lv_aload_n hx hb d_C_extendSign_25 rfl (lv_at hl 2 rfl) ?_
  refine va_get (D := D) (ci := 0) (v := .ref (o + 18)) (C := "WideNumbers") (T := F_C) (N := 7) hx hb htw inC hown hK hO.1 0 rfl rfl 1 (by decide) (htw _ kw_21) (fun _ h9 => h9) rfl d_C_extendSign_26 ?_
  refine lv_aload_n hx hb d_C_extendSign_29 rfl (lv_at hl 2 rfl) ?_
  refine va_get (D := D) (ci := 0) (v := .ref (o + 19)) (C := "WideNumbers") (T := F_C) (N := 7) hx hb htw inC hown hK hO.1 0 rfl rfl 2 (by decide) (htw _ kw_22) (fun _ h9 => h9) rfl d_C_extendSign_30 ?_
  refine lv_iload hx hb d_C_extendSign_33 (lv_at hl 0 rfl) ?_
  refine lv_aload_n hx hb d_C_extendSign_35 rfl (lv_at hl 2 rfl) ?_
  refine va_get (D := D) (ci := 0) (v := .ref (o + 19)) (C := "WideNumbers") (T := F_C) (N := 7) hx hb htw inC hown hK hO.1 0 rfl rfl 2 (by decide) (htw _ kw_22) (fun _ h9 => h9) rfl d_C_extendSign_36 ?_
  refine x_calll (A := CA o) (va_runS (As := [.ref (o + 19)]) (rest := [.int (nI k), .ref (o + 19), .ref (o + 18)]) ⟨hx, hb, hml, hown, htw⟩ (c_limbOfSign l D cJ cI cQ cR (o + 19) (vy * 2 ^ k % 2 ^ 256) f3 hu hN3) (xcS 1 htw kw_219 kw_1 kw_217 kw_218 rfl rfl ⟨by decide, by decide, by decide +kernel⟩ ⟨Nat.le_of_ble_eq_true rfl, Nat.le_of_ble_eq_true rfl⟩) (xPre hK h_19) rfl rfl hl.1 rfl (lv_room (Nat.le_of_ble_eq_true rfl)) d_C_extendSign_39 ⟨Nat.le_of_ble_eq_true rfl, Nat.le_of_ble_eq_true rfl⟩) hlo (fun _ h => h.elim) (fun r4 H4 locs4 hB4 hlo => ?_)
  obtain ⟨rfl, rfl⟩ := hB4
  refine x_callv (A := CA o) (va_runS (As := [.ref (o + 18), .ref (o + 19), .int (nI k), .long (lN (if 2 ^ 255 ≤ vy * 2 ^ k % 2 ^ 256 then 4294967295 else 0))]) (rest := []) ⟨hx, hb, hml, hown, htw⟩ (c_moveRight l D cJ cI cQ cR (o + 18) (o + 19) (vy * 2 ^ k % 2 ^ 256) k (if 2 ^ 255 ≤ vy * 2 ^ k % 2 ^ 256 then 4294967295 else 0) (sx (vy * 2 ^ k % 2 ^ 256)) f18 f3 hk256 (by split <;> decide) (by omega) hN3 sx_lo (sx_hi hu)) (xcS 4 htw kw_222 kw_1 kw_220 kw_221 rfl rfl ⟨by decide, by decide, by decide +kernel⟩ ⟨Nat.le_of_ble_eq_true rfl, Nat.le_of_ble_eq_true rfl⟩) (xPre hK ⟨h_18, h_19⟩) rfl rfl hl.1 rfl (lv_room (Nat.le_of_ble_eq_true rfl)) d_C_extendSign_42 ⟨Nat.le_of_ble_eq_true rfl, Nat.le_of_ble_eq_true rfl⟩) hlo (fun q h => by have h : q = o + 18 := h; rw [h]; exact ⟨by omega, by omega⟩) (fun H5 locs5 hB5 hlo => ?_)
  obtain ⟨hF5, f5, hf5, hN5⟩ := hB5
  have hN5 := NL_m hN5
  rw [hk] at hN5
  have h_18 := hf5
  have h_19 := hL_f h_19 hF5 (show o + 19 ≠ o + 18 by omega)
  have h_20 := hL_f h_20 hF5 (show o + 20 ≠ o + 18 by omega)
  have h_21 := hL_f h_21 hF5 (show o + 21 ≠ o + 18 by omega)
  have h_22 := hL_f h_22 hF5 (show o + 22 ≠ o + 18 by omega)
  have h_23 := hL_f h_23 hF5 (show o + 23 ≠ o + 18 by omega)
  have h_X := hL_f h_X hF5 (show x ≠ o + 18 by omega)
  have h_Y := hL_f h_Y hF5 (show y ≠ o + 18 by omega)
  have hO := hO.f1 hF5 (by omega)
  have hG := SA1 hG hF5 (by omega)
  exact W.vret hx hb hr (fun t ht hW => ⟨rfl, by rw [ht]; exact hG, by rw [ht]; exact ⟨⟨_, h_18⟩, ⟨_, h_19⟩, ⟨_, h_20⟩, ⟨_, h_21⟩, ⟨_, h_22⟩, ⟨_, h_23⟩⟩, _, by rw [ht]; exact h_18, hN5⟩) hlo d_C_extendSign_45
set_option maxHeartbeats 4000000 in
set_option maxRecDepth 100000 in
theorem c_raise (l : Launch) (D : va_G) (cJ cI cQ cR : ClassId) (o x y vx vy : Nat) (fx fy : Nat → Int64) (hxr : o + 2 ≤ x ∧ x < o + 18) (hyr : o + 2 ≤ y ∧ y < o + 18) (hvx : vx < 2 ^ 256) (hvy : vy < 2 ^ 256) (hNx : NL fx 8 vx) (hNy : NL fy 8 vy) : Met l y_C_raise w_C_raise { frames := 2, cells := 0, slots := 0, locals := 85 } (xP D vwCl (TY cJ cI cQ cR) [.ref o, .ref x, .ref y] (fun H => CB D cQ o H ∧ SC cJ o H ∧ hL H cJ x 8 fx ∧ hL H cJ y 8 fy)) (xQv (fun H0 H => XF (SA o) H0 H ∧ SC cJ o H ∧ ∃ (f : Nat → Int64), hL H cJ (o + 18) 8 f ∧ NL f 8 (vx ^ vy % 2 ^ 256))) 0 0 (CA o) := by
  refine Met.ofW (cc := b_C_raise) (maxL := 4) (ret := none) (by decide) rfl ?_
  intro p e s m args below meth c s₁ B hml hv
  obtain ⟨rfl, hK, ⟨hO, hSC, h_X, h_Y⟩⟩ := hv
  have hx := B.exec
  have hb := B.bytes
  have hr := B.returns
  have hts := atoms_spec (ws := w_C_raise) B.pre
  have htw : ∀ w ∈ WT, w.before _ s = true := fun w h => hts w (List.mem_cons_of_mem _ h)
  have hown : s.vm.findClass "WideNumbers" = some m.cls := findClass_of_methodNamed B.named
  have hlocks := B.notSynchronized
  have hJ : ArrOfT s cJ .long := (hK.2 0 _ rfl).1
  have hI9 : ArrOfT s cI .int := (hK.2 1 _ rfl).1
  have hl := lv_entry ([.ref o, .ref x, .ref y]) (n := 4) (Nat.le_of_ble_eq_true rfl)
  rw [lg_entry_eq]
  generalize (lg_sl ([.ref o, .ref x, .ref y]) ++ List.replicate (4 - (lg_sl ([.ref o, .ref x, .ref y])).length) Slot.unset).toArray = ls at hl ⊢
  have hl : lv_has ls 4 [(0, .ref o), (1, .ref x), (2, .ref y)] := hl
  obtain ⟨⟨f18, h_18⟩, ⟨f19, h_19⟩, ⟨f20, h_20⟩, ⟨f21, h_21⟩, ⟨f22, h_22⟩, ⟨f23, h_23⟩⟩ := hSC
  have hG : XF (SA o) s.heap s.heap := XF.rf
  have hlo : ∀ q ∈ ([] : List Loc), CA o q.base := fun _ h => nomatch h
  refine lv_aload_n hx hb d_C_raise_0 rfl (lv_at hl 0 rfl) ?_
  refine va_get (D := D) (ci := 0) (v := .ref (o + 18)) (C := "WideNumbers") (T := F_C) (N := 7) hx hb htw inC hown hK hO.1 0 rfl rfl 1 (by decide) (htw _ kw_21) (fun _ h9 => h9) rfl d_C_raise_1 ?_
  refine lv_lconst (v := lN 0) hx hb d_C_raise_4 (by decide) ?_
  refine x_callv (A := CA o) (va_runS (As := [.ref (o + 18), .long (lN 0)]) (rest := []) ⟨hx, hb, hml, hown, htw⟩ (c_fill l D cJ cI cQ cR (o + 18) 8 (lN 0) f18 (by decide)) (xcS 2 htw kw_156 kw_7 kw_154 kw_155 rfl rfl ⟨by decide, by decide, by decide +kernel⟩ ⟨Nat.le_of_ble_eq_true rfl, Nat.le_of_ble_eq_true rfl⟩) (xPre hK h_18) rfl rfl hl.1 rfl (lv_room (Nat.le_of_ble_eq_true rfl)) d_C_raise_5 ⟨Nat.le_of_ble_eq_true rfl, Nat.le_of_ble_eq_true rfl⟩) hlo (fun q h => by have h : q = o + 18 := h; rw [h]; exact ⟨by omega, by omega⟩) (fun H1 locs1 hB1 hlo => ?_)
  obtain ⟨hF1, f1, hf1, hN1⟩ := hB1
  have h_18 := hf1
  have h_19 := hL_f h_19 hF1 (show o + 19 ≠ o + 18 by omega)
  have h_20 := hL_f h_20 hF1 (show o + 20 ≠ o + 18 by omega)
  have h_21 := hL_f h_21 hF1 (show o + 21 ≠ o + 18 by omega)
  have h_22 := hL_f h_22 hF1 (show o + 22 ≠ o + 18 by omega)
  have h_23 := hL_f h_23 hF1 (show o + 23 ≠ o + 18 by omega)
  have h_X := hL_f h_X hF1 (show x ≠ o + 18 by omega)
  have h_Y := hL_f h_Y hF1 (show y ≠ o + 18 by omega)
  have hO := hO.f1 hF1 (by omega)
  have hG := SA1 hG hF1 (by omega)
  refine lv_aload_n hx hb d_C_raise_8 rfl (lv_at hl 0 rfl) ?_
  refine va_get (D := D) (ci := 0) (v := .ref (o + 18)) (C := "WideNumbers") (T := F_C) (N := 7) hx hb htw inC hown hK hO.1 0 rfl rfl 1 (by decide) (htw _ kw_21) (fun _ h9 => h9) rfl d_C_raise_9 ?_
  refine lv_iconst (v := nI 0) hx hb d_C_raise_12 (by decide) ?_
  refine lv_lconst (v := lN 1) hx hb d_C_raise_13 (by decide) ?_
  refine x_last (A := CA o) hx hb hJ h_18 hlo (⟨by omega, by omega⟩) (0) (rfl) (by omega) (by omega) d_C_raise_14 (fun H2 locs2 h2 hF2 hlo => ?_)
  have h_18 := h2
  have h_19 := hL_f h_19 hF2 (show o + 19 ≠ o + 18 by omega)
  have h_20 := hL_f h_20 hF2 (show o + 20 ≠ o + 18 by omega)
  have h_21 := hL_f h_21 hF2 (show o + 21 ≠ o + 18 by omega)
  have h_22 := hL_f h_22 hF2 (show o + 22 ≠ o + 18 by omega)
  have h_23 := hL_f h_23 hF2 (show o + 23 ≠ o + 18 by omega)
  have h_X := hL_f h_X hF2 (show x ≠ o + 18 by omega)
  have h_Y := hL_f h_Y hF2 (show y ≠ o + 18 by omega)
  have hO := hO.f1 hF2 (by omega)
  have hG := SA1 hG hF2 (by omega)
  have hN2 := NL_s (v := 1) (by decide) hN1
  refine lv_aload_n hx hb d_C_raise_15 rfl (lv_at hl 2 rfl) ?_
  refine x_calli (A := CA o) (va_runS (As := [.ref y]) (rest := []) ⟨hx, hb, hml, hown, htw⟩ (c_usedBits l D cJ cI cQ cR y 8 vy fy (by decide) hvy hNy) (xcS 1 htw kw_163 kw_1 kw_161 kw_162 rfl rfl ⟨by decide, by decide, by decide +kernel⟩ ⟨Nat.le_of_ble_eq_true rfl, Nat.le_of_ble_eq_true rfl⟩) (xPre hK h_Y) rfl rfl hl.1 rfl (lv_room (Nat.le_of_ble_eq_true rfl)) d_C_raise_16 ⟨Nat.le_of_ble_eq_true rfl, Nat.le_of_ble_eq_true rfl⟩) hlo (fun _ h => h.elim) (fun r3 H3 locs3 hB3 hlo => ?_)
  obtain ⟨rfl, kx, rfl, ⟨hkx, hkx2⟩, hkx3⟩ := hB3
  refine lv_iconst (v := nI 1) hx hb d_C_raise_19 (by decide) ?_
  refine lv_isub hx hb d_C_raise_20 ?_
  refine x_topi (v := nI kx - 1) (rfl) ?_
  refine lv_istore_n hx hb d_C_raise_21 rfl hl (by decide) rfl (fun ls hl => ?_)
  have hl : lv_has ls 4 [(3, .int (nI kx - 1)), (0, .ref o), (1, .ref x), (2, .ref y)] := hl
  have hl : lv_has ls 4 [(3, .int (nI kx - 1)), (0, .ref o), (1, .ref x), (2, .ref y)] := lv_sub hl [0, 1, 2, 3] rfl
  refine x_loopD 22 (fun i H locs ls => i ≤ kx ∧ ∃ (fr : Nat → Int64), lv_has ls 4 [(3, .int (nI i - 1)), (0, .ref o), (1, .ref x), (2, .ref y)] ∧ (∀ q ∈ locs, CA o q.base) ∧ XF (SA o) s.heap H ∧ CB D cQ o H ∧ SC cJ o H ∧ hL H cJ x 8 fx ∧ hL H cJ y 8 fy ∧ hL H cJ (o + 18) 8 fr ∧ NL fr 8 (vx ^ (vy / 2 ^ i) % 2 ^ 256)) ?_ ?_ kx _ _ _ ?_
  · intro i H locs ls ⟨hi, fr, hl, hlo, hG, hO, ⟨_, ⟨f19, h_19⟩, ⟨f20, h_20⟩, ⟨f21, h_21⟩, ⟨f22, h_22⟩, ⟨f23, h_23⟩⟩, h_X, h_Y, h_18, hNr⟩ ih
    have hbit : vy / 2 ^ i % 2 ≤ 1 := by omega
    have hT := dv_b vy i
    generalize hbb : vy / 2 ^ i % 2 = b0 at hbit hT
    have hrl : vx ^ (vy / 2 ^ (i + 1)) % 2 ^ 256 < 2 ^ 256 := Nat.mod_lt _ (pw_pos 256)
    refine lv_iload_n hx hb d_C_raise_22 rfl (lv_at hl 0 rfl) ?_
    refine x_topi (v := nI i) (nI_pred i) ?_
    refine lv_if_lt (tgt := 83) hx hb d_C_raise_23 (by decide) (fun hc => absurd hc (nI_pos (by omega))) (fun _ => ?_)
    refine lv_aload_n hx hb d_C_raise_26 rfl (lv_at hl 1 rfl) ?_
    refine va_get (D := D) (ci := 0) (v := .ref (o + 19)) (C := "WideNumbers") (T := F_C) (N := 7) hx hb htw inC hown hK hO.1 0 rfl rfl 2 (by decide) (htw _ kw_22) (fun _ h9 => h9) rfl d_C_raise_27 ?_
    refine lv_aload_n hx hb d_C_raise_30 rfl (lv_at hl 1 rfl) ?_
    refine va_get (D := D) (ci := 0) (v := .ref (o + 18)) (C := "WideNumbers") (T := F_C) (N := 7) hx hb htw inC hown hK hO.1 0 rfl rfl 1 (by decide) (htw _ kw_21) (fun _ h9 => h9) rfl d_C_raise_31 ?_
    refine lv_aload_n hx hb d_C_raise_34 rfl (lv_at hl 1 rfl) ?_
    refine va_get (D := D) (ci := 0) (v := .ref (o + 18)) (C := "WideNumbers") (T := F_C) (N := 7) hx hb htw inC hown hK hO.1 0 rfl rfl 1 (by decide) (htw _ kw_21) (fun _ h9 => h9) rfl d_C_raise_35 ?_
    refine x_callv (A := CA o) (va_runS (As := [.ref (o + 19), .ref (o + 18), .ref (o + 18)]) (rest := []) ⟨hx, hb, hml, hown, htw⟩ (c_multiply l D cJ cI cQ cR (o + 19) (o + 18) (o + 18) 8 (vx ^ (vy / 2 ^ (i + 1)) % 2 ^ 256) (vx ^ (vy / 2 ^ (i + 1)) % 2 ^ 256) f19 fr fr (Or.inl rfl) (by omega) (by omega) hrl hrl hNr hNr) (xcS 3 htw kw_153 kw_1 kw_151 kw_152 rfl rfl ⟨by decide, by decide, by decide +kernel⟩ ⟨Nat.le_of_ble_eq_true rfl, Nat.le_of_ble_eq_true rfl⟩) (xPre hK ⟨h_19, h_18, h_18⟩) rfl rfl hl.1 rfl (lv_room (Nat.le_of_ble_eq_true rfl)) d_C_raise_38 ⟨Nat.le_of_ble_eq_true rfl, Nat.le_of_ble_eq_true rfl⟩) hlo (fun q h => by have h : q = o + 19 := h; rw [h]; exact ⟨by omega, by omega⟩) (fun H4 locs4 hB4 hlo => ?_)
    obtain ⟨hF4, f4, hf4, hN4⟩ := hB4
    have hN4 := NL_m hN4
    rw [pw_sq] at hN4
    have h4l : vx ^ (2 * (vy / 2 ^ (i + 1))) % 2 ^ 256 < 2 ^ 256 := Nat.mod_lt _ (pw_pos 256)
    have h_18 := hL_f h_18 hF4 (show o + 18 ≠ o + 19 by omega)
    have h_19 := hf4
    have h_20 := hL_f h_20 hF4 (show o + 20 ≠ o + 19 by omega)
    have h_21 := hL_f h_21 hF4 (show o + 21 ≠ o + 19 by omega)
    have h_22 := hL_f h_22 hF4 (show o + 22 ≠ o + 19 by omega)
    have h_23 := hL_f h_23 hF4 (show o + 23 ≠ o + 19 by omega)
    have h_X := hL_f h_X hF4 (show x ≠ o + 19 by omega)
    have h_Y := hL_f h_Y hF4 (show y ≠ o + 19 by omega)
    have hO := hO.f1 hF4 (by omega)
    have hG := SA1 hG hF4 (by omega)
    refine lv_aload_n hx hb d_C_raise_41 rfl (lv_at hl 3 rfl) ?_
    refine lv_iload_n hx hb d_C_raise_42 rfl (lv_at hl 0 rfl) ?_
    refine x_topi (v := nI i) (nI_pred i) ?_
    refine x_calll (A := CA o) (va_runS (As := [.ref y, .int (nI i)]) (rest := []) ⟨hx, hb, hml, hown, htw⟩ (c_bitAt l D cJ cI cQ cR y 8 i vy fy (by decide) (by omega) hNy) (xcS 2 htw kw_170 kw_1 kw_168 kw_169 rfl rfl ⟨by decide, by decide, by decide +kernel⟩ ⟨Nat.le_of_ble_eq_true rfl, Nat.le_of_ble_eq_true rfl⟩) (xPre hK h_Y) rfl rfl hl.1 rfl (lv_room (Nat.le_of_ble_eq_true rfl)) d_C_raise_43 ⟨Nat.le_of_ble_eq_true rfl, Nat.le_of_ble_eq_true rfl⟩) hlo (fun _ h => h.elim) (fun r5 H5 locs5 hB5 hlo => ?_)
    obtain ⟨rfl, rfl⟩ := hB5
    rw [hbb]
    refine lv_lconst (v := lN 0) hx hb d_C_raise_46 (by decide) ?_
    refine W.lcmp hx hb d_C_raise_47 ?_
    refine lv_if_ne (tgt := 65) hx hb d_C_raise_48 (by decide) (fun hc => ?_) (fun hc => ?_)
    · have hb1 : b0 = 1 := by
        have hne : b0 ≠ 0 := fun h => hc ((cmp_eq _ _).mpr (by rw [h]))
        omega
      refine lv_aload_n hx hb d_C_raise_65 rfl (lv_at hl 1 rfl) ?_
      refine va_get (D := D) (ci := 0) (v := .ref (o + 18)) (C := "WideNumbers") (T := F_C) (N := 7) hx hb htw inC hown hK hO.1 0 rfl rfl 1 (by decide) (htw _ kw_21) (fun _ h9 => h9) rfl d_C_raise_66 ?_
      refine lv_aload_n hx hb d_C_raise_69 rfl (lv_at hl 1 rfl) ?_
      refine va_get (D := D) (ci := 0) (v := .ref (o + 19)) (C := "WideNumbers") (T := F_C) (N := 7) hx hb htw inC hown hK hO.1 0 rfl rfl 2 (by decide) (htw _ kw_22) (fun _ h9 => h9) rfl d_C_raise_70 ?_
      refine lv_aload_n hx hb d_C_raise_73 rfl (lv_at hl 2 rfl) ?_
      refine x_callv (A := CA o) (va_runS (As := [.ref (o + 18), .ref (o + 19), .ref x]) (rest := []) ⟨hx, hb, hml, hown, htw⟩ (c_multiply l D cJ cI cQ cR (o + 18) (o + 19) x 8 (vx ^ (2 * (vy / 2 ^ (i + 1))) % 2 ^ 256) vx fr f4 fx (Or.inl rfl) (by omega) (by omega) h4l hvx hN4 hNx) (xcS 3 htw kw_153 kw_1 kw_151 kw_152 rfl rfl ⟨by decide, by decide, by decide +kernel⟩ ⟨Nat.le_of_ble_eq_true rfl, Nat.le_of_ble_eq_true rfl⟩) (xPre hK ⟨h_18, h_19, h_X⟩) rfl rfl hl.1 rfl (lv_room (Nat.le_of_ble_eq_true rfl)) d_C_raise_74 ⟨Nat.le_of_ble_eq_true rfl, Nat.le_of_ble_eq_true rfl⟩) hlo (fun q h => by have h : q = o + 18 := h; rw [h]; exact ⟨by omega, by omega⟩) (fun H7 locs7 hB7 hlo => ?_)
      obtain ⟨hF7, f7, hf7, hN7⟩ := hB7
      have hN7 := NL_m hN7
      rw [pw_sq1] at hN7
      have h_18 := hf7
      have h_19 := hL_f h_19 hF7 (show o + 19 ≠ o + 18 by omega)
      have h_20 := hL_f h_20 hF7 (show o + 20 ≠ o + 18 by omega)
      have h_21 := hL_f h_21 hF7 (show o + 21 ≠ o + 18 by omega)
      have h_22 := hL_f h_22 hF7 (show o + 22 ≠ o + 18 by omega)
      have h_23 := hL_f h_23 hF7 (show o + 23 ≠ o + 18 by omega)
      have h_X := hL_f h_X hF7 (show x ≠ o + 18 by omega)
      have h_Y := hL_f h_Y hF7 (show y ≠ o + 18 by omega)
      have hO := hO.f1 hF7 (by omega)
      have hG := SA1 hG hF7 (by omega)
      refine lv_iinc (v := nI i - 1) (k := 0) hx hb d_C_raise_77 hl rfl (i_dec i) (by decide) rfl (fun ls hl => ?_)
      have hl : lv_has ls 4 [(3, .int (nI i - 1)), (0, .ref o), (1, .ref x), (2, .ref y)] := hl
      refine lv_goto (tgt := 22) hx hb d_C_raise_80 (by decide) ?_
      have hl : lv_has ls 4 [(3, .int (nI i - 1)), (0, .ref o), (1, .ref x), (2, .ref y)] := lv_sub hl [0, 1, 2, 3] rfl
      exact ih _ _ ls ⟨by omega, f7, hl, hlo, hG, hO, ⟨⟨_, h_18⟩, ⟨_, h_19⟩, ⟨_, h_20⟩, ⟨_, h_21⟩, ⟨_, h_22⟩, ⟨_, h_23⟩⟩, h_X, h_Y, h_18, by rw [hT, hb1]; exact hN7⟩
    · have hb0 : b0 = 0 := (jN_eq (by omega) (by decide)).mp ((cmp_eq _ _).mp hc)
      refine lv_aload_n hx hb d_C_raise_51 rfl (lv_at hl 1 rfl) ?_
      refine va_get (D := D) (ci := 0) (v := .ref (o + 18)) (C := "WideNumbers") (T := F_C) (N := 7) hx hb htw inC hown hK hO.1 0 rfl rfl 1 (by decide) (htw _ kw_21) (fun _ h9 => h9) rfl d_C_raise_52 ?_
      refine lv_aload_n hx hb d_C_raise_55 rfl (lv_at hl 1 rfl) ?_
      refine va_get (D := D) (ci := 0) (v := .ref (o + 19)) (C := "WideNumbers") (T := F_C) (N := 7) hx hb htw inC hown hK hO.1 0 rfl rfl 2 (by decide) (htw _ kw_22) (fun _ h9 => h9) rfl d_C_raise_56 ?_
      refine x_callv (A := CA o) (va_runS (As := [.ref (o + 18), .ref (o + 19)]) (rest := []) ⟨hx, hb, hml, hown, htw⟩ (c_copy l D cJ cI cQ cR (o + 18) (o + 19) 8 (vx ^ (2 * (vy / 2 ^ (i + 1))) % 2 ^ 256) fr f4 (by decide) (by omega) hN4) (xcS 2 htw kw_179 kw_1 kw_177 kw_178 rfl rfl ⟨by decide, by decide, by decide +kernel⟩ ⟨Nat.le_of_ble_eq_true rfl, Nat.le_of_ble_eq_true rfl⟩) (xPre hK ⟨h_18, h_19⟩) rfl rfl hl.1 rfl (lv_room (Nat.le_of_ble_eq_true rfl)) d_C_raise_59 ⟨Nat.le_of_ble_eq_true rfl, Nat.le_of_ble_eq_true rfl⟩) hlo (fun q h => by rcases h with h | h <;> (rw [h]; exact ⟨by omega, by omega⟩)) (fun H6 locs6 hB6 hlo => ?_)
      obtain ⟨hF6, f6, hf6, hN6⟩ := hB6
      have h_18 := hf6
      have h_19 := hL_f h_19 hF6 (show o + 19 ≠ o + 18 by omega)
      have h_20 := hL_f h_20 hF6 (show o + 20 ≠ o + 18 by omega)
      have h_21 := hL_f h_21 hF6 (show o + 21 ≠ o + 18 by omega)
      have h_22 := hL_f h_22 hF6 (show o + 22 ≠ o + 18 by omega)
      have h_23 := hL_f h_23 hF6 (show o + 23 ≠ o + 18 by omega)
      have h_X := hL_f h_X hF6 (show x ≠ o + 18 by omega)
      have h_Y := hL_f h_Y hF6 (show y ≠ o + 18 by omega)
      have hO := hO.f1 hF6 (by omega)
      have hG := SA1 hG hF6 (by omega)
      refine lv_goto (tgt := 77) hx hb d_C_raise_62 (by decide) ?_
      refine lv_iinc (v := nI i - 1) (k := 0) hx hb d_C_raise_77 hl rfl (i_dec i) (by decide) rfl (fun ls hl => ?_)
      have hl : lv_has ls 4 [(3, .int (nI i - 1)), (0, .ref o), (1, .ref x), (2, .ref y)] := hl
      refine lv_goto (tgt := 22) hx hb d_C_raise_80 (by decide) ?_
      have hl : lv_has ls 4 [(3, .int (nI i - 1)), (0, .ref o), (1, .ref x), (2, .ref y)] := lv_sub hl [0, 1, 2, 3] rfl
      exact ih _ _ ls ⟨by omega, f6, hl, hlo, hG, hO, ⟨⟨_, h_18⟩, ⟨_, h_19⟩, ⟨_, h_20⟩, ⟨_, h_21⟩, ⟨_, h_22⟩, ⟨_, h_23⟩⟩, h_X, h_Y, h_18, by rw [hT, hb0]; exact hN6⟩
  · intro H locs ls ⟨hi, fr, hl, hlo, hG, hO, hSC, h_X, h_Y, h_18, hNr⟩
    refine lv_iload_n hx hb d_C_raise_22 rfl (lv_at hl 0 rfl) ?_
    refine lv_if_lt (tgt := 83) hx hb d_C_raise_23 (by decide) (fun _ => ?_) (fun hc => absurd (by decide) hc)
    rw [Nat.pow_zero, Nat.div_one] at hNr
    exact W.vret hx hb hr (fun t ht hW => ⟨rfl, by rw [ht]; exact hG, by rw [ht]; exact hSC, fr, by rw [ht]; exact h_18, hNr⟩) hlo d_C_raise_83
  · exact ⟨Nat.le_refl _, _, hl, hlo, hG, hO, ⟨⟨_, h_18⟩, ⟨_, h_19⟩, ⟨_, h_20⟩, ⟨_, h_21⟩, ⟨_, h_22⟩, ⟨_, h_23⟩⟩, h_X, h_Y, h_18, by rw [Nat.div_eq_of_lt hkx, Nat.pow_zero]; exact hN2⟩
