-- contracts of the reference: signed, power, extend
set_option maxHeartbeats 4000000 in
set_option maxRecDepth 100000 in
theorem m_signed (l : Launch) (D : va_G) (cJ cI cQ cR : ClassId) (o x y vx vy : Nat) (fl : Int32) (fx fy : Nat → Int32) (hxr : o + 2 ≤ x ∧ x < o + 18) (hyr : o + 2 ≤ y ∧ y < o + 18) (hvx : vx < 2 ^ 256) (hvy : vy < 2 ^ 256) (hNx : NI fx 8 vx) (hNy : NI fy 8 vy) (rt : Int32) (hrt : rt = nI 0 ∨ rt = nI 1) (hvp : 0 < vy) : Met l y_M_signed w_M_signed { frames := 2, cells := 0, slots := 0, locals := 51 } (xP D vwCl (TY cJ cI cQ cR) [.ref o, .ref (o + 20), .ref x, .ref y, .int rt] (fun H => MB D cR o fl H ∧ SM cI o H ∧ hI H cI x 8 fx ∧ hI H cI y 8 fy)) (xQv (fun H0 H => XF (MS o) H0 H ∧ SM cI o H ∧ ∃ f : Nat → Int32, hI H cI (o + 20) 8 f ∧ NI f 8 (if rt = 0 then sdv vx vy else srm vx vy))) 0 0 (MS o) := by
  refine Met.ofW (cc := b_M_signed) (maxL := 7) (ret := none) (by decide) rfl ?_
  intro p e s m args below meth c s₁ B hml hv
  obtain ⟨rfl, hK, ⟨hO, hSM, h_X, h_Y⟩⟩ := hv
  have hx := B.exec
  have hb := B.bytes
  have hr := B.returns
  have hts := atoms_spec (ws := w_M_signed) B.pre
  have htw : ∀ w ∈ WT, w.before _ s = true := fun w h => hts w (List.mem_cons_of_mem _ h)
  have hown : s.vm.findClass "WideNumbersModel" = some m.cls := findClass_of_methodNamed B.named
  have hlocks := B.notSynchronized
  have hJ : ArrOfT s cJ .long := (hK.2 0 _ rfl).1
  have hI9 : ArrOfT s cI .int := (hK.2 1 _ rfl).1
  have hl := lv_entry ([.ref o, .ref (o + 20), .ref x, .ref y, .int rt]) (n := 7) (Nat.le_of_ble_eq_true rfl)
  rw [lg_entry_eq]
  generalize (lg_sl ([.ref o, .ref (o + 20), .ref x, .ref y, .int rt]) ++ List.replicate (7 - (lg_sl ([.ref o, .ref (o + 20), .ref x, .ref y, .int rt])).length) Slot.unset).toArray = ls at hl ⊢
  have hl : lv_has ls 7 [(0, .ref o), (1, .ref (o + 20)), (2, .ref x), (3, .ref y), (4, .int rt)] := hl
  obtain ⟨⟨f18, h_18⟩, ⟨f19, h_19⟩, ⟨f20, h_20⟩, ⟨f21, h_21, hN21⟩, ⟨f22, h_22⟩, ⟨f23, h_23⟩, ⟨f24, h_24⟩⟩ := hSM
  have hG : XF (MS o) s.heap s.heap := XF.rf
  have hlo : ∀ q ∈ ([] : List Loc), MS o q.base := fun _ h => nomatch h
  have hap : 0 < ab vy := by
    unfold ab
    split <;> omega
  have hal := ab_lt hvx
  have hbl := ab_lt hvy
  have hql : ab vx / ab vy < 2 ^ 256 := Nat.lt_of_le_of_lt (Nat.div_le_self _ _) hal
  have hrl : ab vx % ab vy < 2 ^ 256 := Nat.lt_trans (Nat.mod_lt _ hap) hbl
  rcases hrt with rfl | rfl
  · by_cases hs1 : 2 ^ 255 ≤ vx
    · by_cases hs2 : 2 ^ 255 ≤ vy
      · refine lv_aload_n hx hb d_M_signed_0 rfl (lv_at hl 0 rfl) ?_
        refine lv_aload_n hx hb d_M_signed_1 rfl (lv_at hl 2 rfl) ?_
        refine x_calli (A := MS o) (va_runV (As := [.ref x]) (rest := []) ⟨hx, hb, hml, hown, htw⟩ (m_below l D cJ cI cQ cR o x vx fx hvx hNx) (xcV 1 htw kw_371 kw_2 kw_368 kw_370 ks_M_below rfl rfl ⟨by decide, by decide, by decide +kernel⟩ ⟨Nat.le_of_ble_eq_true rfl, Nat.le_of_ble_eq_true rfl⟩) (xPreV hK (hO.rv hK) h_X) rfl rfl hl.1 rfl (lv_room (Nat.le_of_ble_eq_true rfl)) d_M_signed_2 ⟨Nat.le_of_ble_eq_true rfl, Nat.le_of_ble_eq_true rfl⟩) hlo (fun _ h => h.elim) (fun r1 H1 locs1 hB1 hlo => ?_)
        obtain ⟨rfl, rfl⟩ := hB1
        refine x_topi (v := nI 1) (by rw [if_pos hs1]; rfl) ?_
        refine lv_istore hx hb d_M_signed_5 hl (by decide) rfl (fun ls hl => ?_)
        have hl : lv_has ls 7 [(5, .int (nI 1)), (0, .ref o), (1, .ref (o + 20)), (2, .ref x), (3, .ref y), (4, .int (nI 0))] := hl
        refine lv_aload_n hx hb d_M_signed_7 rfl (lv_at hl 1 rfl) ?_
        refine lv_aload_n hx hb d_M_signed_8 rfl (lv_at hl 4 rfl) ?_
        refine x_calli (A := MS o) (va_runV (As := [.ref y]) (rest := []) ⟨hx, hb, hml, hown, htw⟩ (m_below l D cJ cI cQ cR o y vy fy hvy hNy) (xcV 1 htw kw_371 kw_2 kw_368 kw_370 ks_M_below rfl rfl ⟨by decide, by decide, by decide +kernel⟩ ⟨Nat.le_of_ble_eq_true rfl, Nat.le_of_ble_eq_true rfl⟩) (xPreV hK (hO.rv hK) h_Y) rfl rfl hl.1 rfl (lv_room (Nat.le_of_ble_eq_true rfl)) d_M_signed_9 ⟨Nat.le_of_ble_eq_true rfl, Nat.le_of_ble_eq_true rfl⟩) hlo (fun _ h => h.elim) (fun r2 H2 locs2 hB2 hlo => ?_)
        obtain ⟨rfl, rfl⟩ := hB2
        refine x_topi (v := nI 1) (by rw [if_pos hs2]; rfl) ?_
        refine lv_istore hx hb d_M_signed_12 hl (by decide) rfl (fun ls hl => ?_)
        have hl : lv_has ls 7 [(6, .int (nI 1)), (5, .int (nI 1)), (0, .ref o), (1, .ref (o + 20)), (2, .ref x), (3, .ref y), (4, .int (nI 0))] := hl
        refine lv_aload_n hx hb d_M_signed_14 rfl (lv_at hl 2 rfl) ?_
        refine va_get (D := D) (ci := 1) (v := .ref (o + 18)) (C := "WideNumbersModel") (T := F_M) (N := 9) hx hb htw inM hown hK hO.1 0 rfl rfl 2 (by decide) (htw _ kw_278) (fun _ h9 => h9) rfl d_M_signed_15 ?_
        refine lv_aload_n hx hb d_M_signed_18 rfl (lv_at hl 4 rfl) ?_
        refine x_callv (A := MS o) (va_runS (As := [.ref (o + 18), .ref x]) (rest := []) ⟨hx, hb, hml, hown, htw⟩ (m_copy l D cJ cI cQ cR (o + 18) x 8 vx f18 fx (by decide) (by omega) hNx) (xcS 2 htw kw_374 kw_2 kw_372 kw_373 rfl rfl ⟨by decide, by decide, by decide +kernel⟩ ⟨Nat.le_of_ble_eq_true rfl, Nat.le_of_ble_eq_true rfl⟩) (xPre hK ⟨h_18, h_X⟩) rfl rfl hl.1 rfl (lv_room (Nat.le_of_ble_eq_true rfl)) d_M_signed_19 ⟨Nat.le_of_ble_eq_true rfl, Nat.le_of_ble_eq_true rfl⟩) hlo (fun q h => by have h : q = o + 18 := h; rw [h]; exact ⟨by omega, by omega⟩) (fun H3 locs3 hB3 hlo => ?_)
        obtain ⟨hF3, f3, hf3, hN3⟩ := hB3
        have h_18 := hf3
        have h_19 := hI_f h_19 hF3 (show o + 19 ≠ o + 18 by omega)
        have h_20 := hI_f h_20 hF3 (show o + 20 ≠ o + 18 by omega)
        have h_21 := hI_f h_21 hF3 (show o + 21 ≠ o + 18 by omega)
        have h_22 := hI_f h_22 hF3 (show o + 22 ≠ o + 18 by omega)
        have h_23 := hI_f h_23 hF3 (show o + 23 ≠ o + 18 by omega)
        have h_24 := hI_f h_24 hF3 (show o + 24 ≠ o + 18 by omega)
        have h_X := hI_f h_X hF3 (show x ≠ o + 18 by omega)
        have h_Y := hI_f h_Y hF3 (show y ≠ o + 18 by omega)
        have hO := hO.f1 hF3 (by omega)
        have hG := MS1 hG hF3 (by omega)
        refine lv_aload_n hx hb d_M_signed_22 rfl (lv_at hl 2 rfl) ?_
        refine va_get (D := D) (ci := 1) (v := .ref (o + 19)) (C := "WideNumbersModel") (T := F_M) (N := 9) hx hb htw inM hown hK hO.1 0 rfl rfl 3 (by decide) (htw _ kw_279) (fun _ h9 => h9) rfl d_M_signed_23 ?_
        refine lv_aload_n hx hb d_M_signed_26 rfl (lv_at hl 5 rfl) ?_
        refine x_callv (A := MS o) (va_runS (As := [.ref (o + 19), .ref y]) (rest := []) ⟨hx, hb, hml, hown, htw⟩ (m_copy l D cJ cI cQ cR (o + 19) y 8 vy f19 fy (by decide) (by omega) hNy) (xcS 2 htw kw_374 kw_2 kw_372 kw_373 rfl rfl ⟨by decide, by decide, by decide +kernel⟩ ⟨Nat.le_of_ble_eq_true rfl, Nat.le_of_ble_eq_true rfl⟩) (xPre hK ⟨h_19, h_Y⟩) rfl rfl hl.1 rfl (lv_room (Nat.le_of_ble_eq_true rfl)) d_M_signed_27 ⟨Nat.le_of_ble_eq_true rfl, Nat.le_of_ble_eq_true rfl⟩) hlo (fun q h => by have h : q = o + 19 := h; rw [h]; exact ⟨by omega, by omega⟩) (fun H4 locs4 hB4 hlo => ?_)
        obtain ⟨hF4, f4, hf4, hN4⟩ := hB4
        have h_18 := hI_f h_18 hF4 (show o + 18 ≠ o + 19 by omega)
        have h_19 := hf4
        have h_20 := hI_f h_20 hF4 (show o + 20 ≠ o + 19 by omega)
        have h_21 := hI_f h_21 hF4 (show o + 21 ≠ o + 19 by omega)
        have h_22 := hI_f h_22 hF4 (show o + 22 ≠ o + 19 by omega)
        have h_23 := hI_f h_23 hF4 (show o + 23 ≠ o + 19 by omega)
        have h_24 := hI_f h_24 hF4 (show o + 24 ≠ o + 19 by omega)
        have h_X := hI_f h_X hF4 (show x ≠ o + 19 by omega)
        have h_Y := hI_f h_Y hF4 (show y ≠ o + 19 by omega)
        have hO := hO.f1 hF4 (by omega)
        have hG := MS1 hG hF4 (by omega)
        refine lv_iload hx hb d_M_signed_30 (lv_at hl 1 rfl) ?_
        refine lv_if_eq (tgt := 43) hx hb d_M_signed_32 (by decide) (fun h => absurd h (by decide)) (fun _ => ?_)
        refine lv_aload_n hx hb d_M_signed_35 rfl (lv_at hl 2 rfl) ?_
        refine lv_aload_n hx hb d_M_signed_36 rfl (lv_at hl 2 rfl) ?_
        refine va_get (D := D) (ci := 1) (v := .ref (o + 18)) (C := "WideNumbersModel") (T := F_M) (N := 9) hx hb htw inM hown hK hO.1 0 rfl rfl 2 (by decide) (htw _ kw_278) (fun _ h9 => h9) rfl d_M_signed_37 ?_
        refine x_callv (A := MS o) (va_runV (As := [.ref (o + 18)]) (rest := []) ⟨hx, hb, hml, hown, htw⟩ (m_negate l D cJ cI cQ cR o (o + 18) vx fl f3 f21 (by omega) hvx hN3 hN21) (xcV 1 htw kw_378 kw_2 kw_375 kw_377 ks_M_negate rfl rfl ⟨by decide, by decide, by decide +kernel⟩ ⟨Nat.le_of_ble_eq_true rfl, Nat.le_of_ble_eq_true rfl⟩) (xPreV hK (hO.rv hK) ⟨hO, h_18, h_21⟩) rfl rfl hl.1 rfl (lv_room (Nat.le_of_ble_eq_true rfl)) d_M_signed_40 ⟨Nat.le_of_ble_eq_true rfl, Nat.le_of_ble_eq_true rfl⟩) hlo (fun q h => by have h : q = o + 18 := h; rw [h]; exact ⟨by omega, by omega⟩) (fun H5 locs5 hB5 hlo => ?_)
        obtain ⟨hF5, f5, hf5, hN5⟩ := hB5
        have h_18 := hf5
        have h_19 := hI_f h_19 hF5 (show o + 19 ≠ o + 18 by omega)
        have h_20 := hI_f h_20 hF5 (show o + 20 ≠ o + 18 by omega)
        have h_21 := hI_f h_21 hF5 (show o + 21 ≠ o + 18 by omega)
        have h_22 := hI_f h_22 hF5 (show o + 22 ≠ o + 18 by omega)
        have h_23 := hI_f h_23 hF5 (show o + 23 ≠ o + 18 by omega)
        have h_24 := hI_f h_24 hF5 (show o + 24 ≠ o + 18 by omega)
        have h_X := hI_f h_X hF5 (show x ≠ o + 18 by omega)
        have h_Y := hI_f h_Y hF5 (show y ≠ o + 18 by omega)
        have hO := hO.f1 hF5 (by omega)
        have hG := MS1 hG hF5 (by omega)
        have hNa : NI f5 8 (ab vx) := by
          unfold ab
          rw [if_pos hs1, ← Nat.mod_eq_of_lt (show 2 ^ 256 - vx < 2 ^ 256 by omega)]
          exact hN5
        refine lv_iload hx hb d_M_signed_43 (lv_at hl 0 rfl) ?_
        refine lv_if_eq (tgt := 56) hx hb d_M_signed_45 (by decide) (fun h => absurd h (by decide)) (fun _ => ?_)
        refine lv_aload_n hx hb d_M_signed_48 rfl (lv_at hl 2 rfl) ?_
        refine lv_aload_n hx hb d_M_signed_49 rfl (lv_at hl 2 rfl) ?_
        refine va_get (D := D) (ci := 1) (v := .ref (o + 19)) (C := "WideNumbersModel") (T := F_M) (N := 9) hx hb htw inM hown hK hO.1 0 rfl rfl 3 (by decide) (htw _ kw_279) (fun _ h9 => h9) rfl d_M_signed_50 ?_
        refine x_callv (A := MS o) (va_runV (As := [.ref (o + 19)]) (rest := []) ⟨hx, hb, hml, hown, htw⟩ (m_negate l D cJ cI cQ cR o (o + 19) vy fl f4 f21 (by omega) hvy hN4 hN21) (xcV 1 htw kw_378 kw_2 kw_375 kw_377 ks_M_negate rfl rfl ⟨by decide, by decide, by decide +kernel⟩ ⟨Nat.le_of_ble_eq_true rfl, Nat.le_of_ble_eq_true rfl⟩) (xPreV hK (hO.rv hK) ⟨hO, h_19, h_21⟩) rfl rfl hl.1 rfl (lv_room (Nat.le_of_ble_eq_true rfl)) d_M_signed_53 ⟨Nat.le_of_ble_eq_true rfl, Nat.le_of_ble_eq_true rfl⟩) hlo (fun q h => by have h : q = o + 19 := h; rw [h]; exact ⟨by omega, by omega⟩) (fun H6 locs6 hB6 hlo => ?_)
        obtain ⟨hF6, f6, hf6, hN6⟩ := hB6
        have h_18 := hI_f h_18 hF6 (show o + 18 ≠ o + 19 by omega)
        have h_19 := hf6
        have h_20 := hI_f h_20 hF6 (show o + 20 ≠ o + 19 by omega)
        have h_21 := hI_f h_21 hF6 (show o + 21 ≠ o + 19 by omega)
        have h_22 := hI_f h_22 hF6 (show o + 22 ≠ o + 19 by omega)
        have h_23 := hI_f h_23 hF6 (show o + 23 ≠ o + 19 by omega)
        have h_24 := hI_f h_24 hF6 (show o + 24 ≠ o + 19 by omega)
        have h_X := hI_f h_X hF6 (show x ≠ o + 19 by omega)
        have h_Y := hI_f h_Y hF6 (show y ≠ o + 19 by omega)
        have hO := hO.f1 hF6 (by omega)
        have hG := MS1 hG hF6 (by omega)
        have hNb : NI f6 8 (ab vy) := by
          unfold ab
          rw [if_pos hs2, ← Nat.mod_eq_of_lt (show 2 ^ 256 - vy < 2 ^ 256 by omega)]
          exact hN6
        refine lv_aload_n hx hb d_M_signed_56 rfl (lv_at hl 2 rfl) ?_
        refine lv_aload_n hx hb d_M_signed_57 rfl (lv_at hl 2 rfl) ?_
        refine va_get (D := D) (ci := 1) (v := .ref (o + 18)) (C := "WideNumbersModel") (T := F_M) (N := 9) hx hb htw inM hown hK hO.1 0 rfl rfl 2 (by decide) (htw _ kw_278) (fun _ h9 => h9) rfl d_M_signed_58 ?_
        refine lv_aload_n hx hb d_M_signed_61 rfl (lv_at hl 2 rfl) ?_
        refine va_get (D := D) (ci := 1) (v := .ref (o + 19)) (C := "WideNumbersModel") (T := F_M) (N := 9) hx hb htw inM hown hK hO.1 0 rfl rfl 3 (by decide) (htw _ kw_279) (fun _ h9 => h9) rfl d_M_signed_62 ?_
        refine x_callv (A := MS o) (va_runV (As := [.ref (o + 18), .ref (o + 19)]) (rest := []) ⟨hx, hb, hml, hown, htw⟩ (m_divide l D cJ cI cQ cR o (o + 18) (o + 19) (ab vx) (ab vy) fl f22 f23 f24 f5 f6 (by omega) (by omega) hal hbl hap hNa hNb) (xcV 2 htw kw_359 kw_2 kw_356 kw_358 ks_M_divide rfl rfl ⟨by decide, by decide, by decide +kernel⟩ ⟨Nat.le_of_ble_eq_true rfl, Nat.le_of_ble_eq_true rfl⟩) (xPreV hK (hO.rv hK) ⟨hO, h_22, h_23, h_24, h_18, h_19⟩) rfl rfl hl.1 rfl (lv_room (Nat.le_of_ble_eq_true rfl)) d_M_signed_65 ⟨Nat.le_of_ble_eq_true rfl, Nat.le_of_ble_eq_true rfl⟩) hlo (fun q h => by rcases h with h | h | h <;> (rw [h]; exact ⟨by omega, by omega⟩)) (fun H7 locs7 hB7 hlo => ?_)
        obtain ⟨hF7, ⟨fw7, hw7⟩, f7, g7, hf7, hN7, hg7, hM7⟩ := hB7
        have h_18 := hI_f h_18 hF7 (nDv (by omega))
        have h_19 := hI_f h_19 hF7 (nDv (by omega))
        have h_20 := hI_f h_20 hF7 (nDv (by omega))
        have h_21 := hI_f h_21 hF7 (nDv (by omega))
        have h_22 := hw7
        have h_23 := hf7
        have h_24 := hg7
        have h_X := hI_f h_X hF7 (nDv (by omega))
        have h_Y := hI_f h_Y hF7 (nDv (by omega))
        have hO := hO.fd hF7
        have hG := MSd hG hF7
        refine lv_aload_n hx hb d_M_signed_68 rfl (lv_at hl 3 rfl) ?_
        refine lv_iload hx hb d_M_signed_69 (lv_at hl 6 rfl) ?_
        refine lv_if_eq (tgt := 81) hx hb d_M_signed_71 (by decide) (fun _ => ?_) (fun h => absurd (by decide) h)
        refine lv_aload_n hx hb d_M_signed_81 rfl (lv_at hl 2 rfl) ?_
        refine va_get (D := D) (ci := 1) (v := .ref (o + 23)) (C := "WideNumbersModel") (T := F_M) (N := 9) hx hb htw inM hown hK hO.1 0 rfl rfl 7 (by decide) (htw _ kw_283) (fun _ h9 => h9) rfl d_M_signed_82 ?_
        refine x_callv (A := MS o) (va_runS (As := [.ref (o + 20), .ref (o + 23)]) (rest := []) ⟨hx, hb, hml, hown, htw⟩ (m_take l D cJ cI cQ cR (o + 20) (o + 23) 16 (ab vx / ab vy) f20 f7 (by decide) (by omega) (fun j hj => hN7 j (by omega))) (xcS 2 htw kw_355 kw_2 kw_353 kw_354 rfl rfl ⟨by decide, by decide, by decide +kernel⟩ ⟨Nat.le_of_ble_eq_true rfl, Nat.le_of_ble_eq_true rfl⟩) (xPre hK ⟨h_20, h_23⟩) rfl rfl hl.1 rfl (lv_room (Nat.le_of_ble_eq_true rfl)) d_M_signed_85 ⟨Nat.le_of_ble_eq_true rfl, Nat.le_of_ble_eq_true rfl⟩) hlo (fun q h => by have h : q = o + 20 := h; rw [h]; exact ⟨by omega, by omega⟩) (fun H8 locs8 hB8 hlo => ?_)
        obtain ⟨hF8, f8, hf8, hN8⟩ := hB8
        have h_18 := hI_f h_18 hF8 (show o + 18 ≠ o + 20 by omega)
        have h_19 := hI_f h_19 hF8 (show o + 19 ≠ o + 20 by omega)
        have h_20 := hf8
        have h_21 := hI_f h_21 hF8 (show o + 21 ≠ o + 20 by omega)
        have h_22 := hI_f h_22 hF8 (show o + 22 ≠ o + 20 by omega)
        have h_23 := hI_f h_23 hF8 (show o + 23 ≠ o + 20 by omega)
        have h_24 := hI_f h_24 hF8 (show o + 24 ≠ o + 20 by omega)
        have h_X := hI_f h_X hF8 (show x ≠ o + 20 by omega)
        have h_Y := hI_f h_Y hF8 (show y ≠ o + 20 by omega)
        have hO := hO.f1 hF8 (by omega)
        have hG := MS1 hG hF8 (by omega)
        refine lv_iload hx hb d_M_signed_88 (lv_at hl 6 rfl) ?_
        refine lv_if_eq (tgt := 101) hx hb d_M_signed_90 (by decide) (fun _ => ?_) (fun h => absurd (by decide) h)
        refine lv_iload hx hb d_M_signed_101 (lv_at hl 1 rfl) ?_
        refine lv_iload hx hb d_M_signed_103 (lv_at hl 0 rfl) ?_
        refine lv_icmp_eq (tgt := 113) hx hb d_M_signed_105 (by decide) (fun _ => ?_) (fun h => absurd (by decide) h)
        exact W.vret hx hb hr (fun t ht hW => ⟨rfl, by rw [ht]; exact hG, by rw [ht]; exact ⟨⟨_, h_18⟩, ⟨_, h_19⟩, ⟨_, h_20⟩, ⟨_, h_21, hN21⟩, ⟨_, h_22⟩, ⟨_, h_23⟩, ⟨_, h_24⟩⟩, _, by rw [ht]; exact h_20, by rw [if_pos nI_0]; unfold sdv; rw [if_pos (by rw [decide_eq_true hs1, decide_eq_true hs2])]; exact hN8⟩) hlo d_M_signed_113
      · refine lv_aload_n hx hb d_M_signed_0 rfl (lv_at hl 0 rfl) ?_
        refine lv_aload_n hx hb d_M_signed_1 rfl (lv_at hl 2 rfl) ?_
        refine x_calli (A := MS o) (va_runV (As := [.ref x]) (rest := []) ⟨hx, hb, hml, hown, htw⟩ (m_below l D cJ cI cQ cR o x vx fx hvx hNx) (xcV 1 htw kw_371 kw_2 kw_368 kw_370 ks_M_below rfl rfl ⟨by decide, by decide, by decide +kernel⟩ ⟨Nat.le_of_ble_eq_true rfl, Nat.le_of_ble_eq_true rfl⟩) (xPreV hK (hO.rv hK) h_X) rfl rfl hl.1 rfl (lv_room (Nat.le_of_ble_eq_true rfl)) d_M_signed_2 ⟨Nat.le_of_ble_eq_true rfl, Nat.le_of_ble_eq_true rfl⟩) hlo (fun _ h => h.elim) (fun r1 H1 locs1 hB1 hlo => ?_)
        obtain ⟨rfl, rfl⟩ := hB1
        refine x_topi (v := nI 1) (by rw [if_pos hs1]; rfl) ?_
        refine lv_istore hx hb d_M_signed_5 hl (by decide) rfl (fun ls hl => ?_)
        have hl : lv_has ls 7 [(5, .int (nI 1)), (0, .ref o), (1, .ref (o + 20)), (2, .ref x), (3, .ref y), (4, .int (nI 0))] := hl
        refine lv_aload_n hx hb d_M_signed_7 rfl (lv_at hl 1 rfl) ?_
        refine lv_aload_n hx hb d_M_signed_8 rfl (lv_at hl 4 rfl) ?_
        refine x_calli (A := MS o) (va_runV (As := [.ref y]) (rest := []) ⟨hx, hb, hml, hown, htw⟩ (m_below l D cJ cI cQ cR o y vy fy hvy hNy) (xcV 1 htw kw_371 kw_2 kw_368 kw_370 ks_M_below rfl rfl ⟨by decide, by decide, by decide +kernel⟩ ⟨Nat.le_of_ble_eq_true rfl, Nat.le_of_ble_eq_true rfl⟩) (xPreV hK (hO.rv hK) h_Y) rfl rfl hl.1 rfl (lv_room (Nat.le_of_ble_eq_true rfl)) d_M_signed_9 ⟨Nat.le_of_ble_eq_true rfl, Nat.le_of_ble_eq_true rfl⟩) hlo (fun _ h => h.elim) (fun r2 H2 locs2 hB2 hlo => ?_)
        obtain ⟨rfl, rfl⟩ := hB2
        refine x_topi (v := nI 0) (by rw [if_neg hs2]; rfl) ?_
        refine lv_istore hx hb d_M_signed_12 hl (by decide) rfl (fun ls hl => ?_)
        have hl : lv_has ls 7 [(6, .int (nI 0)), (5, .int (nI 1)), (0, .ref o), (1, .ref (o + 20)), (2, .ref x), (3, .ref y), (4, .int (nI 0))] := hl
        refine lv_aload_n hx hb d_M_signed_14 rfl (lv_at hl 2 rfl) ?_
        refine va_get (D := D) (ci := 1) (v := .ref (o + 18)) (C := "WideNumbersModel") (T := F_M) (N := 9) hx hb htw inM hown hK hO.1 0 rfl rfl 2 (by decide) (htw _ kw_278) (fun _ h9 => h9) rfl d_M_signed_15 ?_
        refine lv_aload_n hx hb d_M_signed_18 rfl (lv_at hl 4 rfl) ?_
        refine x_callv (A := MS o) (va_runS (As := [.ref (o + 18), .ref x]) (rest := []) ⟨hx, hb, hml, hown, htw⟩ (m_copy l D cJ cI cQ cR (o + 18) x 8 vx f18 fx (by decide) (by omega) hNx) (xcS 2 htw kw_374 kw_2 kw_372 kw_373 rfl rfl ⟨by decide, by decide, by decide +kernel⟩ ⟨Nat.le_of_ble_eq_true rfl, Nat.le_of_ble_eq_true rfl⟩) (xPre hK ⟨h_18, h_X⟩) rfl rfl hl.1 rfl (lv_room (Nat.le_of_ble_eq_true rfl)) d_M_signed_19 ⟨Nat.le_of_ble_eq_true rfl, Nat.le_of_ble_eq_true rfl⟩) hlo (fun q h => by have h : q = o + 18 := h; rw [h]; exact ⟨by omega, by omega⟩) (fun H3 locs3 hB3 hlo => ?_)
        obtain ⟨hF3, f3, hf3, hN3⟩ := hB3
        have h_18 := hf3
        have h_19 := hI_f h_19 hF3 (show o + 19 ≠ o + 18 by omega)
        have h_20 := hI_f h_20 hF3 (show o + 20 ≠ o + 18 by omega)
        have h_21 := hI_f h_21 hF3 (show o + 21 ≠ o + 18 by omega)
        have h_22 := hI_f h_22 hF3 (show o + 22 ≠ o + 18 by omega)
        have h_23 := hI_f h_23 hF3 (show o + 23 ≠ o + 18 by omega)
        have h_24 := hI_f h_24 hF3 (show o + 24 ≠ o + 18 by omega)
        have h_X := hI_f h_X hF3 (show x ≠ o + 18 by omega)
        have h_Y := hI_f h_Y hF3 (show y ≠ o + 18 by omega)
        have hO := hO.f1 hF3 (by omega)
        have hG := MS1 hG hF3 (by omega)
        refine lv_aload_n hx hb d_M_signed_22 rfl (lv_at hl 2 rfl) ?_
        refine va_get (D := D) (ci := 1) (v := .ref (o + 19)) (C := "WideNumbersModel") (T := F_M) (N := 9) hx hb htw inM hown hK hO.1 0 rfl rfl 3 (by decide) (htw _ kw_279) (fun _ h9 => h9) rfl d_M_signed_23 ?_
        refine lv_aload_n hx hb d_M_signed_26 rfl (lv_at hl 5 rfl) ?_
        refine x_callv (A := MS o) (va_runS (As := [.ref (o + 19), .ref y]) (rest := []) ⟨hx, hb, hml, hown, htw⟩ (m_copy l D cJ cI cQ cR (o + 19) y 8 vy f19 fy (by decide) (by omega) hNy) (xcS 2 htw kw_374 kw_2 kw_372 kw_373 rfl rfl ⟨by decide, by decide, by decide +kernel⟩ ⟨Nat.le_of_ble_eq_true rfl, Nat.le_of_ble_eq_true rfl⟩) (xPre hK ⟨h_19, h_Y⟩) rfl rfl hl.1 rfl (lv_room (Nat.le_of_ble_eq_true rfl)) d_M_signed_27 ⟨Nat.le_of_ble_eq_true rfl, Nat.le_of_ble_eq_true rfl⟩) hlo (fun q h => by have h : q = o + 19 := h; rw [h]; exact ⟨by omega, by omega⟩) (fun H4 locs4 hB4 hlo => ?_)
        obtain ⟨hF4, f4, hf4, hN4⟩ := hB4
        have h_18 := hI_f h_18 hF4 (show o + 18 ≠ o + 19 by omega)
        have h_19 := hf4
        have h_20 := hI_f h_20 hF4 (show o + 20 ≠ o + 19 by omega)
        have h_21 := hI_f h_21 hF4 (show o + 21 ≠ o + 19 by omega)
        have h_22 := hI_f h_22 hF4 (show o + 22 ≠ o + 19 by omega)
        have h_23 := hI_f h_23 hF4 (show o + 23 ≠ o + 19 by omega)
        have h_24 := hI_f h_24 hF4 (show o + 24 ≠ o + 19 by omega)
        have h_X := hI_f h_X hF4 (show x ≠ o + 19 by omega)
        have h_Y := hI_f h_Y hF4 (show y ≠ o + 19 by omega)
        have hO := hO.f1 hF4 (by omega)
        have hG := MS1 hG hF4 (by omega)
        refine lv_iload hx hb d_M_signed_30 (lv_at hl 1 rfl) ?_
        refine lv_if_eq (tgt := 43) hx hb d_M_signed_32 (by decide) (fun h => absurd h (by decide)) (fun _ => ?_)
        refine lv_aload_n hx hb d_M_signed_35 rfl (lv_at hl 2 rfl) ?_
        refine lv_aload_n hx hb d_M_signed_36 rfl (lv_at hl 2 rfl) ?_
        refine va_get (D := D) (ci := 1) (v := .ref (o + 18)) (C := "WideNumbersModel") (T := F_M) (N := 9) hx hb htw inM hown hK hO.1 0 rfl rfl 2 (by decide) (htw _ kw_278) (fun _ h9 => h9) rfl d_M_signed_37 ?_
        refine x_callv (A := MS o) (va_runV (As := [.ref (o + 18)]) (rest := []) ⟨hx, hb, hml, hown, htw⟩ (m_negate l D cJ cI cQ cR o (o + 18) vx fl f3 f21 (by omega) hvx hN3 hN21) (xcV 1 htw kw_378 kw_2 kw_375 kw_377 ks_M_negate rfl rfl ⟨by decide, by decide, by decide +kernel⟩ ⟨Nat.le_of_ble_eq_true rfl, Nat.le_of_ble_eq_true rfl⟩) (xPreV hK (hO.rv hK) ⟨hO, h_18, h_21⟩) rfl rfl hl.1 rfl (lv_room (Nat.le_of_ble_eq_true rfl)) d_M_signed_40 ⟨Nat.le_of_ble_eq_true rfl, Nat.le_of_ble_eq_true rfl⟩) hlo (fun q h => by have h : q = o + 18 := h; rw [h]; exact ⟨by omega, by omega⟩) (fun H5 locs5 hB5 hlo => ?_)
        obtain ⟨hF5, f5, hf5, hN5⟩ := hB5
        have h_18 := hf5
        have h_19 := hI_f h_19 hF5 (show o + 19 ≠ o + 18 by omega)
        have h_20 := hI_f h_20 hF5 (show o + 20 ≠ o + 18 by omega)
        have h_21 := hI_f h_21 hF5 (show o + 21 ≠ o + 18 by omega)
        have h_22 := hI_f h_22 hF5 (show o + 22 ≠ o + 18 by omega)
        have h_23 := hI_f h_23 hF5 (show o + 23 ≠ o + 18 by omega)
        have h_24 := hI_f h_24 hF5 (show o + 24 ≠ o + 18 by omega)
        have h_X := hI_f h_X hF5 (show x ≠ o + 18 by omega)
        have h_Y := hI_f h_Y hF5 (show y ≠ o + 18 by omega)
        have hO := hO.f1 hF5 (by omega)
        have hG := MS1 hG hF5 (by omega)
        have hNa : NI f5 8 (ab vx) := by
          unfold ab
          rw [if_pos hs1, ← Nat.mod_eq_of_lt (show 2 ^ 256 - vx < 2 ^ 256 by omega)]
          exact hN5
        refine lv_iload hx hb d_M_signed_43 (lv_at hl 0 rfl) ?_
        refine lv_if_eq (tgt := 56) hx hb d_M_signed_45 (by decide) (fun _ => ?_) (fun h => absurd (by decide) h)
        have hNb : NI f4 8 (ab vy) := by
          unfold ab
          rw [if_neg hs2]
          exact hN4
        refine lv_aload_n hx hb d_M_signed_56 rfl (lv_at hl 2 rfl) ?_
        refine lv_aload_n hx hb d_M_signed_57 rfl (lv_at hl 2 rfl) ?_
        refine va_get (D := D) (ci := 1) (v := .ref (o + 18)) (C := "WideNumbersModel") (T := F_M) (N := 9) hx hb htw inM hown hK hO.1 0 rfl rfl 2 (by decide) (htw _ kw_278) (fun _ h9 => h9) rfl d_M_signed_58 ?_
        refine lv_aload_n hx hb d_M_signed_61 rfl (lv_at hl 2 rfl) ?_
        refine va_get (D := D) (ci := 1) (v := .ref (o + 19)) (C := "WideNumbersModel") (T := F_M) (N := 9) hx hb htw inM hown hK hO.1 0 rfl rfl 3 (by decide) (htw _ kw_279) (fun _ h9 => h9) rfl d_M_signed_62 ?_
        refine x_callv (A := MS o) (va_runV (As := [.ref (o + 18), .ref (o + 19)]) (rest := []) ⟨hx, hb, hml, hown, htw⟩ (m_divide l D cJ cI cQ cR o (o + 18) (o + 19) (ab vx) (ab vy) fl f22 f23 f24 f5 f4 (by omega) (by omega) hal hbl hap hNa hNb) (xcV 2 htw kw_359 kw_2 kw_356 kw_358 ks_M_divide rfl rfl ⟨by decide, by decide, by decide +kernel⟩ ⟨Nat.le_of_ble_eq_true rfl, Nat.le_of_ble_eq_true rfl⟩) (xPreV hK (hO.rv hK) ⟨hO, h_22, h_23, h_24, h_18, h_19⟩) rfl rfl hl.1 rfl (lv_room (Nat.le_of_ble_eq_true rfl)) d_M_signed_65 ⟨Nat.le_of_ble_eq_true rfl, Nat.le_of_ble_eq_true rfl⟩) hlo (fun q h => by rcases h with h | h | h <;> (rw [h]; exact ⟨by omega, by omega⟩)) (fun H7 locs7 hB7 hlo => ?_)
        obtain ⟨hF7, ⟨fw7, hw7⟩, f7, g7, hf7, hN7, hg7, hM7⟩ := hB7
        have h_18 := hI_f h_18 hF7 (nDv (by omega))
        have h_19 := hI_f h_19 hF7 (nDv (by omega))
        have h_20 := hI_f h_20 hF7 (nDv (by omega))
        have h_21 := hI_f h_21 hF7 (nDv (by omega))
        have h_22 := hw7
        have h_23 := hf7
        have h_24 := hg7
        have h_X := hI_f h_X hF7 (nDv (by omega))
        have h_Y := hI_f h_Y hF7 (nDv (by omega))
        have hO := hO.fd hF7
        have hG := MSd hG hF7
        refine lv_aload_n hx hb d_M_signed_68 rfl (lv_at hl 3 rfl) ?_
        refine lv_iload hx hb d_M_signed_69 (lv_at hl 6 rfl) ?_
        refine lv_if_eq (tgt := 81) hx hb d_M_signed_71 (by decide) (fun _ => ?_) (fun h => absurd (by decide) h)
        refine lv_aload_n hx hb d_M_signed_81 rfl (lv_at hl 2 rfl) ?_
        refine va_get (D := D) (ci := 1) (v := .ref (o + 23)) (C := "WideNumbersModel") (T := F_M) (N := 9) hx hb htw inM hown hK hO.1 0 rfl rfl 7 (by decide) (htw _ kw_283) (fun _ h9 => h9) rfl d_M_signed_82 ?_
        refine x_callv (A := MS o) (va_runS (As := [.ref (o + 20), .ref (o + 23)]) (rest := []) ⟨hx, hb, hml, hown, htw⟩ (m_take l D cJ cI cQ cR (o + 20) (o + 23) 16 (ab vx / ab vy) f20 f7 (by decide) (by omega) (fun j hj => hN7 j (by omega))) (xcS 2 htw kw_355 kw_2 kw_353 kw_354 rfl rfl ⟨by decide, by decide, by decide +kernel⟩ ⟨Nat.le_of_ble_eq_true rfl, Nat.le_of_ble_eq_true rfl⟩) (xPre hK ⟨h_20, h_23⟩) rfl rfl hl.1 rfl (lv_room (Nat.le_of_ble_eq_true rfl)) d_M_signed_85 ⟨Nat.le_of_ble_eq_true rfl, Nat.le_of_ble_eq_true rfl⟩) hlo (fun q h => by have h : q = o + 20 := h; rw [h]; exact ⟨by omega, by omega⟩) (fun H8 locs8 hB8 hlo => ?_)
        obtain ⟨hF8, f8, hf8, hN8⟩ := hB8
        have h_18 := hI_f h_18 hF8 (show o + 18 ≠ o + 20 by omega)
        have h_19 := hI_f h_19 hF8 (show o + 19 ≠ o + 20 by omega)
        have h_20 := hf8
        have h_21 := hI_f h_21 hF8 (show o + 21 ≠ o + 20 by omega)
        have h_22 := hI_f h_22 hF8 (show o + 22 ≠ o + 20 by omega)
        have h_23 := hI_f h_23 hF8 (show o + 23 ≠ o + 20 by omega)
        have h_24 := hI_f h_24 hF8 (show o + 24 ≠ o + 20 by omega)
        have h_X := hI_f h_X hF8 (show x ≠ o + 20 by omega)
        have h_Y := hI_f h_Y hF8 (show y ≠ o + 20 by omega)
        have hO := hO.f1 hF8 (by omega)
        have hG := MS1 hG hF8 (by omega)
        refine lv_iload hx hb d_M_signed_88 (lv_at hl 6 rfl) ?_
        refine lv_if_eq (tgt := 101) hx hb d_M_signed_90 (by decide) (fun _ => ?_) (fun h => absurd (by decide) h)
        refine lv_iload hx hb d_M_signed_101 (lv_at hl 1 rfl) ?_
        refine lv_iload hx hb d_M_signed_103 (lv_at hl 0 rfl) ?_
        refine lv_icmp_eq (tgt := 113) hx hb d_M_signed_105 (by decide) (fun h => absurd h (by decide)) (fun _ => ?_)
        refine lv_aload_n hx hb d_M_signed_108 rfl (lv_at hl 2 rfl) ?_
        refine lv_aload_n hx hb d_M_signed_109 rfl (lv_at hl 3 rfl) ?_
        refine x_callv (A := MS o) (va_runV (As := [.ref (o + 20)]) (rest := []) ⟨hx, hb, hml, hown, htw⟩ (m_negate l D cJ cI cQ cR o (o + 20) (ab vx / ab vy) fl f8 f21 (by omega) hql hN8 hN21) (xcV 1 htw kw_378 kw_2 kw_375 kw_377 ks_M_negate rfl rfl ⟨by decide, by decide, by decide +kernel⟩ ⟨Nat.le_of_ble_eq_true rfl, Nat.le_of_ble_eq_true rfl⟩) (xPreV hK (hO.rv hK) ⟨hO, h_20, h_21⟩) rfl rfl hl.1 rfl (lv_room (Nat.le_of_ble_eq_true rfl)) d_M_signed_110 ⟨Nat.le_of_ble_eq_true rfl, Nat.le_of_ble_eq_true rfl⟩) hlo (fun q h => by have h : q = o + 20 := h; rw [h]; exact ⟨by omega, by omega⟩) (fun H9 locs9 hB9 hlo => ?_)
        obtain ⟨hF9, f9, hf9, hN9⟩ := hB9
        have h_18 := hI_f h_18 hF9 (show o + 18 ≠ o + 20 by omega)
        have h_19 := hI_f h_19 hF9 (show o + 19 ≠ o + 20 by omega)
        have h_20 := hf9
        have h_21 := hI_f h_21 hF9 (show o + 21 ≠ o + 20 by omega)
        have h_22 := hI_f h_22 hF9 (show o + 22 ≠ o + 20 by omega)
        have h_23 := hI_f h_23 hF9 (show o + 23 ≠ o + 20 by omega)
        have h_24 := hI_f h_24 hF9 (show o + 24 ≠ o + 20 by omega)
        have h_X := hI_f h_X hF9 (show x ≠ o + 20 by omega)
        have h_Y := hI_f h_Y hF9 (show y ≠ o + 20 by omega)
        have hO := hO.f1 hF9 (by omega)
        have hG := MS1 hG hF9 (by omega)
        exact W.vret hx hb hr (fun t ht hW => ⟨rfl, by rw [ht]; exact hG, by rw [ht]; exact ⟨⟨_, h_18⟩, ⟨_, h_19⟩, ⟨_, h_20⟩, ⟨_, h_21, hN21⟩, ⟨_, h_22⟩, ⟨_, h_23⟩, ⟨_, h_24⟩⟩, _, by rw [ht]; exact h_20, by rw [if_pos nI_0]; unfold sdv; rw [if_neg (by rw [decide_eq_true hs1, decide_eq_false hs2]; decide)]; exact hN9⟩) hlo d_M_signed_113
    · by_cases hs2 : 2 ^ 255 ≤ vy
      · refine lv_aload_n hx hb d_M_signed_0 rfl (lv_at hl 0 rfl) ?_
        refine lv_aload_n hx hb d_M_signed_1 rfl (lv_at hl 2 rfl) ?_
        refine x_calli (A := MS o) (va_runV (As := [.ref x]) (rest := []) ⟨hx, hb, hml, hown, htw⟩ (m_below l D cJ cI cQ cR o x vx fx hvx hNx) (xcV 1 htw kw_371 kw_2 kw_368 kw_370 ks_M_below rfl rfl ⟨by decide, by decide, by decide +kernel⟩ ⟨Nat.le_of_ble_eq_true rfl, Nat.le_of_ble_eq_true rfl⟩) (xPreV hK (hO.rv hK) h_X) rfl rfl hl.1 rfl (lv_room (Nat.le_of_ble_eq_true rfl)) d_M_signed_2 ⟨Nat.le_of_ble_eq_true rfl, Nat.le_of_ble_eq_true rfl⟩) hlo (fun _ h => h.elim) (fun r1 H1 locs1 hB1 hlo => ?_)
        obtain ⟨rfl, rfl⟩ := hB1
        refine x_topi (v := nI 0) (by rw [if_neg hs1]; rfl) ?_
        refine lv_istore hx hb d_M_signed_5 hl (by decide) rfl (fun ls hl => ?_)
        have hl : lv_has ls 7 [(5, .int (nI 0)), (0, .ref o), (1, .ref (o + 20)), (2, .ref x), (3, .ref y), (4, .int (nI 0))] := hl
        refine lv_aload_n hx hb d_M_signed_7 rfl (lv_at hl 1 rfl) ?_
        refine lv_aload_n hx hb d_M_signed_8 rfl (lv_at hl 4 rfl) ?_
        refine x_calli (A := MS o) (va_runV (As := [.ref y]) (rest := []) ⟨hx, hb, hml, hown, htw⟩ (m_below l D cJ cI cQ cR o y vy fy hvy hNy) (xcV 1 htw kw_371 kw_2 kw_368 kw_370 ks_M_below rfl rfl ⟨by decide, by decide, by decide +kernel⟩ ⟨Nat.le_of_ble_eq_true rfl, Nat.le_of_ble_eq_true rfl⟩) (xPreV hK (hO.rv hK) h_Y) rfl rfl hl.1 rfl (lv_room (Nat.le_of_ble_eq_true rfl)) d_M_signed_9 ⟨Nat.le_of_ble_eq_true rfl, Nat.le_of_ble_eq_true rfl⟩) hlo (fun _ h => h.elim) (fun r2 H2 locs2 hB2 hlo => ?_)
        obtain ⟨rfl, rfl⟩ := hB2
        refine x_topi (v := nI 1) (by rw [if_pos hs2]; rfl) ?_
        refine lv_istore hx hb d_M_signed_12 hl (by decide) rfl (fun ls hl => ?_)
        have hl : lv_has ls 7 [(6, .int (nI 1)), (5, .int (nI 0)), (0, .ref o), (1, .ref (o + 20)), (2, .ref x), (3, .ref y), (4, .int (nI 0))] := hl
        refine lv_aload_n hx hb d_M_signed_14 rfl (lv_at hl 2 rfl) ?_
        refine va_get (D := D) (ci := 1) (v := .ref (o + 18)) (C := "WideNumbersModel") (T := F_M) (N := 9) hx hb htw inM hown hK hO.1 0 rfl rfl 2 (by decide) (htw _ kw_278) (fun _ h9 => h9) rfl d_M_signed_15 ?_
        refine lv_aload_n hx hb d_M_signed_18 rfl (lv_at hl 4 rfl) ?_
        refine x_callv (A := MS o) (va_runS (As := [.ref (o + 18), .ref x]) (rest := []) ⟨hx, hb, hml, hown, htw⟩ (m_copy l D cJ cI cQ cR (o + 18) x 8 vx f18 fx (by decide) (by omega) hNx) (xcS 2 htw kw_374 kw_2 kw_372 kw_373 rfl rfl ⟨by decide, by decide, by decide +kernel⟩ ⟨Nat.le_of_ble_eq_true rfl, Nat.le_of_ble_eq_true rfl⟩) (xPre hK ⟨h_18, h_X⟩) rfl rfl hl.1 rfl (lv_room (Nat.le_of_ble_eq_true rfl)) d_M_signed_19 ⟨Nat.le_of_ble_eq_true rfl, Nat.le_of_ble_eq_true rfl⟩) hlo (fun q h => by have h : q = o + 18 := h; rw [h]; exact ⟨by omega, by omega⟩) (fun H3 locs3 hB3 hlo => ?_)
        obtain ⟨hF3, f3, hf3, hN3⟩ := hB3
        have h_18 := hf3
        have h_19 := hI_f h_19 hF3 (show o + 19 ≠ o + 18 by omega)
        have h_20 := hI_f h_20 hF3 (show o + 20 ≠ o + 18 by omega)
        have h_21 := hI_f h_21 hF3 (show o + 21 ≠ o + 18 by omega)
        have h_22 := hI_f h_22 hF3 (show o + 22 ≠ o + 18 by omega)
        have h_23 := hI_f h_23 hF3 (show o + 23 ≠ o + 18 by omega)
        have h_24 := hI_f h_24 hF3 (show o + 24 ≠ o + 18 by omega)
        have h_X := hI_f h_X hF3 (show x ≠ o + 18 by omega)
        have h_Y := hI_f h_Y hF3 (show y ≠ o + 18 by omega)
        have hO := hO.f1 hF3 (by omega)
        have hG := MS1 hG hF3 (by omega)
        refine lv_aload_n hx hb d_M_signed_22 rfl (lv_at hl 2 rfl) ?_
        refine va_get (D := D) (ci := 1) (v := .ref (o + 19)) (C := "WideNumbersModel") (T := F_M) (N := 9) hx hb htw inM hown hK hO.1 0 rfl rfl 3 (by decide) (htw _ kw_279) (fun _ h9 => h9) rfl d_M_signed_23 ?_
        refine lv_aload_n hx hb d_M_signed_26 rfl (lv_at hl 5 rfl) ?_
        refine x_callv (A := MS o) (va_runS (As := [.ref (o + 19), .ref y]) (rest := []) ⟨hx, hb, hml, hown, htw⟩ (m_copy l D cJ cI cQ cR (o + 19) y 8 vy f19 fy (by decide) (by omega) hNy) (xcS 2 htw kw_374 kw_2 kw_372 kw_373 rfl rfl ⟨by decide, by decide, by decide +kernel⟩ ⟨Nat.le_of_ble_eq_true rfl, Nat.le_of_ble_eq_true rfl⟩) (xPre hK ⟨h_19, h_Y⟩) rfl rfl hl.1 rfl (lv_room (Nat.le_of_ble_eq_true rfl)) d_M_signed_27 ⟨Nat.le_of_ble_eq_true rfl, Nat.le_of_ble_eq_true rfl⟩) hlo (fun q h => by have h : q = o + 19 := h; rw [h]; exact ⟨by omega, by omega⟩) (fun H4 locs4 hB4 hlo => ?_)
        obtain ⟨hF4, f4, hf4, hN4⟩ := hB4
        have h_18 := hI_f h_18 hF4 (show o + 18 ≠ o + 19 by omega)
        have h_19 := hf4
        have h_20 := hI_f h_20 hF4 (show o + 20 ≠ o + 19 by omega)
        have h_21 := hI_f h_21 hF4 (show o + 21 ≠ o + 19 by omega)
        have h_22 := hI_f h_22 hF4 (show o + 22 ≠ o + 19 by omega)
        have h_23 := hI_f h_23 hF4 (show o + 23 ≠ o + 19 by omega)
        have h_24 := hI_f h_24 hF4 (show o + 24 ≠ o + 19 by omega)
        have h_X := hI_f h_X hF4 (show x ≠ o + 19 by omega)
        have h_Y := hI_f h_Y hF4 (show y ≠ o + 19 by omega)
        have hO := hO.f1 hF4 (by omega)
        have hG := MS1 hG hF4 (by omega)
        refine lv_iload hx hb d_M_signed_30 (lv_at hl 1 rfl) ?_
        refine lv_if_eq (tgt := 43) hx hb d_M_signed_32 (by decide) (fun _ => ?_) (fun h => absurd (by decide) h)
        have hNa : NI f3 8 (ab vx) := by
          unfold ab
          rw [if_neg hs1]
          exact hN3
        refine lv_iload hx hb d_M_signed_43 (lv_at hl 0 rfl) ?_
        refine lv_if_eq (tgt := 56) hx hb d_M_signed_45 (by decide) (fun h => absurd h (by decide)) (fun _ => ?_)
        refine lv_aload_n hx hb d_M_signed_48 rfl (lv_at hl 2 rfl) ?_
        refine lv_aload_n hx hb d_M_signed_49 rfl (lv_at hl 2 rfl) ?_
        refine va_get (D := D) (ci := 1) (v := .ref (o + 19)) (C := "WideNumbersModel") (T := F_M) (N := 9) hx hb htw inM hown hK hO.1 0 rfl rfl 3 (by decide) (htw _ kw_279) (fun _ h9 => h9) rfl d_M_signed_50 ?_
        refine x_callv (A := MS o) (va_runV (As := [.ref (o + 19)]) (rest := []) ⟨hx, hb, hml, hown, htw⟩ (m_negate l D cJ cI cQ cR o (o + 19) vy fl f4 f21 (by omega) hvy hN4 hN21) (xcV 1 htw kw_378 kw_2 kw_375 kw_377 ks_M_negate rfl rfl ⟨by decide, by decide, by decide +kernel⟩ ⟨Nat.le_of_ble_eq_true rfl, Nat.le_of_ble_eq_true rfl⟩) (xPreV hK (hO.rv hK) ⟨hO, h_19, h_21⟩) rfl rfl hl.1 rfl (lv_room (Nat.le_of_ble_eq_true rfl)) d_M_signed_53 ⟨Nat.le_of_ble_eq_true rfl, Nat.le_of_ble_eq_true rfl⟩) hlo (fun q h => by have h : q = o + 19 := h; rw [h]; exact ⟨by omega, by omega⟩) (fun H6 locs6 hB6 hlo => ?_)
        obtain ⟨hF6, f6, hf6, hN6⟩ := hB6
        have h_18 := hI_f h_18 hF6 (show o + 18 ≠ o + 19 by omega)
        have h_19 := hf6
        have h_20 := hI_f h_20 hF6 (show o + 20 ≠ o + 19 by omega)
        have h_21 := hI_f h_21 hF6 (show o + 21 ≠ o + 19 by omega)
        have h_22 := hI_f h_22 hF6 (show o + 22 ≠ o + 19 by omega)
        have h_23 := hI_f h_23 hF6 (show o + 23 ≠ o + 19 by omega)
        have h_24 := hI_f h_24 hF6 (show o + 24 ≠ o + 19 by omega)
        have h_X := hI_f h_X hF6 (show x ≠ o + 19 by omega)
        have h_Y := hI_f h_Y hF6 (show y ≠ o + 19 by omega)
        have hO := hO.f1 hF6 (by omega)
        have hG := MS1 hG hF6 (by omega)
        have hNb : NI f6 8 (ab vy) := by
          unfold ab
          rw [if_pos hs2, ← Nat.mod_eq_of_lt (show 2 ^ 256 - vy < 2 ^ 256 by omega)]
          exact hN6
        refine lv_aload_n hx hb d_M_signed_56 rfl (lv_at hl 2 rfl) ?_
        refine lv_aload_n hx hb d_M_signed_57 rfl (lv_at hl 2 rfl) ?_
        refine va_get (D := D) (ci := 1) (v := .ref (o + 18)) (C := "WideNumbersModel") (T := F_M) (N := 9) hx hb htw inM hown hK hO.1 0 rfl rfl 2 (by decide) (htw _ kw_278) (fun _ h9 => h9) rfl d_M_signed_58 ?_
        refine lv_aload_n hx hb d_M_signed_61 rfl (lv_at hl 2 rfl) ?_
        refine va_get (D := D) (ci := 1) (v := .ref (o + 19)) (C := "WideNumbersModel") (T := F_M) (N := 9) hx hb htw inM hown hK hO.1 0 rfl rfl 3 (by decide) (htw _ kw_279) (fun _ h9 => h9) rfl d_M_signed_62 ?_
        refine x_callv (A := MS o) (va_runV (As := [.ref (o + 18), .ref (o + 19)]) (rest := []) ⟨hx, hb, hml, hown, htw⟩ (m_divide l D cJ cI cQ cR o (o + 18) (o + 19) (ab vx) (ab vy) fl f22 f23 f24 f3 f6 (by omega) (by omega) hal hbl hap hNa hNb) (xcV 2 htw kw_359 kw_2 kw_356 kw_358 ks_M_divide rfl rfl ⟨by decide, by decide, by decide +kernel⟩ ⟨Nat.le_of_ble_eq_true rfl, Nat.le_of_ble_eq_true rfl⟩) (xPreV hK (hO.rv hK) ⟨hO, h_22, h_23, h_24, h_18, h_19⟩) rfl rfl hl.1 rfl (lv_room (Nat.le_of_ble_eq_true rfl)) d_M_signed_65 ⟨Nat.le_of_ble_eq_true rfl, Nat.le_of_ble_eq_true rfl⟩) hlo (fun q h => by rcases h with h | h | h <;> (rw [h]; exact ⟨by omega, by omega⟩)) (fun H7 locs7 hB7 hlo => ?_)
        obtain ⟨hF7, ⟨fw7, hw7⟩, f7, g7, hf7, hN7, hg7, hM7⟩ := hB7
        have h_18 := hI_f h_18 hF7 (nDv (by omega))
        have h_19 := hI_f h_19 hF7 (nDv (by omega))
        have h_20 := hI_f h_20 hF7 (nDv (by omega))
        have h_21 := hI_f h_21 hF7 (nDv (by omega))
        have h_22 := hw7
        have h_23 := hf7
        have h_24 := hg7
        have h_X := hI_f h_X hF7 (nDv (by omega))
        have h_Y := hI_f h_Y hF7 (nDv (by omega))
        have hO := hO.fd hF7
        have hG := MSd hG hF7
        refine lv_aload_n hx hb d_M_signed_68 rfl (lv_at hl 3 rfl) ?_
        refine lv_iload hx hb d_M_signed_69 (lv_at hl 6 rfl) ?_
        refine lv_if_eq (tgt := 81) hx hb d_M_signed_71 (by decide) (fun _ => ?_) (fun h => absurd (by decide) h)
        refine lv_aload_n hx hb d_M_signed_81 rfl (lv_at hl 2 rfl) ?_
        refine va_get (D := D) (ci := 1) (v := .ref (o + 23)) (C := "WideNumbersModel") (T := F_M) (N := 9) hx hb htw inM hown hK hO.1 0 rfl rfl 7 (by decide) (htw _ kw_283) (fun _ h9 => h9) rfl d_M_signed_82 ?_
        refine x_callv (A := MS o) (va_runS (As := [.ref (o + 20), .ref (o + 23)]) (rest := []) ⟨hx, hb, hml, hown, htw⟩ (m_take l D cJ cI cQ cR (o + 20) (o + 23) 16 (ab vx / ab vy) f20 f7 (by decide) (by omega) (fun j hj => hN7 j (by omega))) (xcS 2 htw kw_355 kw_2 kw_353 kw_354 rfl rfl ⟨by decide, by decide, by decide +kernel⟩ ⟨Nat.le_of_ble_eq_true rfl, Nat.le_of_ble_eq_true rfl⟩) (xPre hK ⟨h_20, h_23⟩) rfl rfl hl.1 rfl (lv_room (Nat.le_of_ble_eq_true rfl)) d_M_signed_85 ⟨Nat.le_of_ble_eq_true rfl, Nat.le_of_ble_eq_true rfl⟩) hlo (fun q h => by have h : q = o + 20 := h; rw [h]; exact ⟨by omega, by omega⟩) (fun H8 locs8 hB8 hlo => ?_)
        obtain ⟨hF8, f8, hf8, hN8⟩ := hB8
        have h_18 := hI_f h_18 hF8 (show o + 18 ≠ o + 20 by omega)
        have h_19 := hI_f h_19 hF8 (show o + 19 ≠ o + 20 by omega)
        have h_20 := hf8
        have h_21 := hI_f h_21 hF8 (show o + 21 ≠ o + 20 by omega)
        have h_22 := hI_f h_22 hF8 (show o + 22 ≠ o + 20 by omega)
        have h_23 := hI_f h_23 hF8 (show o + 23 ≠ o + 20 by omega)
        have h_24 := hI_f h_24 hF8 (show o + 24 ≠ o + 20 by omega)
        have h_X := hI_f h_X hF8 (show x ≠ o + 20 by omega)
        have h_Y := hI_f h_Y hF8 (show y ≠ o + 20 by omega)
        have hO := hO.f1 hF8 (by omega)
        have hG := MS1 hG hF8 (by omega)
        refine lv_iload hx hb d_M_signed_88 (lv_at hl 6 rfl) ?_
        refine lv_if_eq (tgt := 101) hx hb d_M_signed_90 (by decide) (fun _ => ?_) (fun h => absurd (by decide) h)
        refine lv_iload hx hb d_M_signed_101 (lv_at hl 1 rfl) ?_
        refine lv_iload hx hb d_M_signed_103 (lv_at hl 0 rfl) ?_
        refine lv_icmp_eq (tgt := 113) hx hb d_M_signed_105 (by decide) (fun h => absurd h (by decide)) (fun _ => ?_)
        refine lv_aload_n hx hb d_M_signed_108 rfl (lv_at hl 2 rfl) ?_
        refine lv_aload_n hx hb d_M_signed_109 rfl (lv_at hl 3 rfl) ?_
        refine x_callv (A := MS o) (va_runV (As := [.ref (o + 20)]) (rest := []) ⟨hx, hb, hml, hown, htw⟩ (m_negate l D cJ cI cQ cR o (o + 20) (ab vx / ab vy) fl f8 f21 (by omega) hql hN8 hN21) (xcV 1 htw kw_378 kw_2 kw_375 kw_377 ks_M_negate rfl rfl ⟨by decide, by decide, by decide +kernel⟩ ⟨Nat.le_of_ble_eq_true rfl, Nat.le_of_ble_eq_true rfl⟩) (xPreV hK (hO.rv hK) ⟨hO, h_20, h_21⟩) rfl rfl hl.1 rfl (lv_room (Nat.le_of_ble_eq_true rfl)) d_M_signed_110 ⟨Nat.le_of_ble_eq_true rfl, Nat.le_of_ble_eq_true rfl⟩) hlo (fun q h => by have h : q = o + 20 := h; rw [h]; exact ⟨by omega, by omega⟩) (fun H9 locs9 hB9 hlo => ?_)
        obtain ⟨hF9, f9, hf9, hN9⟩ := hB9
        have h_18 := hI_f h_18 hF9 (show o + 18 ≠ o + 20 by omega)
        have h_19 := hI_f h_19 hF9 (show o + 19 ≠ o + 20 by omega)
        have h_20 := hf9
        have h_21 := hI_f h_21 hF9 (show o + 21 ≠ o + 20 by omega)
        have h_22 := hI_f h_22 hF9 (show o + 22 ≠ o + 20 by omega)
        have h_23 := hI_f h_23 hF9 (show o + 23 ≠ o + 20 by omega)
        have h_24 := hI_f h_24 hF9 (show o + 24 ≠ o + 20 by omega)
        have h_X := hI_f h_X hF9 (show x ≠ o + 20 by omega)
        have h_Y := hI_f h_Y hF9 (show y ≠ o + 20 by omega)
        have hO := hO.f1 hF9 (by omega)
        have hG := MS1 hG hF9 (by omega)
        exact W.vret hx hb hr (fun t ht hW => ⟨rfl, by rw [ht]; exact hG, by rw [ht]; exact ⟨⟨_, h_18⟩, ⟨_, h_19⟩, ⟨_, h_20⟩, ⟨_, h_21, hN21⟩, ⟨_, h_22⟩, ⟨_, h_23⟩, ⟨_, h_24⟩⟩, _, by rw [ht]; exact h_20, by rw [if_pos nI_0]; unfold sdv; rw [if_neg (by rw [decide_eq_false hs1, decide_eq_true hs2]; decide)]; exact hN9⟩) hlo d_M_signed_113
      · refine lv_aload_n hx hb d_M_signed_0 rfl (lv_at hl 0 rfl) ?_
        refine lv_aload_n hx hb d_M_signed_1 rfl (lv_at hl 2 rfl) ?_
        refine x_calli (A := MS o) (va_runV (As := [.ref x]) (rest := []) ⟨hx, hb, hml, hown, htw⟩ (m_below l D cJ cI cQ cR o x vx fx hvx hNx) (xcV 1 htw kw_371 kw_2 kw_368 kw_370 ks_M_below rfl rfl ⟨by decide, by decide, by decide +kernel⟩ ⟨Nat.le_of_ble_eq_true rfl, Nat.le_of_ble_eq_true rfl⟩) (xPreV hK (hO.rv hK) h_X) rfl rfl hl.1 rfl (lv_room (Nat.le_of_ble_eq_true rfl)) d_M_signed_2 ⟨Nat.le_of_ble_eq_true rfl, Nat.le_of_ble_eq_true rfl⟩) hlo (fun _ h => h.elim) (fun r1 H1 locs1 hB1 hlo => ?_)
        obtain ⟨rfl, rfl⟩ := hB1
        refine x_topi (v := nI 0) (by rw [if_neg hs1]; rfl) ?_
        refine lv_istore hx hb d_M_signed_5 hl (by decide) rfl (fun ls hl => ?_)
        have hl : lv_has ls 7 [(5, .int (nI 0)), (0, .ref o), (1, .ref (o + 20)), (2, .ref x), (3, .ref y), (4, .int (nI 0))] := hl
        refine lv_aload_n hx hb d_M_signed_7 rfl (lv_at hl 1 rfl) ?_
        refine lv_aload_n hx hb d_M_signed_8 rfl (lv_at hl 4 rfl) ?_
        refine x_calli (A := MS o) (va_runV (As := [.ref y]) (rest := []) ⟨hx, hb, hml, hown, htw⟩ (m_below l D cJ cI cQ cR o y vy fy hvy hNy) (xcV 1 htw kw_371 kw_2 kw_368 kw_370 ks_M_below rfl rfl ⟨by decide, by decide, by decide +kernel⟩ ⟨Nat.le_of_ble_eq_true rfl, Nat.le_of_ble_eq_true rfl⟩) (xPreV hK (hO.rv hK) h_Y) rfl rfl hl.1 rfl (lv_room (Nat.le_of_ble_eq_true rfl)) d_M_signed_9 ⟨Nat.le_of_ble_eq_true rfl, Nat.le_of_ble_eq_true rfl⟩) hlo (fun _ h => h.elim) (fun r2 H2 locs2 hB2 hlo => ?_)
        obtain ⟨rfl, rfl⟩ := hB2
        refine x_topi (v := nI 0) (by rw [if_neg hs2]; rfl) ?_
        refine lv_istore hx hb d_M_signed_12 hl (by decide) rfl (fun ls hl => ?_)
        have hl : lv_has ls 7 [(6, .int (nI 0)), (5, .int (nI 0)), (0, .ref o), (1, .ref (o + 20)), (2, .ref x), (3, .ref y), (4, .int (nI 0))] := hl
        refine lv_aload_n hx hb d_M_signed_14 rfl (lv_at hl 2 rfl) ?_
        refine va_get (D := D) (ci := 1) (v := .ref (o + 18)) (C := "WideNumbersModel") (T := F_M) (N := 9) hx hb htw inM hown hK hO.1 0 rfl rfl 2 (by decide) (htw _ kw_278) (fun _ h9 => h9) rfl d_M_signed_15 ?_
        refine lv_aload_n hx hb d_M_signed_18 rfl (lv_at hl 4 rfl) ?_
        refine x_callv (A := MS o) (va_runS (As := [.ref (o + 18), .ref x]) (rest := []) ⟨hx, hb, hml, hown, htw⟩ (m_copy l D cJ cI cQ cR (o + 18) x 8 vx f18 fx (by decide) (by omega) hNx) (xcS 2 htw kw_374 kw_2 kw_372 kw_373 rfl rfl ⟨by decide, by decide, by decide +kernel⟩ ⟨Nat.le_of_ble_eq_true rfl, Nat.le_of_ble_eq_true rfl⟩) (xPre hK ⟨h_18, h_X⟩) rfl rfl hl.1 rfl (lv_room (Nat.le_of_ble_eq_true rfl)) d_M_signed_19 ⟨Nat.le_of_ble_eq_true rfl, Nat.le_of_ble_eq_true rfl⟩) hlo (fun q h => by have h : q = o + 18 := h; rw [h]; exact ⟨by omega, by omega⟩) (fun H3 locs3 hB3 hlo => ?_)
        obtain ⟨hF3, f3, hf3, hN3⟩ := hB3
        have h_18 := hf3
        have h_19 := hI_f h_19 hF3 (show o + 19 ≠ o + 18 by omega)
        have h_20 := hI_f h_20 hF3 (show o + 20 ≠ o + 18 by omega)
        have h_21 := hI_f h_21 hF3 (show o + 21 ≠ o + 18 by omega)
        have h_22 := hI_f h_22 hF3 (show o + 22 ≠ o + 18 by omega)
        have h_23 := hI_f h_23 hF3 (show o + 23 ≠ o + 18 by omega)
        have h_24 := hI_f h_24 hF3 (show o + 24 ≠ o + 18 by omega)
        have h_X := hI_f h_X hF3 (show x ≠ o + 18 by omega)
        have h_Y := hI_f h_Y hF3 (show y ≠ o + 18 by omega)
        have hO := hO.f1 hF3 (by omega)
        have hG := MS1 hG hF3 (by omega)
        refine lv_aload_n hx hb d_M_signed_22 rfl (lv_at hl 2 rfl) ?_
        refine va_get (D := D) (ci := 1) (v := .ref (o + 19)) (C := "WideNumbersModel") (T := F_M) (N := 9) hx hb htw inM hown hK hO.1 0 rfl rfl 3 (by decide) (htw _ kw_279) (fun _ h9 => h9) rfl d_M_signed_23 ?_
        refine lv_aload_n hx hb d_M_signed_26 rfl (lv_at hl 5 rfl) ?_
        refine x_callv (A := MS o) (va_runS (As := [.ref (o + 19), .ref y]) (rest := []) ⟨hx, hb, hml, hown, htw⟩ (m_copy l D cJ cI cQ cR (o + 19) y 8 vy f19 fy (by decide) (by omega) hNy) (xcS 2 htw kw_374 kw_2 kw_372 kw_373 rfl rfl ⟨by decide, by decide, by decide +kernel⟩ ⟨Nat.le_of_ble_eq_true rfl, Nat.le_of_ble_eq_true rfl⟩) (xPre hK ⟨h_19, h_Y⟩) rfl rfl hl.1 rfl (lv_room (Nat.le_of_ble_eq_true rfl)) d_M_signed_27 ⟨Nat.le_of_ble_eq_true rfl, Nat.le_of_ble_eq_true rfl⟩) hlo (fun q h => by have h : q = o + 19 := h; rw [h]; exact ⟨by omega, by omega⟩) (fun H4 locs4 hB4 hlo => ?_)
        obtain ⟨hF4, f4, hf4, hN4⟩ := hB4
        have h_18 := hI_f h_18 hF4 (show o + 18 ≠ o + 19 by omega)
        have h_19 := hf4
        have h_20 := hI_f h_20 hF4 (show o + 20 ≠ o + 19 by omega)
        have h_21 := hI_f h_21 hF4 (show o + 21 ≠ o + 19 by omega)
        have h_22 := hI_f h_22 hF4 (show o + 22 ≠ o + 19 by omega)
        have h_23 := hI_f h_23 hF4 (show o + 23 ≠ o + 19 by omega)
        have h_24 := hI_f h_24 hF4 (show o + 24 ≠ o + 19 by omega)
        have h_X := hI_f h_X hF4 (show x ≠ o + 19 by omega)
        have h_Y := hI_f h_Y hF4 (show y ≠ o + 19 by omega)
        have hO := hO.f1 hF4 (by omega)
        have hG := MS1 hG hF4 (by omega)
        refine lv_iload hx hb d_M_signed_30 (lv_at hl 1 rfl) ?_
        refine lv_if_eq (tgt := 43) hx hb d_M_signed_32 (by decide) (fun _ => ?_) (fun h => absurd (by decide) h)
        have hNa : NI f3 8 (ab vx) := by
          unfold ab
          rw [if_neg hs1]
          exact hN3
        refine lv_iload hx hb d_M_signed_43 (lv_at hl 0 rfl) ?_
        refine lv_if_eq (tgt := 56) hx hb d_M_signed_45 (by decide) (fun _ => ?_) (fun h => absurd (by decide) h)
        have hNb : NI f4 8 (ab vy) := by
          unfold ab
          rw [if_neg hs2]
          exact hN4
        refine lv_aload_n hx hb d_M_signed_56 rfl (lv_at hl 2 rfl) ?_
        refine lv_aload_n hx hb d_M_signed_57 rfl (lv_at hl 2 rfl) ?_
        refine va_get (D := D) (ci := 1) (v := .ref (o + 18)) (C := "WideNumbersModel") (T := F_M) (N := 9) hx hb htw inM hown hK hO.1 0 rfl rfl 2 (by decide) (htw _ kw_278) (fun _ h9 => h9) rfl d_M_signed_58 ?_
        refine lv_aload_n hx hb d_M_signed_61 rfl (lv_at hl 2 rfl) ?_
        refine va_get (D := D) (ci := 1) (v := .ref (o + 19)) (C := "WideNumbersModel") (T := F_M) (N := 9) hx hb htw inM hown hK hO.1 0 rfl rfl 3 (by decide) (htw _ kw_279) (fun _ h9 => h9) rfl d_M_signed_62 ?_
        refine x_callv (A := MS o) (va_runV (As := [.ref (o + 18), .ref (o + 19)]) (rest := []) ⟨hx, hb, hml, hown, htw⟩ (m_divide l D cJ cI cQ cR o (o + 18) (o + 19) (ab vx) (ab vy) fl f22 f23 f24 f3 f4 (by omega) (by omega) hal hbl hap hNa hNb) (xcV 2 htw kw_359 kw_2 kw_356 kw_358 ks_M_divide rfl rfl ⟨by decide, by decide, by decide +kernel⟩ ⟨Nat.le_of_ble_eq_true rfl, Nat.le_of_ble_eq_true rfl⟩) (xPreV hK (hO.rv hK) ⟨hO, h_22, h_23, h_24, h_18, h_19⟩) rfl rfl hl.1 rfl (lv_room (Nat.le_of_ble_eq_true rfl)) d_M_signed_65 ⟨Nat.le_of_ble_eq_true rfl, Nat.le_of_ble_eq_true rfl⟩) hlo (fun q h => by rcases h with h | h | h <;> (rw [h]; exact ⟨by omega, by omega⟩)) (fun H7 locs7 hB7 hlo => ?_)
        obtain ⟨hF7, ⟨fw7, hw7⟩, f7, g7, hf7, hN7, hg7, hM7⟩ := hB7
        have h_18 := hI_f h_18 hF7 (nDv (by omega))
        have h_19 := hI_f h_19 hF7 (nDv (by omega))
        have h_20 := hI_f h_20 hF7 (nDv (by omega))
        have h_21 := hI_f h_21 hF7 (nDv (by omega))
        have h_22 := hw7
        have h_23 := hf7
        have h_24 := hg7
        have h_X := hI_f h_X hF7 (nDv (by omega))
        have h_Y := hI_f h_Y hF7 (nDv (by omega))
        have hO := hO.fd hF7
        have hG := MSd hG hF7
        refine lv_aload_n hx hb d_M_signed_68 rfl (lv_at hl 3 rfl) ?_
        refine lv_iload hx hb d_M_signed_69 (lv_at hl 6 rfl) ?_
        refine lv_if_eq (tgt := 81) hx hb d_M_signed_71 (by decide) (fun _ => ?_) (fun h => absurd (by decide) h)
        refine lv_aload_n hx hb d_M_signed_81 rfl (lv_at hl 2 rfl) ?_
        refine va_get (D := D) (ci := 1) (v := .ref (o + 23)) (C := "WideNumbersModel") (T := F_M) (N := 9) hx hb htw inM hown hK hO.1 0 rfl rfl 7 (by decide) (htw _ kw_283) (fun _ h9 => h9) rfl d_M_signed_82 ?_
        refine x_callv (A := MS o) (va_runS (As := [.ref (o + 20), .ref (o + 23)]) (rest := []) ⟨hx, hb, hml, hown, htw⟩ (m_take l D cJ cI cQ cR (o + 20) (o + 23) 16 (ab vx / ab vy) f20 f7 (by decide) (by omega) (fun j hj => hN7 j (by omega))) (xcS 2 htw kw_355 kw_2 kw_353 kw_354 rfl rfl ⟨by decide, by decide, by decide +kernel⟩ ⟨Nat.le_of_ble_eq_true rfl, Nat.le_of_ble_eq_true rfl⟩) (xPre hK ⟨h_20, h_23⟩) rfl rfl hl.1 rfl (lv_room (Nat.le_of_ble_eq_true rfl)) d_M_signed_85 ⟨Nat.le_of_ble_eq_true rfl, Nat.le_of_ble_eq_true rfl⟩) hlo (fun q h => by have h : q = o + 20 := h; rw [h]; exact ⟨by omega, by omega⟩) (fun H8 locs8 hB8 hlo => ?_)
        obtain ⟨hF8, f8, hf8, hN8⟩ := hB8
        have h_18 := hI_f h_18 hF8 (show o + 18 ≠ o + 20 by omega)
        have h_19 := hI_f h_19 hF8 (show o + 19 ≠ o + 20 by omega)
        have h_20 := hf8
        have h_21 := hI_f h_21 hF8 (show o + 21 ≠ o + 20 by omega)
        have h_22 := hI_f h_22 hF8 (show o + 22 ≠ o + 20 by omega)
        have h_23 := hI_f h_23 hF8 (show o + 23 ≠ o + 20 by omega)
        have h_24 := hI_f h_24 hF8 (show o + 24 ≠ o + 20 by omega)
        have h_X := hI_f h_X hF8 (show x ≠ o + 20 by omega)
        have h_Y := hI_f h_Y hF8 (show y ≠ o + 20 by omega)
        have hO := hO.f1 hF8 (by omega)
        have hG := MS1 hG hF8 (by omega)
        refine lv_iload hx hb d_M_signed_88 (lv_at hl 6 rfl) ?_
        refine lv_if_eq (tgt := 101) hx hb d_M_signed_90 (by decide) (fun _ => ?_) (fun h => absurd (by decide) h)
        refine lv_iload hx hb d_M_signed_101 (lv_at hl 1 rfl) ?_
        refine lv_iload hx hb d_M_signed_103 (lv_at hl 0 rfl) ?_
        refine lv_icmp_eq (tgt := 113) hx hb d_M_signed_105 (by decide) (fun _ => ?_) (fun h => absurd (by decide) h)
        exact W.vret hx hb hr (fun t ht hW => ⟨rfl, by rw [ht]; exact hG, by rw [ht]; exact ⟨⟨_, h_18⟩, ⟨_, h_19⟩, ⟨_, h_20⟩, ⟨_, h_21, hN21⟩, ⟨_, h_22⟩, ⟨_, h_23⟩, ⟨_, h_24⟩⟩, _, by rw [ht]; exact h_20, by rw [if_pos nI_0]; unfold sdv; rw [if_pos (by rw [decide_eq_false hs1, decide_eq_false hs2])]; exact hN8⟩) hlo d_M_signed_113
  · by_cases hs1 : 2 ^ 255 ≤ vx
    · by_cases hs2 : 2 ^ 255 ≤ vy
      · refine lv_aload_n hx hb d_M_signed_0 rfl (lv_at hl 0 rfl) ?_
        refine lv_aload_n hx hb d_M_signed_1 rfl (lv_at hl 2 rfl) ?_
        refine x_calli (A := MS o) (va_runV (As := [.ref x]) (rest := []) ⟨hx, hb, hml, hown, htw⟩ (m_below l D cJ cI cQ cR o x vx fx hvx hNx) (xcV 1 htw kw_371 kw_2 kw_368 kw_370 ks_M_below rfl rfl ⟨by decide, by decide, by decide +kernel⟩ ⟨Nat.le_of_ble_eq_true rfl, Nat.le_of_ble_eq_true rfl⟩) (xPreV hK (hO.rv hK) h_X) rfl rfl hl.1 rfl (lv_room (Nat.le_of_ble_eq_true rfl)) d_M_signed_2 ⟨Nat.le_of_ble_eq_true rfl, Nat.le_of_ble_eq_true rfl⟩) hlo (fun _ h => h.elim) (fun r1 H1 locs1 hB1 hlo => ?_)
        obtain ⟨rfl, rfl⟩ := hB1
        refine x_topi (v := nI 1) (by rw [if_pos hs1]; rfl) ?_
        refine lv_istore hx hb d_M_signed_5 hl (by decide) rfl (fun ls hl => ?_)
        have hl : lv_has ls 7 [(5, .int (nI 1)), (0, .ref o), (1, .ref (o + 20)), (2, .ref x), (3, .ref y), (4, .int (nI 1))] := hl
        refine lv_aload_n hx hb d_M_signed_7 rfl (lv_at hl 1 rfl) ?_
        refine lv_aload_n hx hb d_M_signed_8 rfl (lv_at hl 4 rfl) ?_
        refine x_calli (A := MS o) (va_runV (As := [.ref y]) (rest := []) ⟨hx, hb, hml, hown, htw⟩ (m_below l D cJ cI cQ cR o y vy fy hvy hNy) (xcV 1 htw kw_371 kw_2 kw_368 kw_370 ks_M_below rfl rfl ⟨by decide, by decide, by decide +kernel⟩ ⟨Nat.le_of_ble_eq_true rfl, Nat.le_of_ble_eq_true rfl⟩) (xPreV hK (hO.rv hK) h_Y) rfl rfl hl.1 rfl (lv_room (Nat.le_of_ble_eq_true rfl)) d_M_signed_9 ⟨Nat.le_of_ble_eq_true rfl, Nat.le_of_ble_eq_true rfl⟩) hlo (fun _ h => h.elim) (fun r2 H2 locs2 hB2 hlo => ?_)
        obtain ⟨rfl, rfl⟩ := hB2
        refine x_topi (v := nI 1) (by rw [if_pos hs2]; rfl) ?_
        refine lv_istore hx hb d_M_signed_12 hl (by decide) rfl (fun ls hl => ?_)
        have hl : lv_has ls 7 [(6, .int (nI 1)), (5, .int (nI 1)), (0, .ref o), (1, .ref (o + 20)), (2, .ref x), (3, .ref y), (4, .int (nI 1))] := hl
        refine lv_aload_n hx hb d_M_signed_14 rfl (lv_at hl 2 rfl) ?_
        refine va_get (D := D) (ci := 1) (v := .ref (o + 18)) (C := "WideNumbersModel") (T := F_M) (N := 9) hx hb htw inM hown hK hO.1 0 rfl rfl 2 (by decide) (htw _ kw_278) (fun _ h9 => h9) rfl d_M_signed_15 ?_
        refine lv_aload_n hx hb d_M_signed_18 rfl (lv_at hl 4 rfl) ?_
        refine x_callv (A := MS o) (va_runS (As := [.ref (o + 18), .ref x]) (rest := []) ⟨hx, hb, hml, hown, htw⟩ (m_copy l D cJ cI cQ cR (o + 18) x 8 vx f18 fx (by decide) (by omega) hNx) (xcS 2 htw kw_374 kw_2 kw_372 kw_373 rfl rfl ⟨by decide, by decide, by decide +kernel⟩ ⟨Nat.le_of_ble_eq_true rfl, Nat.le_of_ble_eq_true rfl⟩) (xPre hK ⟨h_18, h_X⟩) rfl rfl hl.1 rfl (lv_room (Nat.le_of_ble_eq_true rfl)) d_M_signed_19 ⟨Nat.le_of_ble_eq_true rfl, Nat.le_of_ble_eq_true rfl⟩) hlo (fun q h => by have h : q = o + 18 := h; rw [h]; exact ⟨by omega, by omega⟩) (fun H3 locs3 hB3 hlo => ?_)
        obtain ⟨hF3, f3, hf3, hN3⟩ := hB3
        have h_18 := hf3
        have h_19 := hI_f h_19 hF3 (show o + 19 ≠ o + 18 by omega)
        have h_20 := hI_f h_20 hF3 (show o + 20 ≠ o + 18 by omega)
        have h_21 := hI_f h_21 hF3 (show o + 21 ≠ o + 18 by omega)
        have h_22 := hI_f h_22 hF3 (show o + 22 ≠ o + 18 by omega)
        have h_23 := hI_f h_23 hF3 (show o + 23 ≠ o + 18 by omega)
        have h_24 := hI_f h_24 hF3 (show o + 24 ≠ o + 18 by omega)
        have h_X := hI_f h_X hF3 (show x ≠ o + 18 by omega)
        have h_Y := hI_f h_Y hF3 (show y ≠ o + 18 by omega)
        have hO := hO.f1 hF3 (by omega)
        have hG := MS1 hG hF3 (by omega)
        refine lv_aload_n hx hb d_M_signed_22 rfl (lv_at hl 2 rfl) ?_
        refine va_get (D := D) (ci := 1) (v := .ref (o + 19)) (C := "WideNumbersModel") (T := F_M) (N := 9) hx hb htw inM hown hK hO.1 0 rfl rfl 3 (by decide) (htw _ kw_279) (fun _ h9 => h9) rfl d_M_signed_23 ?_
        refine lv_aload_n hx hb d_M_signed_26 rfl (lv_at hl 5 rfl) ?_
        refine x_callv (A := MS o) (va_runS (As := [.ref (o + 19), .ref y]) (rest := []) ⟨hx, hb, hml, hown, htw⟩ (m_copy l D cJ cI cQ cR (o + 19) y 8 vy f19 fy (by decide) (by omega) hNy) (xcS 2 htw kw_374 kw_2 kw_372 kw_373 rfl rfl ⟨by decide, by decide, by decide +kernel⟩ ⟨Nat.le_of_ble_eq_true rfl, Nat.le_of_ble_eq_true rfl⟩) (xPre hK ⟨h_19, h_Y⟩) rfl rfl hl.1 rfl (lv_room (Nat.le_of_ble_eq_true rfl)) d_M_signed_27 ⟨Nat.le_of_ble_eq_true rfl, Nat.le_of_ble_eq_true rfl⟩) hlo (fun q h => by have h : q = o + 19 := h; rw [h]; exact ⟨by omega, by omega⟩) (fun H4 locs4 hB4 hlo => ?_)
        obtain ⟨hF4, f4, hf4, hN4⟩ := hB4
        have h_18 := hI_f h_18 hF4 (show o + 18 ≠ o + 19 by omega)
        have h_19 := hf4
        have h_20 := hI_f h_20 hF4 (show o + 20 ≠ o + 19 by omega)
        have h_21 := hI_f h_21 hF4 (show o + 21 ≠ o + 19 by omega)
        have h_22 := hI_f h_22 hF4 (show o + 22 ≠ o + 19 by omega)
        have h_23 := hI_f h_23 hF4 (show o + 23 ≠ o + 19 by omega)
        have h_24 := hI_f h_24 hF4 (show o + 24 ≠ o + 19 by omega)
        have h_X := hI_f h_X hF4 (show x ≠ o + 19 by omega)
        have h_Y := hI_f h_Y hF4 (show y ≠ o + 19 by omega)
        have hO := hO.f1 hF4 (by omega)
        have hG := MS1 hG hF4 (by omega)
        refine lv_iload hx hb d_M_signed_30 (lv_at hl 1 rfl) ?_
        refine lv_if_eq (tgt := 43) hx hb d_M_signed_32 (by decide) (fun h => absurd h (by decide)) (fun _ => ?_)
        refine lv_aload_n hx hb d_M_signed_35 rfl (lv_at hl 2 rfl) ?_
        refine lv_aload_n hx hb d_M_signed_36 rfl (lv_at hl 2 rfl) ?_
        refine va_get (D := D) (ci := 1) (v := .ref (o + 18)) (C := "WideNumbersModel") (T := F_M) (N := 9) hx hb htw inM hown hK hO.1 0 rfl rfl 2 (by decide) (htw _ kw_278) (fun _ h9 => h9) rfl d_M_signed_37 ?_
        refine x_callv (A := MS o) (va_runV (As := [.ref (o + 18)]) (rest := []) ⟨hx, hb, hml, hown, htw⟩ (m_negate l D cJ cI cQ cR o (o + 18) vx fl f3 f21 (by omega) hvx hN3 hN21) (xcV 1 htw kw_378 kw_2 kw_375 kw_377 ks_M_negate rfl rfl ⟨by decide, by decide, by decide +kernel⟩ ⟨Nat.le_of_ble_eq_true rfl, Nat.le_of_ble_eq_true rfl⟩) (xPreV hK (hO.rv hK) ⟨hO, h_18, h_21⟩) rfl rfl hl.1 rfl (lv_room (Nat.le_of_ble_eq_true rfl)) d_M_signed_40 ⟨Nat.le_of_ble_eq_true rfl, Nat.le_of_ble_eq_true rfl⟩) hlo (fun q h => by have h : q = o + 18 := h; rw [h]; exact ⟨by omega, by omega⟩) (fun H5 locs5 hB5 hlo => ?_)
        obtain ⟨hF5, f5, hf5, hN5⟩ := hB5
        have h_18 := hf5
        have h_19 := hI_f h_19 hF5 (show o + 19 ≠ o + 18 by omega)
        have h_20 := hI_f h_20 hF5 (show o + 20 ≠ o + 18 by omega)
        have h_21 := hI_f h_21 hF5 (show o + 21 ≠ o + 18 by omega)
        have h_22 := hI_f h_22 hF5 (show o + 22 ≠ o + 18 by omega)
        have h_23 := hI_f h_23 hF5 (show o + 23 ≠ o + 18 by omega)
        have h_24 := hI_f h_24 hF5 (show o + 24 ≠ o + 18 by omega)
        have h_X := hI_f h_X hF5 (show x ≠ o + 18 by omega)
        have h_Y := hI_f h_Y hF5 (show y ≠ o + 18 by omega)
        have hO := hO.f1 hF5 (by omega)
        have hG := MS1 hG hF5 (by omega)
        have hNa : NI f5 8 (ab vx) := by
          unfold ab
          rw [if_pos hs1, ← Nat.mod_eq_of_lt (show 2 ^ 256 - vx < 2 ^ 256 by omega)]
          exact hN5
        refine lv_iload hx hb d_M_signed_43 (lv_at hl 0 rfl) ?_
        refine lv_if_eq (tgt := 56) hx hb d_M_signed_45 (by decide) (fun h => absurd h (by decide)) (fun _ => ?_)
        refine lv_aload_n hx hb d_M_signed_48 rfl (lv_at hl 2 rfl) ?_
        refine lv_aload_n hx hb d_M_signed_49 rfl (lv_at hl 2 rfl) ?_
        refine va_get (D := D) (ci := 1) (v := .ref (o + 19)) (C := "WideNumbersModel") (T := F_M) (N := 9) hx hb htw inM hown hK hO.1 0 rfl rfl 3 (by decide) (htw _ kw_279) (fun _ h9 => h9) rfl d_M_signed_50 ?_
        refine x_callv (A := MS o) (va_runV (As := [.ref (o + 19)]) (rest := []) ⟨hx, hb, hml, hown, htw⟩ (m_negate l D cJ cI cQ cR o (o + 19) vy fl f4 f21 (by omega) hvy hN4 hN21) (xcV 1 htw kw_378 kw_2 kw_375 kw_377 ks_M_negate rfl rfl ⟨by decide, by decide, by decide +kernel⟩ ⟨Nat.le_of_ble_eq_true rfl, Nat.le_of_ble_eq_true rfl⟩) (xPreV hK (hO.rv hK) ⟨hO, h_19, h_21⟩) rfl rfl hl.1 rfl (lv_room (Nat.le_of_ble_eq_true rfl)) d_M_signed_53 ⟨Nat.le_of_ble_eq_true rfl, Nat.le_of_ble_eq_true rfl⟩) hlo (fun q h => by have h : q = o + 19 := h; rw [h]; exact ⟨by omega, by omega⟩) (fun H6 locs6 hB6 hlo => ?_)
        obtain ⟨hF6, f6, hf6, hN6⟩ := hB6
        have h_18 := hI_f h_18 hF6 (show o + 18 ≠ o + 19 by omega)
        have h_19 := hf6
        have h_20 := hI_f h_20 hF6 (show o + 20 ≠ o + 19 by omega)
        have h_21 := hI_f h_21 hF6 (show o + 21 ≠ o + 19 by omega)
        have h_22 := hI_f h_22 hF6 (show o + 22 ≠ o + 19 by omega)
        have h_23 := hI_f h_23 hF6 (show o + 23 ≠ o + 19 by omega)
        have h_24 := hI_f h_24 hF6 (show o + 24 ≠ o + 19 by omega)
        have h_X := hI_f h_X hF6 (show x ≠ o + 19 by omega)
        have h_Y := hI_f h_Y hF6 (show y ≠ o + 19 by omega)
        have hO := hO.f1 hF6 (by omega)
        have hG := MS1 hG hF6 (by omega)
        have hNb : NI f6 8 (ab vy) := by
          unfold ab
          rw [if_pos hs2, ← Nat.mod_eq_of_lt (show 2 ^ 256 - vy < 2 ^ 256 by omega)]
          exact hN6
        refine lv_aload_n hx hb d_M_signed_56 rfl (lv_at hl 2 rfl) ?_
        refine lv_aload_n hx hb d_M_signed_57 rfl (lv_at hl 2 rfl) ?_
        refine va_get (D := D) (ci := 1) (v := .ref (o + 18)) (C := "WideNumbersModel") (T := F_M) (N := 9) hx hb htw inM hown hK hO.1 0 rfl rfl 2 (by decide) (htw _ kw_278) (fun _ h9 => h9) rfl d_M_signed_58 ?_
        refine lv_aload_n hx hb d_M_signed_61 rfl (lv_at hl 2 rfl) ?_
        refine va_get (D := D) (ci := 1) (v := .ref (o + 19)) (C := "WideNumbersModel") (T := F_M) (N := 9) hx hb htw inM hown hK hO.1 0 rfl rfl 3 (by decide) (htw _ kw_279) (fun _ h9 => h9) rfl d_M_signed_62 ?_
        refine x_callv (A := MS o) (va_runV (As := [.ref (o + 18), .ref (o + 19)]) (rest := []) ⟨hx, hb, hml, hown, htw⟩ (m_divide l D cJ cI cQ cR o (o + 18) (o + 19) (ab vx) (ab vy) fl f22 f23 f24 f5 f6 (by omega) (by omega) hal hbl hap hNa hNb) (xcV 2 htw kw_359 kw_2 kw_356 kw_358 ks_M_divide rfl rfl ⟨by decide, by decide, by decide +kernel⟩ ⟨Nat.le_of_ble_eq_true rfl, Nat.le_of_ble_eq_true rfl⟩) (xPreV hK (hO.rv hK) ⟨hO, h_22, h_23, h_24, h_18, h_19⟩) rfl rfl hl.1 rfl (lv_room (Nat.le_of_ble_eq_true rfl)) d_M_signed_65 ⟨Nat.le_of_ble_eq_true rfl, Nat.le_of_ble_eq_true rfl⟩) hlo (fun q h => by rcases h with h | h | h <;> (rw [h]; exact ⟨by omega, by omega⟩)) (fun H7 locs7 hB7 hlo => ?_)
        obtain ⟨hF7, ⟨fw7, hw7⟩, f7, g7, hf7, hN7, hg7, hM7⟩ := hB7
        have h_18 := hI_f h_18 hF7 (nDv (by omega))
        have h_19 := hI_f h_19 hF7 (nDv (by omega))
        have h_20 := hI_f h_20 hF7 (nDv (by omega))
        have h_21 := hI_f h_21 hF7 (nDv (by omega))
        have h_22 := hw7
        have h_23 := hf7
        have h_24 := hg7
        have h_X := hI_f h_X hF7 (nDv (by omega))
        have h_Y := hI_f h_Y hF7 (nDv (by omega))
        have hO := hO.fd hF7
        have hG := MSd hG hF7
        refine lv_aload_n hx hb d_M_signed_68 rfl (lv_at hl 3 rfl) ?_
        refine lv_iload hx hb d_M_signed_69 (lv_at hl 6 rfl) ?_
        refine lv_if_eq (tgt := 81) hx hb d_M_signed_71 (by decide) (fun h => absurd h (by decide)) (fun _ => ?_)
        refine lv_aload_n hx hb d_M_signed_74 rfl (lv_at hl 2 rfl) ?_
        refine va_get (D := D) (ci := 1) (v := .ref (o + 24)) (C := "WideNumbersModel") (T := F_M) (N := 9) hx hb htw inM hown hK hO.1 0 rfl rfl 8 (by decide) (htw _ kw_284) (fun _ h9 => h9) rfl d_M_signed_75 ?_
        refine lv_goto (tgt := 85) hx hb d_M_signed_78 (by decide) ?_
        refine x_callv (A := MS o) (va_runS (As := [.ref (o + 20), .ref (o + 24)]) (rest := []) ⟨hx, hb, hml, hown, htw⟩ (m_take l D cJ cI cQ cR (o + 20) (o + 24) 9 (ab vx % ab vy) f20 g7 (by decide) (by omega) (fun j hj => hM7 j (by omega))) (xcS 2 htw kw_355 kw_2 kw_353 kw_354 rfl rfl ⟨by decide, by decide, by decide +kernel⟩ ⟨Nat.le_of_ble_eq_true rfl, Nat.le_of_ble_eq_true rfl⟩) (xPre hK ⟨h_20, h_24⟩) rfl rfl hl.1 rfl (lv_room (Nat.le_of_ble_eq_true rfl)) d_M_signed_85 ⟨Nat.le_of_ble_eq_true rfl, Nat.le_of_ble_eq_true rfl⟩) hlo (fun q h => by have h : q = o + 20 := h; rw [h]; exact ⟨by omega, by omega⟩) (fun H8 locs8 hB8 hlo => ?_)
        obtain ⟨hF8, f8, hf8, hN8⟩ := hB8
        have h_18 := hI_f h_18 hF8 (show o + 18 ≠ o + 20 by omega)
        have h_19 := hI_f h_19 hF8 (show o + 19 ≠ o + 20 by omega)
        have h_20 := hf8
        have h_21 := hI_f h_21 hF8 (show o + 21 ≠ o + 20 by omega)
        have h_22 := hI_f h_22 hF8 (show o + 22 ≠ o + 20 by omega)
        have h_23 := hI_f h_23 hF8 (show o + 23 ≠ o + 20 by omega)
        have h_24 := hI_f h_24 hF8 (show o + 24 ≠ o + 20 by omega)
        have h_X := hI_f h_X hF8 (show x ≠ o + 20 by omega)
        have h_Y := hI_f h_Y hF8 (show y ≠ o + 20 by omega)
        have hO := hO.f1 hF8 (by omega)
        have hG := MS1 hG hF8 (by omega)
        refine lv_iload hx hb d_M_signed_88 (lv_at hl 6 rfl) ?_
        refine lv_if_eq (tgt := 101) hx hb d_M_signed_90 (by decide) (fun h => absurd h (by decide)) (fun _ => ?_)
        refine lv_iload hx hb d_M_signed_93 (lv_at hl 1 rfl) ?_
        refine lv_if_eq (tgt := 113) hx hb d_M_signed_95 (by decide) (fun h => absurd h (by decide)) (fun _ => ?_)
        refine lv_goto (tgt := 108) hx hb d_M_signed_98 (by decide) ?_
        refine lv_aload_n hx hb d_M_signed_108 rfl (lv_at hl 2 rfl) ?_
        refine lv_aload_n hx hb d_M_signed_109 rfl (lv_at hl 3 rfl) ?_
        refine x_callv (A := MS o) (va_runV (As := [.ref (o + 20)]) (rest := []) ⟨hx, hb, hml, hown, htw⟩ (m_negate l D cJ cI cQ cR o (o + 20) (ab vx % ab vy) fl f8 f21 (by omega) hrl hN8 hN21) (xcV 1 htw kw_378 kw_2 kw_375 kw_377 ks_M_negate rfl rfl ⟨by decide, by decide, by decide +kernel⟩ ⟨Nat.le_of_ble_eq_true rfl, Nat.le_of_ble_eq_true rfl⟩) (xPreV hK (hO.rv hK) ⟨hO, h_20, h_21⟩) rfl rfl hl.1 rfl (lv_room (Nat.le_of_ble_eq_true rfl)) d_M_signed_110 ⟨Nat.le_of_ble_eq_true rfl, Nat.le_of_ble_eq_true rfl⟩) hlo (fun q h => by have h : q = o + 20 := h; rw [h]; exact ⟨by omega, by omega⟩) (fun H9 locs9 hB9 hlo => ?_)
        obtain ⟨hF9, f9, hf9, hN9⟩ := hB9
        have h_18 := hI_f h_18 hF9 (show o + 18 ≠ o + 20 by omega)
        have h_19 := hI_f h_19 hF9 (show o + 19 ≠ o + 20 by omega)
        have h_20 := hf9
        have h_21 := hI_f h_21 hF9 (show o + 21 ≠ o + 20 by omega)
        have h_22 := hI_f h_22 hF9 (show o + 22 ≠ o + 20 by omega)
        have h_23 := hI_f h_23 hF9 (show o + 23 ≠ o + 20 by omega)
        have h_24 := hI_f h_24 hF9 (show o + 24 ≠ o + 20 by omega)
        have h_X := hI_f h_X hF9 (show x ≠ o + 20 by omega)
        have h_Y := hI_f h_Y hF9 (show y ≠ o + 20 by omega)
        have hO := hO.f1 hF9 (by omega)
        have hG := MS1 hG hF9 (by omega)
        exact W.vret hx hb hr (fun t ht hW => ⟨rfl, by rw [ht]; exact hG, by rw [ht]; exact ⟨⟨_, h_18⟩, ⟨_, h_19⟩, ⟨_, h_20⟩, ⟨_, h_21, hN21⟩, ⟨_, h_22⟩, ⟨_, h_23⟩, ⟨_, h_24⟩⟩, _, by rw [ht]; exact h_20, by rw [if_neg (by decide)]; unfold srm; rw [if_pos hs1, if_neg (by omega)]; exact hN9⟩) hlo d_M_signed_113
      · refine lv_aload_n hx hb d_M_signed_0 rfl (lv_at hl 0 rfl) ?_
        refine lv_aload_n hx hb d_M_signed_1 rfl (lv_at hl 2 rfl) ?_
        refine x_calli (A := MS o) (va_runV (As := [.ref x]) (rest := []) ⟨hx, hb, hml, hown, htw⟩ (m_below l D cJ cI cQ cR o x vx fx hvx hNx) (xcV 1 htw kw_371 kw_2 kw_368 kw_370 ks_M_below rfl rfl ⟨by decide, by decide, by decide +kernel⟩ ⟨Nat.le_of_ble_eq_true rfl, Nat.le_of_ble_eq_true rfl⟩) (xPreV hK (hO.rv hK) h_X) rfl rfl hl.1 rfl (lv_room (Nat.le_of_ble_eq_true rfl)) d_M_signed_2 ⟨Nat.le_of_ble_eq_true rfl, Nat.le_of_ble_eq_true rfl⟩) hlo (fun _ h => h.elim) (fun r1 H1 locs1 hB1 hlo => ?_)
        obtain ⟨rfl, rfl⟩ := hB1
        refine x_topi (v := nI 1) (by rw [if_pos hs1]; rfl) ?_
        refine lv_istore hx hb d_M_signed_5 hl (by decide) rfl (fun ls hl => ?_)
        have hl : lv_has ls 7 [(5, .int (nI 1)), (0, .ref o), (1, .ref (o + 20)), (2, .ref x), (3, .ref y), (4, .int (nI 1))] := hl
        refine lv_aload_n hx hb d_M_signed_7 rfl (lv_at hl 1 rfl) ?_
        refine lv_aload_n hx hb d_M_signed_8 rfl (lv_at hl 4 rfl) ?_
        refine x_calli (A := MS o) (va_runV (As := [.ref y]) (rest := []) ⟨hx, hb, hml, hown, htw⟩ (m_below l D cJ cI cQ cR o y vy fy hvy hNy) (xcV 1 htw kw_371 kw_2 kw_368 kw_370 ks_M_below rfl rfl ⟨by decide, by decide, by decide +kernel⟩ ⟨Nat.le_of_ble_eq_true rfl, Nat.le_of_ble_eq_true rfl⟩) (xPreV hK (hO.rv hK) h_Y) rfl rfl hl.1 rfl (lv_room (Nat.le_of_ble_eq_true rfl)) d_M_signed_9 ⟨Nat.le_of_ble_eq_true rfl, Nat.le_of_ble_eq_true rfl⟩) hlo (fun _ h => h.elim) (fun r2 H2 locs2 hB2 hlo => ?_)
        obtain ⟨rfl, rfl⟩ := hB2
        refine x_topi (v := nI 0) (by rw [if_neg hs2]; rfl) ?_
        refine lv_istore hx hb d_M_signed_12 hl (by decide) rfl (fun ls hl => ?_)
        have hl : lv_has ls 7 [(6, .int (nI 0)), (5, .int (nI 1)), (0, .ref o), (1, .ref (o + 20)), (2, .ref x), (3, .ref y), (4, .int (nI 1))] := hl
        refine lv_aload_n hx hb d_M_signed_14 rfl (lv_at hl 2 rfl) ?_
        refine va_get (D := D) (ci := 1) (v := .ref (o + 18)) (C := "WideNumbersModel") (T := F_M) (N := 9) hx hb htw inM hown hK hO.1 0 rfl rfl 2 (by decide) (htw _ kw_278) (fun _ h9 => h9) rfl d_M_signed_15 ?_
        refine lv_aload_n hx hb d_M_signed_18 rfl (lv_at hl 4 rfl) ?_
        refine x_callv (A := MS o) (va_runS (As := [.ref (o + 18), .ref x]) (rest := []) ⟨hx, hb, hml, hown, htw⟩ (m_copy l D cJ cI cQ cR (o + 18) x 8 vx f18 fx (by decide) (by omega) hNx) (xcS 2 htw kw_374 kw_2 kw_372 kw_373 rfl rfl ⟨by decide, by decide, by decide +kernel⟩ ⟨Nat.le_of_ble_eq_true rfl, Nat.le_of_ble_eq_true rfl⟩) (xPre hK ⟨h_18, h_X⟩) rfl rfl hl.1 rfl (lv_room (Nat.le_of_ble_eq_true rfl)) d_M_signed_19 ⟨Nat.le_of_ble_eq_true rfl, Nat.le_of_ble_eq_true rfl⟩) hlo (fun q h => by have h : q = o + 18 := h; rw [h]; exact ⟨by omega, by omega⟩) (fun H3 locs3 hB3 hlo => ?_)
        obtain ⟨hF3, f3, hf3, hN3⟩ := hB3
        have h_18 := hf3
        have h_19 := hI_f h_19 hF3 (show o + 19 ≠ o + 18 by omega)
        have h_20 := hI_f h_20 hF3 (show o + 20 ≠ o + 18 by omega)
        have h_21 := hI_f h_21 hF3 (show o + 21 ≠ o + 18 by omega)
        have h_22 := hI_f h_22 hF3 (show o + 22 ≠ o + 18 by omega)
        have h_23 := hI_f h_23 hF3 (show o + 23 ≠ o + 18 by omega)
        have h_24 := hI_f h_24 hF3 (show o + 24 ≠ o + 18 by omega)
        have h_X := hI_f h_X hF3 (show x ≠ o + 18 by omega)
        have h_Y := hI_f h_Y hF3 (show y ≠ o + 18 by omega)
        have hO := hO.f1 hF3 (by omega)
        have hG := MS1 hG hF3 (by omega)
        refine lv_aload_n hx hb d_M_signed_22 rfl (lv_at hl 2 rfl) ?_
        refine va_get (D := D) (ci := 1) (v := .ref (o + 19)) (C := "WideNumbersModel") (T := F_M) (N := 9) hx hb htw inM hown hK hO.1 0 rfl rfl 3 (by decide) (htw _ kw_279) (fun _ h9 => h9) rfl d_M_signed_23 ?_
        refine lv_aload_n hx hb d_M_signed_26 rfl (lv_at hl 5 rfl) ?_
        refine x_callv (A := MS o) (va_runS (As := [.ref (o + 19), .ref y]) (rest := []) ⟨hx, hb, hml, hown, htw⟩ (m_copy l D cJ cI cQ cR (o + 19) y 8 vy f19 fy (by decide) (by omega) hNy) (xcS 2 htw kw_374 kw_2 kw_372 kw_373 rfl rfl ⟨by decide, by decide, by decide +kernel⟩ ⟨Nat.le_of_ble_eq_true rfl, Nat.le_of_ble_eq_true rfl⟩) (xPre hK ⟨h_19, h_Y⟩) rfl rfl hl.1 rfl (lv_room (Nat.le_of_ble_eq_true rfl)) d_M_signed_27 ⟨Nat.le_of_ble_eq_true rfl, Nat.le_of_ble_eq_true rfl⟩) hlo (fun q h => by have h : q = o + 19 := h; rw [h]; exact ⟨by omega, by omega⟩) (fun H4 locs4 hB4 hlo => ?_)
        obtain ⟨hF4, f4, hf4, hN4⟩ := hB4
        have h_18 := hI_f h_18 hF4 (show o + 18 ≠ o + 19 by omega)
        have h_19 := hf4
        have h_20 := hI_f h_20 hF4 (show o + 20 ≠ o + 19 by omega)
        have h_21 := hI_f h_21 hF4 (show o + 21 ≠ o + 19 by omega)
        have h_22 := hI_f h_22 hF4 (show o + 22 ≠ o + 19 by omega)
        have h_23 := hI_f h_23 hF4 (show o + 23 ≠ o + 19 by omega)
        have h_24 := hI_f h_24 hF4 (show o + 24 ≠ o + 19 by omega)
        have h_X := hI_f h_X hF4 (show x ≠ o + 19 by omega)
        have h_Y := hI_f h_Y hF4 (show y ≠ o + 19 by omega)
        have hO := hO.f1 hF4 (by omega)
        have hG := MS1 hG hF4 (by omega)
        refine lv_iload hx hb d_M_signed_30 (lv_at hl 1 rfl) ?_
        refine lv_if_eq (tgt := 43) hx hb d_M_signed_32 (by decide) (fun h => absurd h (by decide)) (fun _ => ?_)
        refine lv_aload_n hx hb d_M_signed_35 rfl (lv_at hl 2 rfl) ?_
        refine lv_aload_n hx hb d_M_signed_36 rfl (lv_at hl 2 rfl) ?_
        refine va_get (D := D) (ci := 1) (v := .ref (o + 18)) (C := "WideNumbersModel") (T := F_M) (N := 9) hx hb htw inM hown hK hO.1 0 rfl rfl 2 (by decide) (htw _ kw_278) (fun _ h9 => h9) rfl d_M_signed_37 ?_
        refine x_callv (A := MS o) (va_runV (As := [.ref (o + 18)]) (rest := []) ⟨hx, hb, hml, hown, htw⟩ (m_negate l D cJ cI cQ cR o (o + 18) vx fl f3 f21 (by omega) hvx hN3 hN21) (xcV 1 htw kw_378 kw_2 kw_375 kw_377 ks_M_negate rfl rfl ⟨by decide, by decide, by decide +kernel⟩ ⟨Nat.le_of_ble_eq_true rfl, Nat.le_of_ble_eq_true rfl⟩) (xPreV hK (hO.rv hK) ⟨hO, h_18, h_21⟩) rfl rfl hl.1 rfl (lv_room (Nat.le_of_ble_eq_true rfl)) d_M_signed_40 ⟨Nat.le_of_ble_eq_true rfl, Nat.le_of_ble_eq_true rfl⟩) hlo (fun q h => by have h : q = o + 18 := h; rw [h]; exact ⟨by omega, by omega⟩) (fun H5 locs5 hB5 hlo => ?_)
        obtain ⟨hF5, f5, hf5, hN5⟩ := hB5
        have h_18 := hf5
        have h_19 := hI_f h_19 hF5 (show o + 19 ≠ o + 18 by omega)
        have h_20 := hI_f h_20 hF5 (show o + 20 ≠ o + 18 by omega)
        have h_21 := hI_f h_21 hF5 (show o + 21 ≠ o + 18 by omega)
        have h_22 := hI_f h_22 hF5 (show o + 22 ≠ o + 18 by omega)
        have h_23 := hI_f h_23 hF5 (show o + 23 ≠ o + 18 by omega)
        have h_24 := hI_f h_24 hF5 (show o + 24 ≠ o + 18 by omega)
        have h_X := hI_f h_X hF5 (show x ≠ o + 18 by omega)
        have h_Y := hI_f h_Y hF5 (show y ≠ o + 18 by omega)
        have hO := hO.f1 hF5 (by omega)
        have hG := MS1 hG hF5 (by omega)
        have hNa : NI f5 8 (ab vx) := by
          unfold ab
          rw [if_pos hs1, ← Nat.mod_eq_of_lt (show 2 ^ 256 - vx < 2 ^ 256 by omega)]
          exact hN5
        refine lv_iload hx hb d_M_signed_43 (lv_at hl 0 rfl) ?_
        refine lv_if_eq (tgt := 56) hx hb d_M_signed_45 (by decide) (fun _ => ?_) (fun h => absurd (by decide) h)
        have hNb : NI f4 8 (ab vy) := by
          unfold ab
          rw [if_neg hs2]
          exact hN4
        refine lv_aload_n hx hb d_M_signed_56 rfl (lv_at hl 2 rfl) ?_
        refine lv_aload_n hx hb d_M_signed_57 rfl (lv_at hl 2 rfl) ?_
        refine va_get (D := D) (ci := 1) (v := .ref (o + 18)) (C := "WideNumbersModel") (T := F_M) (N := 9) hx hb htw inM hown hK hO.1 0 rfl rfl 2 (by decide) (htw _ kw_278) (fun _ h9 => h9) rfl d_M_signed_58 ?_
        refine lv_aload_n hx hb d_M_signed_61 rfl (lv_at hl 2 rfl) ?_
        refine va_get (D := D) (ci := 1) (v := .ref (o + 19)) (C := "WideNumbersModel") (T := F_M) (N := 9) hx hb htw inM hown hK hO.1 0 rfl rfl 3 (by decide) (htw _ kw_279) (fun _ h9 => h9) rfl d_M_signed_62 ?_
        refine x_callv (A := MS o) (va_runV (As := [.ref (o + 18), .ref (o + 19)]) (rest := []) ⟨hx, hb, hml, hown, htw⟩ (m_divide l D cJ cI cQ cR o (o + 18) (o + 19) (ab vx) (ab vy) fl f22 f23 f24 f5 f4 (by omega) (by omega) hal hbl hap hNa hNb) (xcV 2 htw kw_359 kw_2 kw_356 kw_358 ks_M_divide rfl rfl ⟨by decide, by decide, by decide +kernel⟩ ⟨Nat.le_of_ble_eq_true rfl, Nat.le_of_ble_eq_true rfl⟩) (xPreV hK (hO.rv hK) ⟨hO, h_22, h_23, h_24, h_18, h_19⟩) rfl rfl hl.1 rfl (lv_room (Nat.le_of_ble_eq_true rfl)) d_M_signed_65 ⟨Nat.le_of_ble_eq_true rfl, Nat.le_of_ble_eq_true rfl⟩) hlo (fun q h => by rcases h with h | h | h <;> (rw [h]; exact ⟨by omega, by omega⟩)) (fun H7 locs7 hB7 hlo => ?_)
        obtain ⟨hF7, ⟨fw7, hw7⟩, f7, g7, hf7, hN7, hg7, hM7⟩ := hB7
        have h_18 := hI_f h_18 hF7 (nDv (by omega))
        have h_19 := hI_f h_19 hF7 (nDv (by omega))
        have h_20 := hI_f h_20 hF7 (nDv (by omega))
        have h_21 := hI_f h_21 hF7 (nDv (by omega))
        have h_22 := hw7
        have h_23 := hf7
        have h_24 := hg7
        have h_X := hI_f h_X hF7 (nDv (by omega))
        have h_Y := hI_f h_Y hF7 (nDv (by omega))
        have hO := hO.fd hF7
        have hG := MSd hG hF7
        refine lv_aload_n hx hb d_M_signed_68 rfl (lv_at hl 3 rfl) ?_
        refine lv_iload hx hb d_M_signed_69 (lv_at hl 6 rfl) ?_
        refine lv_if_eq (tgt := 81) hx hb d_M_signed_71 (by decide) (fun h => absurd h (by decide)) (fun _ => ?_)
        refine lv_aload_n hx hb d_M_signed_74 rfl (lv_at hl 2 rfl) ?_
        refine va_get (D := D) (ci := 1) (v := .ref (o + 24)) (C := "WideNumbersModel") (T := F_M) (N := 9) hx hb htw inM hown hK hO.1 0 rfl rfl 8 (by decide) (htw _ kw_284) (fun _ h9 => h9) rfl d_M_signed_75 ?_
        refine lv_goto (tgt := 85) hx hb d_M_signed_78 (by decide) ?_
        refine x_callv (A := MS o) (va_runS (As := [.ref (o + 20), .ref (o + 24)]) (rest := []) ⟨hx, hb, hml, hown, htw⟩ (m_take l D cJ cI cQ cR (o + 20) (o + 24) 9 (ab vx % ab vy) f20 g7 (by decide) (by omega) (fun j hj => hM7 j (by omega))) (xcS 2 htw kw_355 kw_2 kw_353 kw_354 rfl rfl ⟨by decide, by decide, by decide +kernel⟩ ⟨Nat.le_of_ble_eq_true rfl, Nat.le_of_ble_eq_true rfl⟩) (xPre hK ⟨h_20, h_24⟩) rfl rfl hl.1 rfl (lv_room (Nat.le_of_ble_eq_true rfl)) d_M_signed_85 ⟨Nat.le_of_ble_eq_true rfl, Nat.le_of_ble_eq_true rfl⟩) hlo (fun q h => by have h : q = o + 20 := h; rw [h]; exact ⟨by omega, by omega⟩) (fun H8 locs8 hB8 hlo => ?_)
        obtain ⟨hF8, f8, hf8, hN8⟩ := hB8
        have h_18 := hI_f h_18 hF8 (show o + 18 ≠ o + 20 by omega)
        have h_19 := hI_f h_19 hF8 (show o + 19 ≠ o + 20 by omega)
        have h_20 := hf8
        have h_21 := hI_f h_21 hF8 (show o + 21 ≠ o + 20 by omega)
        have h_22 := hI_f h_22 hF8 (show o + 22 ≠ o + 20 by omega)
        have h_23 := hI_f h_23 hF8 (show o + 23 ≠ o + 20 by omega)
        have h_24 := hI_f h_24 hF8 (show o + 24 ≠ o + 20 by omega)
        have h_X := hI_f h_X hF8 (show x ≠ o + 20 by omega)
        have h_Y := hI_f h_Y hF8 (show y ≠ o + 20 by omega)
        have hO := hO.f1 hF8 (by omega)
        have hG := MS1 hG hF8 (by omega)
        refine lv_iload hx hb d_M_signed_88 (lv_at hl 6 rfl) ?_
        refine lv_if_eq (tgt := 101) hx hb d_M_signed_90 (by decide) (fun h => absurd h (by decide)) (fun _ => ?_)
        refine lv_iload hx hb d_M_signed_93 (lv_at hl 1 rfl) ?_
        refine lv_if_eq (tgt := 113) hx hb d_M_signed_95 (by decide) (fun h => absurd h (by decide)) (fun _ => ?_)
        refine lv_goto (tgt := 108) hx hb d_M_signed_98 (by decide) ?_
        refine lv_aload_n hx hb d_M_signed_108 rfl (lv_at hl 2 rfl) ?_
        refine lv_aload_n hx hb d_M_signed_109 rfl (lv_at hl 3 rfl) ?_
        refine x_callv (A := MS o) (va_runV (As := [.ref (o + 20)]) (rest := []) ⟨hx, hb, hml, hown, htw⟩ (m_negate l D cJ cI cQ cR o (o + 20) (ab vx % ab vy) fl f8 f21 (by omega) hrl hN8 hN21) (xcV 1 htw kw_378 kw_2 kw_375 kw_377 ks_M_negate rfl rfl ⟨by decide, by decide, by decide +kernel⟩ ⟨Nat.le_of_ble_eq_true rfl, Nat.le_of_ble_eq_true rfl⟩) (xPreV hK (hO.rv hK) ⟨hO, h_20, h_21⟩) rfl rfl hl.1 rfl (lv_room (Nat.le_of_ble_eq_true rfl)) d_M_signed_110 ⟨Nat.le_of_ble_eq_true rfl, Nat.le_of_ble_eq_true rfl⟩) hlo (fun q h => by have h : q = o + 20 := h; rw [h]; exact ⟨by omega, by omega⟩) (fun H9 locs9 hB9 hlo => ?_)
        obtain ⟨hF9, f9, hf9, hN9⟩ := hB9
        have h_18 := hI_f h_18 hF9 (show o + 18 ≠ o + 20 by omega)
        have h_19 := hI_f h_19 hF9 (show o + 19 ≠ o + 20 by omega)
        have h_20 := hf9
        have h_21 := hI_f h_21 hF9 (show o + 21 ≠ o + 20 by omega)
        have h_22 := hI_f h_22 hF9 (show o + 22 ≠ o + 20 by omega)
        have h_23 := hI_f h_23 hF9 (show o + 23 ≠ o + 20 by omega)
        have h_24 := hI_f h_24 hF9 (show o + 24 ≠ o + 20 by omega)
        have h_X := hI_f h_X hF9 (show x ≠ o + 20 by omega)
        have h_Y := hI_f h_Y hF9 (show y ≠ o + 20 by omega)
        have hO := hO.f1 hF9 (by omega)
        have hG := MS1 hG hF9 (by omega)
        exact W.vret hx hb hr (fun t ht hW => ⟨rfl, by rw [ht]; exact hG, by rw [ht]; exact ⟨⟨_, h_18⟩, ⟨_, h_19⟩, ⟨_, h_20⟩, ⟨_, h_21, hN21⟩, ⟨_, h_22⟩, ⟨_, h_23⟩, ⟨_, h_24⟩⟩, _, by rw [ht]; exact h_20, by rw [if_neg (by decide)]; unfold srm; rw [if_pos hs1, if_neg (by omega)]; exact hN9⟩) hlo d_M_signed_113
    · by_cases hs2 : 2 ^ 255 ≤ vy
      · refine lv_aload_n hx hb d_M_signed_0 rfl (lv_at hl 0 rfl) ?_
        refine lv_aload_n hx hb d_M_signed_1 rfl (lv_at hl 2 rfl) ?_
        refine x_calli (A := MS o) (va_runV (As := [.ref x]) (rest := []) ⟨hx, hb, hml, hown, htw⟩ (m_below l D cJ cI cQ cR o x vx fx hvx hNx) (xcV 1 htw kw_371 kw_2 kw_368 kw_370 ks_M_below rfl rfl ⟨by decide, by decide, by decide +kernel⟩ ⟨Nat.le_of_ble_eq_true rfl, Nat.le_of_ble_eq_true rfl⟩) (xPreV hK (hO.rv hK) h_X) rfl rfl hl.1 rfl (lv_room (Nat.le_of_ble_eq_true rfl)) d_M_signed_2 ⟨Nat.le_of_ble_eq_true rfl, Nat.le_of_ble_eq_true rfl⟩) hlo (fun _ h => h.elim) (fun r1 H1 locs1 hB1 hlo => ?_)
        obtain ⟨rfl, rfl⟩ := hB1
        refine x_topi (v := nI 0) (by rw [if_neg hs1]; rfl) ?_
        refine lv_istore hx hb d_M_signed_5 hl (by decide) rfl (fun ls hl => ?_)
        have hl : lv_has ls 7 [(5, .int (nI 0)), (0, .ref o), (1, .ref (o + 20)), (2, .ref x), (3, .ref y), (4, .int (nI 1))] := hl
        refine lv_aload_n hx hb d_M_signed_7 rfl (lv_at hl 1 rfl) ?_
        refine lv_aload_n hx hb d_M_signed_8 rfl (lv_at hl 4 rfl) ?_
        refine x_calli (A := MS o) (va_runV (As := [.ref y]) (rest := []) ⟨hx, hb, hml, hown, htw⟩ (m_below l D cJ cI cQ cR o y vy fy hvy hNy) (xcV 1 htw kw_371 kw_2 kw_368 kw_370 ks_M_below rfl rfl ⟨by decide, by decide, by decide +kernel⟩ ⟨Nat.le_of_ble_eq_true rfl, Nat.le_of_ble_eq_true rfl⟩) (xPreV hK (hO.rv hK) h_Y) rfl rfl hl.1 rfl (lv_room (Nat.le_of_ble_eq_true rfl)) d_M_signed_9 ⟨Nat.le_of_ble_eq_true rfl, Nat.le_of_ble_eq_true rfl⟩) hlo (fun _ h => h.elim) (fun r2 H2 locs2 hB2 hlo => ?_)
        obtain ⟨rfl, rfl⟩ := hB2
        refine x_topi (v := nI 1) (by rw [if_pos hs2]; rfl) ?_
        refine lv_istore hx hb d_M_signed_12 hl (by decide) rfl (fun ls hl => ?_)
        have hl : lv_has ls 7 [(6, .int (nI 1)), (5, .int (nI 0)), (0, .ref o), (1, .ref (o + 20)), (2, .ref x), (3, .ref y), (4, .int (nI 1))] := hl
        refine lv_aload_n hx hb d_M_signed_14 rfl (lv_at hl 2 rfl) ?_
        refine va_get (D := D) (ci := 1) (v := .ref (o + 18)) (C := "WideNumbersModel") (T := F_M) (N := 9) hx hb htw inM hown hK hO.1 0 rfl rfl 2 (by decide) (htw _ kw_278) (fun _ h9 => h9) rfl d_M_signed_15 ?_
        refine lv_aload_n hx hb d_M_signed_18 rfl (lv_at hl 4 rfl) ?_
        refine x_callv (A := MS o) (va_runS (As := [.ref (o + 18), .ref x]) (rest := []) ⟨hx, hb, hml, hown, htw⟩ (m_copy l D cJ cI cQ cR (o + 18) x 8 vx f18 fx (by decide) (by omega) hNx) (xcS 2 htw kw_374 kw_2 kw_372 kw_373 rfl rfl ⟨by decide, by decide, by decide +kernel⟩ ⟨Nat.le_of_ble_eq_true rfl, Nat.le_of_ble_eq_true rfl⟩) (xPre hK ⟨h_18, h_X⟩) rfl rfl hl.1 rfl (lv_room (Nat.le_of_ble_eq_true rfl)) d_M_signed_19 ⟨Nat.le_of_ble_eq_true rfl, Nat.le_of_ble_eq_true rfl⟩) hlo (fun q h => by have h : q = o + 18 := h; rw [h]; exact ⟨by omega, by omega⟩) (fun H3 locs3 hB3 hlo => ?_)
        obtain ⟨hF3, f3, hf3, hN3⟩ := hB3
        have h_18 := hf3
        have h_19 := hI_f h_19 hF3 (show o + 19 ≠ o + 18 by omega)
        have h_20 := hI_f h_20 hF3 (show o + 20 ≠ o + 18 by omega)
        have h_21 := hI_f h_21 hF3 (show o + 21 ≠ o + 18 by omega)
        have h_22 := hI_f h_22 hF3 (show o + 22 ≠ o + 18 by omega)
        have h_23 := hI_f h_23 hF3 (show o + 23 ≠ o + 18 by omega)
        have h_24 := hI_f h_24 hF3 (show o + 24 ≠ o + 18 by omega)
        have h_X := hI_f h_X hF3 (show x ≠ o + 18 by omega)
        have h_Y := hI_f h_Y hF3 (show y ≠ o + 18 by omega)
        have hO := hO.f1 hF3 (by omega)
        have hG := MS1 hG hF3 (by omega)
        refine lv_aload_n hx hb d_M_signed_22 rfl (lv_at hl 2 rfl) ?_
        refine va_get (D := D) (ci := 1) (v := .ref (o + 19)) (C := "WideNumbersModel") (T := F_M) (N := 9) hx hb htw inM hown hK hO.1 0 rfl rfl 3 (by decide) (htw _ kw_279) (fun _ h9 => h9) rfl d_M_signed_23 ?_
        refine lv_aload_n hx hb d_M_signed_26 rfl (lv_at hl 5 rfl) ?_
        refine x_callv (A := MS o) (va_runS (As := [.ref (o + 19), .ref y]) (rest := []) ⟨hx, hb, hml, hown, htw⟩ (m_copy l D cJ cI cQ cR (o + 19) y 8 vy f19 fy (by decide) (by omega) hNy) (xcS 2 htw kw_374 kw_2 kw_372 kw_373 rfl rfl ⟨by decide, by decide, by decide +kernel⟩ ⟨Nat.le_of_ble_eq_true rfl, Nat.le_of_ble_eq_true rfl⟩) (xPre hK ⟨h_19, h_Y⟩) rfl rfl hl.1 rfl (lv_room (Nat.le_of_ble_eq_true rfl)) d_M_signed_27 ⟨Nat.le_of_ble_eq_true rfl, Nat.le_of_ble_eq_true rfl⟩) hlo (fun q h => by have h : q = o + 19 := h; rw [h]; exact ⟨by omega, by omega⟩) (fun H4 locs4 hB4 hlo => ?_)
        obtain ⟨hF4, f4, hf4, hN4⟩ := hB4
        have h_18 := hI_f h_18 hF4 (show o + 18 ≠ o + 19 by omega)
        have h_19 := hf4
        have h_20 := hI_f h_20 hF4 (show o + 20 ≠ o + 19 by omega)
        have h_21 := hI_f h_21 hF4 (show o + 21 ≠ o + 19 by omega)
        have h_22 := hI_f h_22 hF4 (show o + 22 ≠ o + 19 by omega)
        have h_23 := hI_f h_23 hF4 (show o + 23 ≠ o + 19 by omega)
        have h_24 := hI_f h_24 hF4 (show o + 24 ≠ o + 19 by omega)
        have h_X := hI_f h_X hF4 (show x ≠ o + 19 by omega)
        have h_Y := hI_f h_Y hF4 (show y ≠ o + 19 by omega)
        have hO := hO.f1 hF4 (by omega)
        have hG := MS1 hG hF4 (by omega)
        refine lv_iload hx hb d_M_signed_30 (lv_at hl 1 rfl) ?_
        refine lv_if_eq (tgt := 43) hx hb d_M_signed_32 (by decide) (fun _ => ?_) (fun h => absurd (by decide) h)
        have hNa : NI f3 8 (ab vx) := by
          unfold ab
          rw [if_neg hs1]
          exact hN3
        refine lv_iload hx hb d_M_signed_43 (lv_at hl 0 rfl) ?_
        refine lv_if_eq (tgt := 56) hx hb d_M_signed_45 (by decide) (fun h => absurd h (by decide)) (fun _ => ?_)
        refine lv_aload_n hx hb d_M_signed_48 rfl (lv_at hl 2 rfl) ?_
        refine lv_aload_n hx hb d_M_signed_49 rfl (lv_at hl 2 rfl) ?_
        refine va_get (D := D) (ci := 1) (v := .ref (o + 19)) (C := "WideNumbersModel") (T := F_M) (N := 9) hx hb htw inM hown hK hO.1 0 rfl rfl 3 (by decide) (htw _ kw_279) (fun _ h9 => h9) rfl d_M_signed_50 ?_
        refine x_callv (A := MS o) (va_runV (As := [.ref (o + 19)]) (rest := []) ⟨hx, hb, hml, hown, htw⟩ (m_negate l D cJ cI cQ cR o (o + 19) vy fl f4 f21 (by omega) hvy hN4 hN21) (xcV 1 htw kw_378 kw_2 kw_375 kw_377 ks_M_negate rfl rfl ⟨by decide, by decide, by decide +kernel⟩ ⟨Nat.le_of_ble_eq_true rfl, Nat.le_of_ble_eq_true rfl⟩) (xPreV hK (hO.rv hK) ⟨hO, h_19, h_21⟩) rfl rfl hl.1 rfl (lv_room (Nat.le_of_ble_eq_true rfl)) d_M_signed_53 ⟨Nat.le_of_ble_eq_true rfl, Nat.le_of_ble_eq_true rfl⟩) hlo (fun q h => by have h : q = o + 19 := h; rw [h]; exact ⟨by omega, by omega⟩) (fun H6 locs6 hB6 hlo => ?_)
        obtain ⟨hF6, f6, hf6, hN6⟩ := hB6
        have h_18 := hI_f h_18 hF6 (show o + 18 ≠ o + 19 by omega)
        have h_19 := hf6
        have h_20 := hI_f h_20 hF6 (show o + 20 ≠ o + 19 by omega)
        have h_21 := hI_f h_21 hF6 (show o + 21 ≠ o + 19 by omega)
        have h_22 := hI_f h_22 hF6 (show o + 22 ≠ o + 19 by omega)
        have h_23 := hI_f h_23 hF6 (show o + 23 ≠ o + 19 by omega)
        have h_24 := hI_f h_24 hF6 (show o + 24 ≠ o + 19 by omega)
        have h_X := hI_f h_X hF6 (show x ≠ o + 19 by omega)
        have h_Y := hI_f h_Y hF6 (show y ≠ o + 19 by omega)
        have hO := hO.f1 hF6 (by omega)
        have hG := MS1 hG hF6 (by omega)
        have hNb : NI f6 8 (ab vy) := by
          unfold ab
          rw [if_pos hs2, ← Nat.mod_eq_of_lt (show 2 ^ 256 - vy < 2 ^ 256 by omega)]
          exact hN6
        refine lv_aload_n hx hb d_M_signed_56 rfl (lv_at hl 2 rfl) ?_
        refine lv_aload_n hx hb d_M_signed_57 rfl (lv_at hl 2 rfl) ?_
        refine va_get (D := D) (ci := 1) (v := .ref (o + 18)) (C := "WideNumbersModel") (T := F_M) (N := 9) hx hb htw inM hown hK hO.1 0 rfl rfl 2 (by decide) (htw _ kw_278) (fun _ h9 => h9) rfl d_M_signed_58 ?_
        refine lv_aload_n hx hb d_M_signed_61 rfl (lv_at hl 2 rfl) ?_
        refine va_get (D := D) (ci := 1) (v := .ref (o + 19)) (C := "WideNumbersModel") (T := F_M) (N := 9) hx hb htw inM hown hK hO.1 0 rfl rfl 3 (by decide) (htw _ kw_279) (fun _ h9 => h9) rfl d_M_signed_62 ?_
        refine x_callv (A := MS o) (va_runV (As := [.ref (o + 18), .ref (o + 19)]) (rest := []) ⟨hx, hb, hml, hown, htw⟩ (m_divide l D cJ cI cQ cR o (o + 18) (o + 19) (ab vx) (ab vy) fl f22 f23 f24 f3 f6 (by omega) (by omega) hal hbl hap hNa hNb) (xcV 2 htw kw_359 kw_2 kw_356 kw_358 ks_M_divide rfl rfl ⟨by decide, by decide, by decide +kernel⟩ ⟨Nat.le_of_ble_eq_true rfl, Nat.le_of_ble_eq_true rfl⟩) (xPreV hK (hO.rv hK) ⟨hO, h_22, h_23, h_24, h_18, h_19⟩) rfl rfl hl.1 rfl (lv_room (Nat.le_of_ble_eq_true rfl)) d_M_signed_65 ⟨Nat.le_of_ble_eq_true rfl, Nat.le_of_ble_eq_true rfl⟩) hlo (fun q h => by rcases h with h | h | h <;> (rw [h]; exact ⟨by omega, by omega⟩)) (fun H7 locs7 hB7 hlo => ?_)
        obtain ⟨hF7, ⟨fw7, hw7⟩, f7, g7, hf7, hN7, hg7, hM7⟩ := hB7
        have h_18 := hI_f h_18 hF7 (nDv (by omega))
        have h_19 := hI_f h_19 hF7 (nDv (by omega))
        have h_20 := hI_f h_20 hF7 (nDv (by omega))
        have h_21 := hI_f h_21 hF7 (nDv (by omega))
        have h_22 := hw7
        have h_23 := hf7
        have h_24 := hg7
        have h_X := hI_f h_X hF7 (nDv (by omega))
        have h_Y := hI_f h_Y hF7 (nDv (by omega))
        have hO := hO.fd hF7
        have hG := MSd hG hF7
        refine lv_aload_n hx hb d_M_signed_68 rfl (lv_at hl 3 rfl) ?_
        refine lv_iload hx hb d_M_signed_69 (lv_at hl 6 rfl) ?_
        refine lv_if_eq (tgt := 81) hx hb d_M_signed_71 (by decide) (fun h => absurd h (by decide)) (fun _ => ?_)
        refine lv_aload_n hx hb d_M_signed_74 rfl (lv_at hl 2 rfl) ?_
        refine va_get (D := D) (ci := 1) (v := .ref (o + 24)) (C := "WideNumbersModel") (T := F_M) (N := 9) hx hb htw inM hown hK hO.1 0 rfl rfl 8 (by decide) (htw _ kw_284) (fun _ h9 => h9) rfl d_M_signed_75 ?_
        refine lv_goto (tgt := 85) hx hb d_M_signed_78 (by decide) ?_
        refine x_callv (A := MS o) (va_runS (As := [.ref (o + 20), .ref (o + 24)]) (rest := []) ⟨hx, hb, hml, hown, htw⟩ (m_take l D cJ cI cQ cR (o + 20) (o + 24) 9 (ab vx % ab vy) f20 g7 (by decide) (by omega) (fun j hj => hM7 j (by omega))) (xcS 2 htw kw_355 kw_2 kw_353 kw_354 rfl rfl ⟨by decide, by decide, by decide +kernel⟩ ⟨Nat.le_of_ble_eq_true rfl, Nat.le_of_ble_eq_true rfl⟩) (xPre hK ⟨h_20, h_24⟩) rfl rfl hl.1 rfl (lv_room (Nat.le_of_ble_eq_true rfl)) d_M_signed_85 ⟨Nat.le_of_ble_eq_true rfl, Nat.le_of_ble_eq_true rfl⟩) hlo (fun q h => by have h : q = o + 20 := h; rw [h]; exact ⟨by omega, by omega⟩) (fun H8 locs8 hB8 hlo => ?_)
        obtain ⟨hF8, f8, hf8, hN8⟩ := hB8
        have h_18 := hI_f h_18 hF8 (show o + 18 ≠ o + 20 by omega)
        have h_19 := hI_f h_19 hF8 (show o + 19 ≠ o + 20 by omega)
        have h_20 := hf8
        have h_21 := hI_f h_21 hF8 (show o + 21 ≠ o + 20 by omega)
        have h_22 := hI_f h_22 hF8 (show o + 22 ≠ o + 20 by omega)
        have h_23 := hI_f h_23 hF8 (show o + 23 ≠ o + 20 by omega)
        have h_24 := hI_f h_24 hF8 (show o + 24 ≠ o + 20 by omega)
        have h_X := hI_f h_X hF8 (show x ≠ o + 20 by omega)
        have h_Y := hI_f h_Y hF8 (show y ≠ o + 20 by omega)
        have hO := hO.f1 hF8 (by omega)
        have hG := MS1 hG hF8 (by omega)
        refine lv_iload hx hb d_M_signed_88 (lv_at hl 6 rfl) ?_
        refine lv_if_eq (tgt := 101) hx hb d_M_signed_90 (by decide) (fun h => absurd h (by decide)) (fun _ => ?_)
        refine lv_iload hx hb d_M_signed_93 (lv_at hl 1 rfl) ?_
        refine lv_if_eq (tgt := 113) hx hb d_M_signed_95 (by decide) (fun _ => ?_) (fun h => absurd (by decide) h)
        exact W.vret hx hb hr (fun t ht hW => ⟨rfl, by rw [ht]; exact hG, by rw [ht]; exact ⟨⟨_, h_18⟩, ⟨_, h_19⟩, ⟨_, h_20⟩, ⟨_, h_21, hN21⟩, ⟨_, h_22⟩, ⟨_, h_23⟩, ⟨_, h_24⟩⟩, _, by rw [ht]; exact h_20, by rw [if_neg (by decide)]; unfold srm; rw [if_neg hs1, if_neg (by omega)]; exact hN8⟩) hlo d_M_signed_113
      · refine lv_aload_n hx hb d_M_signed_0 rfl (lv_at hl 0 rfl) ?_
        refine lv_aload_n hx hb d_M_signed_1 rfl (lv_at hl 2 rfl) ?_
        refine x_calli (A := MS o) (va_runV (As := [.ref x]) (rest := []) ⟨hx, hb, hml, hown, htw⟩ (m_below l D cJ cI cQ cR o x vx fx hvx hNx) (xcV 1 htw kw_371 kw_2 kw_368 kw_370 ks_M_below rfl rfl ⟨by decide, by decide, by decide +kernel⟩ ⟨Nat.le_of_ble_eq_true rfl, Nat.le_of_ble_eq_true rfl⟩) (xPreV hK (hO.rv hK) h_X) rfl rfl hl.1 rfl (lv_room (Nat.le_of_ble_eq_true rfl)) d_M_signed_2 ⟨Nat.le_of_ble_eq_true rfl, Nat.le_of_ble_eq_true rfl⟩) hlo (fun _ h => h.elim) (fun r1 H1 locs1 hB1 hlo => ?_)
        obtain ⟨rfl, rfl⟩ := hB1
        refine x_topi (v := nI 0) (by rw [if_neg hs1]; rfl) ?_
        refine lv_istore hx hb d_M_signed_5 hl (by decide) rfl (fun ls hl => ?_)
        have hl : lv_has ls 7 [(5, .int (nI 0)), (0, .ref o), (1, .ref (o + 20)), (2, .ref x), (3, .ref y), (4, .int (nI 1))] := hl
        refine lv_aload_n hx hb d_M_signed_7 rfl (lv_at hl 1 rfl) ?_
        refine lv_aload_n hx hb d_M_signed_8 rfl (lv_at hl 4 rfl) ?_
        refine x_calli (A := MS o) (va_runV (As := [.ref y]) (rest := []) ⟨hx, hb, hml, hown, htw⟩ (m_below l D cJ cI cQ cR o y vy fy hvy hNy) (xcV 1 htw kw_371 kw_2 kw_368 kw_370 ks_M_below rfl rfl ⟨by decide, by decide, by decide +kernel⟩ ⟨Nat.le_of_ble_eq_true rfl, Nat.le_of_ble_eq_true rfl⟩) (xPreV hK (hO.rv hK) h_Y) rfl rfl hl.1 rfl (lv_room (Nat.le_of_ble_eq_true rfl)) d_M_signed_9 ⟨Nat.le_of_ble_eq_true rfl, Nat.le_of_ble_eq_true rfl⟩) hlo (fun _ h => h.elim) (fun r2 H2 locs2 hB2 hlo => ?_)
        obtain ⟨rfl, rfl⟩ := hB2
        refine x_topi (v := nI 0) (by rw [if_neg hs2]; rfl) ?_
        refine lv_istore hx hb d_M_signed_12 hl (by decide) rfl (fun ls hl => ?_)
        have hl : lv_has ls 7 [(6, .int (nI 0)), (5, .int (nI 0)), (0, .ref o), (1, .ref (o + 20)), (2, .ref x), (3, .ref y), (4, .int (nI 1))] := hl
        refine lv_aload_n hx hb d_M_signed_14 rfl (lv_at hl 2 rfl) ?_
        refine va_get (D := D) (ci := 1) (v := .ref (o + 18)) (C := "WideNumbersModel") (T := F_M) (N := 9) hx hb htw inM hown hK hO.1 0 rfl rfl 2 (by decide) (htw _ kw_278) (fun _ h9 => h9) rfl d_M_signed_15 ?_
        refine lv_aload_n hx hb d_M_signed_18 rfl (lv_at hl 4 rfl) ?_
        refine x_callv (A := MS o) (va_runS (As := [.ref (o + 18), .ref x]) (rest := []) ⟨hx, hb, hml, hown, htw⟩ (m_copy l D cJ cI cQ cR (o + 18) x 8 vx f18 fx (by decide) (by omega) hNx) (xcS 2 htw kw_374 kw_2 kw_372 kw_373 rfl rfl ⟨by decide, by decide, by decide +kernel⟩ ⟨Nat.le_of_ble_eq_true rfl, Nat.le_of_ble_eq_true rfl⟩) (xPre hK ⟨h_18, h_X⟩) rfl rfl hl.1 rfl (lv_room (Nat.le_of_ble_eq_true rfl)) d_M_signed_19 ⟨Nat.le_of_ble_eq_true rfl, Nat.le_of_ble_eq_true rfl⟩) hlo (fun q h => by have h : q = o + 18 := h; rw [h]; exact ⟨by omega, by omega⟩) (fun H3 locs3 hB3 hlo => ?_)
        obtain ⟨hF3, f3, hf3, hN3⟩ := hB3
        have h_18 := hf3
        have h_19 := hI_f h_19 hF3 (show o + 19 ≠ o + 18 by omega)
        have h_20 := hI_f h_20 hF3 (show o + 20 ≠ o + 18 by omega)
        have h_21 := hI_f h_21 hF3 (show o + 21 ≠ o + 18 by omega)
        have h_22 := hI_f h_22 hF3 (show o + 22 ≠ o + 18 by omega)
        have h_23 := hI_f h_23 hF3 (show o + 23 ≠ o + 18 by omega)
        have h_24 := hI_f h_24 hF3 (show o + 24 ≠ o + 18 by omega)
        have h_X := hI_f h_X hF3 (show x ≠ o + 18 by omega)
        have h_Y := hI_f h_Y hF3 (show y ≠ o + 18 by omega)
        have hO := hO.f1 hF3 (by omega)
        have hG := MS1 hG hF3 (by omega)
        refine lv_aload_n hx hb d_M_signed_22 rfl (lv_at hl 2 rfl) ?_
        refine va_get (D := D) (ci := 1) (v := .ref (o + 19)) (C := "WideNumbersModel") (T := F_M) (N := 9) hx hb htw inM hown hK hO.1 0 rfl rfl 3 (by decide) (htw _ kw_279) (fun _ h9 => h9) rfl d_M_signed_23 ?_
        refine lv_aload_n hx hb d_M_signed_26 rfl (lv_at hl 5 rfl) ?_
        refine x_callv (A := MS o) (va_runS (As := [.ref (o + 19), .ref y]) (rest := []) ⟨hx, hb, hml, hown, htw⟩ (m_copy l D cJ cI cQ cR (o + 19) y 8 vy f19 fy (by decide) (by omega) hNy) (xcS 2 htw kw_374 kw_2 kw_372 kw_373 rfl rfl ⟨by decide, by decide, by decide +kernel⟩ ⟨Nat.le_of_ble_eq_true rfl, Nat.le_of_ble_eq_true rfl⟩) (xPre hK ⟨h_19, h_Y⟩) rfl rfl hl.1 rfl (lv_room (Nat.le_of_ble_eq_true rfl)) d_M_signed_27 ⟨Nat.le_of_ble_eq_true rfl, Nat.le_of_ble_eq_true rfl⟩) hlo (fun q h => by have h : q = o + 19 := h; rw [h]; exact ⟨by omega, by omega⟩) (fun H4 locs4 hB4 hlo => ?_)
        obtain ⟨hF4, f4, hf4, hN4⟩ := hB4
        have h_18 := hI_f h_18 hF4 (show o + 18 ≠ o + 19 by omega)
        have h_19 := hf4
        have h_20 := hI_f h_20 hF4 (show o + 20 ≠ o + 19 by omega)
        have h_21 := hI_f h_21 hF4 (show o + 21 ≠ o + 19 by omega)
        have h_22 := hI_f h_22 hF4 (show o + 22 ≠ o + 19 by omega)
        have h_23 := hI_f h_23 hF4 (show o + 23 ≠ o + 19 by omega)
        have h_24 := hI_f h_24 hF4 (show o + 24 ≠ o + 19 by omega)
        have h_X := hI_f h_X hF4 (show x ≠ o + 19 by omega)
        have h_Y := hI_f h_Y hF4 (show y ≠ o + 19 by omega)
        have hO := hO.f1 hF4 (by omega)
        have hG := MS1 hG hF4 (by omega)
        refine lv_iload hx hb d_M_signed_30 (lv_at hl 1 rfl) ?_
        refine lv_if_eq (tgt := 43) hx hb d_M_signed_32 (by decide) (fun _ => ?_) (fun h => absurd (by decide) h)
        have hNa : NI f3 8 (ab vx) := by
          unfold ab
          rw [if_neg hs1]
          exact hN3
        refine lv_iload hx hb d_M_signed_43 (lv_at hl 0 rfl) ?_
        refine lv_if_eq (tgt := 56) hx hb d_M_signed_45 (by decide) (fun _ => ?_) (fun h => absurd (by decide) h)
        have hNb : NI f4 8 (ab vy) := by
          unfold ab
          rw [if_neg hs2]
          exact hN4
        refine lv_aload_n hx hb d_M_signed_56 rfl (lv_at hl 2 rfl) ?_
        refine lv_aload_n hx hb d_M_signed_57 rfl (lv_at hl 2 rfl) ?_
        refine va_get (D := D) (ci := 1) (v := .ref (o + 18)) (C := "WideNumbersModel") (T := F_M) (N := 9) hx hb htw inM hown hK hO.1 0 rfl rfl 2 (by decide) (htw _ kw_278) (fun _ h9 => h9) rfl d_M_signed_58 ?_
        refine lv_aload_n hx hb d_M_signed_61 rfl (lv_at hl 2 rfl) ?_
        refine va_get (D := D) (ci := 1) (v := .ref (o + 19)) (C := "WideNumbersModel") (T := F_M) (N := 9) hx hb htw inM hown hK hO.1 0 rfl rfl 3 (by decide) (htw _ kw_279) (fun _ h9 => h9) rfl d_M_signed_62 ?_
        refine x_callv (A := MS o) (va_runV (As := [.ref (o + 18), .ref (o + 19)]) (rest := []) ⟨hx, hb, hml, hown, htw⟩ (m_divide l D cJ cI cQ cR o (o + 18) (o + 19) (ab vx) (ab vy) fl f22 f23 f24 f3 f4 (by omega) (by omega) hal hbl hap hNa hNb) (xcV 2 htw kw_359 kw_2 kw_356 kw_358 ks_M_divide rfl rfl ⟨by decide, by decide, by decide +kernel⟩ ⟨Nat.le_of_ble_eq_true rfl, Nat.le_of_ble_eq_true rfl⟩) (xPreV hK (hO.rv hK) ⟨hO, h_22, h_23, h_24, h_18, h_19⟩) rfl rfl hl.1 rfl (lv_room (Nat.le_of_ble_eq_true rfl)) d_M_signed_65 ⟨Nat.le_of_ble_eq_true rfl, Nat.le_of_ble_eq_true rfl⟩) hlo (fun q h => by rcases h with h | h | h <;> (rw [h]; exact ⟨by omega, by omega⟩)) (fun H7 locs7 hB7 hlo => ?_)
        obtain ⟨hF7, ⟨fw7, hw7⟩, f7, g7, hf7, hN7, hg7, hM7⟩ := hB7
        have h_18 := hI_f h_18 hF7 (nDv (by omega))
        have h_19 := hI_f h_19 hF7 (nDv (by omega))
        have h_20 := hI_f h_20 hF7 (nDv (by omega))
        have h_21 := hI_f h_21 hF7 (nDv (by omega))
        have h_22 := hw7
        have h_23 := hf7
        have h_24 := hg7
        have h_X := hI_f h_X hF7 (nDv (by omega))
        have h_Y := hI_f h_Y hF7 (nDv (by omega))
        have hO := hO.fd hF7
        have hG := MSd hG hF7
        refine lv_aload_n hx hb d_M_signed_68 rfl (lv_at hl 3 rfl) ?_
        refine lv_iload hx hb d_M_signed_69 (lv_at hl 6 rfl) ?_
        refine lv_if_eq (tgt := 81) hx hb d_M_signed_71 (by decide) (fun h => absurd h (by decide)) (fun _ => ?_)
        refine lv_aload_n hx hb d_M_signed_74 rfl (lv_at hl 2 rfl) ?_
        refine va_get (D := D) (ci := 1) (v := .ref (o + 24)) (C := "WideNumbersModel") (T := F_M) (N := 9) hx hb htw inM hown hK hO.1 0 rfl rfl 8 (by decide) (htw _ kw_284) (fun _ h9 => h9) rfl d_M_signed_75 ?_
        refine lv_goto (tgt := 85) hx hb d_M_signed_78 (by decide) ?_
        refine x_callv (A := MS o) (va_runS (As := [.ref (o + 20), .ref (o + 24)]) (rest := []) ⟨hx, hb, hml, hown, htw⟩ (m_take l D cJ cI cQ cR (o + 20) (o + 24) 9 (ab vx % ab vy) f20 g7 (by decide) (by omega) (fun j hj => hM7 j (by omega))) (xcS 2 htw kw_355 kw_2 kw_353 kw_354 rfl rfl ⟨by decide, by decide, by decide +kernel⟩ ⟨Nat.le_of_ble_eq_true rfl, Nat.le_of_ble_eq_true rfl⟩) (xPre hK ⟨h_20, h_24⟩) rfl rfl hl.1 rfl (lv_room (Nat.le_of_ble_eq_true rfl)) d_M_signed_85 ⟨Nat.le_of_ble_eq_true rfl, Nat.le_of_ble_eq_true rfl⟩) hlo (fun q h => by have h : q = o + 20 := h; rw [h]; exact ⟨by omega, by omega⟩) (fun H8 locs8 hB8 hlo => ?_)
        obtain ⟨hF8, f8, hf8, hN8⟩ := hB8
        have h_18 := hI_f h_18 hF8 (show o + 18 ≠ o + 20 by omega)
        have h_19 := hI_f h_19 hF8 (show o + 19 ≠ o + 20 by omega)
        have h_20 := hf8
        have h_21 := hI_f h_21 hF8 (show o + 21 ≠ o + 20 by omega)
        have h_22 := hI_f h_22 hF8 (show o + 22 ≠ o + 20 by omega)
        have h_23 := hI_f h_23 hF8 (show o + 23 ≠ o + 20 by omega)
        have h_24 := hI_f h_24 hF8 (show o + 24 ≠ o + 20 by omega)
        have h_X := hI_f h_X hF8 (show x ≠ o + 20 by omega)
        have h_Y := hI_f h_Y hF8 (show y ≠ o + 20 by omega)
        have hO := hO.f1 hF8 (by omega)
        have hG := MS1 hG hF8 (by omega)
        refine lv_iload hx hb d_M_signed_88 (lv_at hl 6 rfl) ?_
        refine lv_if_eq (tgt := 101) hx hb d_M_signed_90 (by decide) (fun h => absurd h (by decide)) (fun _ => ?_)
        refine lv_iload hx hb d_M_signed_93 (lv_at hl 1 rfl) ?_
        refine lv_if_eq (tgt := 113) hx hb d_M_signed_95 (by decide) (fun _ => ?_) (fun h => absurd (by decide) h)
        exact W.vret hx hb hr (fun t ht hW => ⟨rfl, by rw [ht]; exact hG, by rw [ht]; exact ⟨⟨_, h_18⟩, ⟨_, h_19⟩, ⟨_, h_20⟩, ⟨_, h_21, hN21⟩, ⟨_, h_22⟩, ⟨_, h_23⟩, ⟨_, h_24⟩⟩, _, by rw [ht]; exact h_20, by rw [if_neg (by decide)]; unfold srm; rw [if_neg hs1, if_neg (by omega)]; exact hN8⟩) hlo d_M_signed_113
set_option maxHeartbeats 4000000 in
set_option maxRecDepth 100000 in
theorem m_power (l : Launch) (D : va_G) (cJ cI cQ cR : ClassId) (o x y vx vy : Nat) (fl : Int32) (fx fy : Nat → Int32) (hxr : o + 2 ≤ x ∧ x < o + 18) (hyr : o + 2 ≤ y ∧ y < o + 18) (hvx : vx < 2 ^ 256) (hvy : vy < 2 ^ 256) (hNx : NI fx 8 vx) (hNy : NI fy 8 vy) : Met l y_M_power w_M_power { frames := 2, cells := 0, slots := 0, locals := 43 } (xP D vwCl (TY cJ cI cQ cR) [.ref o, .ref x, .ref y] (fun H => MB D cR o fl H ∧ SM cI o H ∧ hI H cI x 8 fx ∧ hI H cI y 8 fy)) (xQv (fun H0 H => XF (MS o) H0 H ∧ SM cI o H ∧ ∃ f : Nat → Int32, hI H cI (o + 20) 8 f ∧ NI f 8 (vx ^ vy % 2 ^ 256))) 0 0 (MS o) := by
  refine Met.ofW (cc := b_M_power) (maxL := 4) (ret := none) (by decide) rfl ?_
  intro p e s m args below meth c s₁ B hml hv
  obtain ⟨rfl, hK, ⟨hO, hSM, h_X, h_Y⟩⟩ := hv
  have hx := B.exec
  have hb := B.bytes
  have hr := B.returns
  have hts := atoms_spec (ws := w_M_power) B.pre
  have htw : ∀ w ∈ WT, w.before _ s = true := fun w h => hts w (List.mem_cons_of_mem _ h)
  have hown : s.vm.findClass "WideNumbersModel" = some m.cls := findClass_of_methodNamed B.named
  have hlocks := B.notSynchronized
  have hJ : ArrOfT s cJ .long := (hK.2 0 _ rfl).1
  have hI9 : ArrOfT s cI .int := (hK.2 1 _ rfl).1
  have hl := lv_entry ([.ref o, .ref x, .ref y]) (n := 4) (Nat.le_of_ble_eq_true rfl)
  rw [lg_entry_eq]
  generalize (lg_sl ([.ref o, .ref x, .ref y]) ++ List.replicate (4 - (lg_sl ([.ref o, .ref x, .ref y])).length) Slot.unset).toArray = ls at hl ⊢
  have hl : lv_has ls 4 [(0, .ref o), (1, .ref x), (2, .ref y)] := hl
  obtain ⟨⟨f18, h_18⟩, ⟨f19, h_19⟩, ⟨f20, h_20⟩, ⟨f21, h_21, hN21⟩, ⟨f22, h_22⟩, ⟨f23, h_23⟩, ⟨f24, h_24⟩⟩ := hSM
  have hG : XF (MS o) s.heap s.heap := XF.rf
  have hlo : ∀ q ∈ ([] : List Loc), MS o q.base := fun _ h => nomatch h
  refine lv_aload_n hx hb d_M_power_0 rfl (lv_at hl 0 rfl) ?_
  refine va_get (D := D) (ci := 1) (v := .ref (o + 20)) (C := "WideNumbersModel") (T := F_M) (N := 9) hx hb htw inM hown hK hO.1 0 rfl rfl 4 (by decide) (htw _ kw_280) (fun _ h9 => h9) rfl d_M_power_1 ?_
  refine lv_lconst (v := lN 1) hx hb d_M_power_4 (by decide) ?_
  refine x_callv (A := MS o) (va_runS (As := [.ref (o + 20), .long (lN 1)]) (rest := []) ⟨hx, hb, hml, hown, htw⟩ (m_setv l D cJ cI cQ cR (o + 20) 1 f20 (by decide)) (xcS 2 htw kw_385 kw_2 kw_383 kw_384 rfl rfl ⟨by decide, by decide, by decide +kernel⟩ ⟨Nat.le_of_ble_eq_true rfl, Nat.le_of_ble_eq_true rfl⟩) (xPre hK h_20) rfl rfl hl.1 rfl (lv_room (Nat.le_of_ble_eq_true rfl)) d_M_power_5 ⟨Nat.le_of_ble_eq_true rfl, Nat.le_of_ble_eq_true rfl⟩) hlo (fun q h => by have h : q = o + 20 := h; rw [h]; exact ⟨by omega, by omega⟩) (fun H1 locs1 hB1 hlo => ?_)
  obtain ⟨hF1, f1, hf1, hN1⟩ := hB1
  have h_18 := hI_f h_18 hF1 (show o + 18 ≠ o + 20 by omega)
  have h_19 := hI_f h_19 hF1 (show o + 19 ≠ o + 20 by omega)
  have h_20 := hf1
  have h_21 := hI_f h_21 hF1 (show o + 21 ≠ o + 20 by omega)
  have h_22 := hI_f h_22 hF1 (show o + 22 ≠ o + 20 by omega)
  have h_23 := hI_f h_23 hF1 (show o + 23 ≠ o + 20 by omega)
  have h_24 := hI_f h_24 hF1 (show o + 24 ≠ o + 20 by omega)
  have h_X := hI_f h_X hF1 (show x ≠ o + 20 by omega)
  have h_Y := hI_f h_Y hF1 (show y ≠ o + 20 by omega)
  have hO := hO.f1 hF1 (by omega)
  have hG := MS1 hG hF1 (by omega)
  refine lv_sipush (v := nI 256 - 1) hx hb d_M_power_8 (by decide) ?_
  refine lv_istore_n hx hb d_M_power_11 rfl hl (by decide) rfl (fun ls hl => ?_)
  have hl : lv_has ls 4 [(3, .int (nI 256 - 1)), (0, .ref o), (1, .ref x), (2, .ref y)] := hl
  have hl : lv_has ls 4 [(3, .int (nI 256 - 1)), (0, .ref o), (1, .ref x), (2, .ref y)] := lv_sub hl [0, 1, 2, 3] rfl
  refine x_loopD 12 (fun i H locs ls => i ≤ 256 ∧ ∃ f : Nat → Int32, lv_has ls 4 [(3, .int (nI i - 1)), (0, .ref o), (1, .ref x), (2, .ref y)] ∧ (∀ q ∈ locs, MS o q.base) ∧ XF (MS o) s.heap H ∧ MB D cR o fl H ∧ SM cI o H ∧ hI H cI x 8 fx ∧ hI H cI y 8 fy ∧ hI H cI (o + 20) 8 f ∧ NI f 8 (vx ^ (vy / 2 ^ i) % 2 ^ 256)) ?_ ?_ 256 _ _ _ ?_
  · intro i H locs ls ⟨hi, fr, hl, hlo, hG, hO, ⟨⟨f18, h_18⟩, ⟨f19, h_19⟩, _, ⟨f21, h_21, hN21⟩, ⟨f22, h_22⟩, ⟨f23, h_23⟩, ⟨f24, h_24⟩⟩, h_X, h_Y, h_20, hNr⟩ ih
    rw [nI_pred] at hl
    have hbit : vy / 2 ^ i % 2 ≤ 1 := by omega
    have hT := dv_b vy i
    generalize hbb : vy / 2 ^ i % 2 = b0 at hbit hT
    have hrl : vx ^ (vy / 2 ^ (i + 1)) % 2 ^ 256 < 2 ^ 256 := Nat.mod_lt _ (pw_pos 256)
    have hl : lv_has ls 4 [(3, .int (nI i)), (0, .ref o), (1, .ref x), (2, .ref y)] := hl
    refine lv_iload_n hx hb d_M_power_12 rfl (lv_at hl 0 rfl) ?_
    refine lv_if_lt (tgt := 76) hx hb d_M_power_13 (by decide) (fun hc => absurd hc (nI_pos (by omega))) (fun _ => ?_)
    refine lv_aload_n hx hb d_M_power_16 rfl (lv_at hl 1 rfl) ?_
    refine lv_aload_n hx hb d_M_power_17 rfl (lv_at hl 1 rfl) ?_
    refine va_get (D := D) (ci := 1) (v := .ref (o + 20)) (C := "WideNumbersModel") (T := F_M) (N := 9) hx hb htw inM hown hK hO.1 0 rfl rfl 4 (by decide) (htw _ kw_280) (fun _ h9 => h9) rfl d_M_power_18 ?_
    refine lv_aload_n hx hb d_M_power_21 rfl (lv_at hl 1 rfl) ?_
    refine va_get (D := D) (ci := 1) (v := .ref (o + 20)) (C := "WideNumbersModel") (T := F_M) (N := 9) hx hb htw inM hown hK hO.1 0 rfl rfl 4 (by decide) (htw _ kw_280) (fun _ h9 => h9) rfl d_M_power_22 ?_
    refine x_callv (A := MS o) (va_runV (As := [.ref (o + 20), .ref (o + 20)]) (rest := []) ⟨hx, hb, hml, hown, htw⟩ (m_multiply l D cJ cI cQ cR o (o + 20) (o + 20) (vx ^ (vy / 2 ^ (i + 1)) % 2 ^ 256) (vx ^ (vy / 2 ^ (i + 1)) % 2 ^ 256) fl f22 fr fr (by omega) (by omega) hrl hrl hNr hNr) (xcV 2 htw kw_352 kw_2 kw_349 kw_351 ks_M_multiply rfl rfl ⟨by decide, by decide, by decide +kernel⟩ ⟨Nat.le_of_ble_eq_true rfl, Nat.le_of_ble_eq_true rfl⟩) (xPreV hK (hO.rv hK) ⟨hO, h_22, h_20, h_20⟩) rfl rfl hl.1 rfl (lv_room (Nat.le_of_ble_eq_true rfl)) d_M_power_25 ⟨Nat.le_of_ble_eq_true rfl, Nat.le_of_ble_eq_true rfl⟩) hlo (fun q h => by have h : q = o + 22 := h; rw [h]; exact ⟨by omega, by omega⟩) (fun H2 locs2 hB2 hlo => ?_)
    obtain ⟨hF2, f2, hf2, hN2⟩ := hB2
    have h_18 := hI_f h_18 hF2 (show o + 18 ≠ o + 22 by omega)
    have h_19 := hI_f h_19 hF2 (show o + 19 ≠ o + 22 by omega)
    have h_20 := hI_f h_20 hF2 (show o + 20 ≠ o + 22 by omega)
    have h_21 := hI_f h_21 hF2 (show o + 21 ≠ o + 22 by omega)
    have h_22 := hf2
    have h_23 := hI_f h_23 hF2 (show o + 23 ≠ o + 22 by omega)
    have h_24 := hI_f h_24 hF2 (show o + 24 ≠ o + 22 by omega)
    have h_X := hI_f h_X hF2 (show x ≠ o + 22 by omega)
    have h_Y := hI_f h_Y hF2 (show y ≠ o + 22 by omega)
    have hO := hO.f1 hF2 (by omega)
    have hG := MS1 hG hF2 (by omega)
    refine lv_aload_n hx hb d_M_power_28 rfl (lv_at hl 1 rfl) ?_
    refine va_get (D := D) (ci := 1) (v := .ref (o + 20)) (C := "WideNumbersModel") (T := F_M) (N := 9) hx hb htw inM hown hK hO.1 0 rfl rfl 4 (by decide) (htw _ kw_280) (fun _ h9 => h9) rfl d_M_power_29 ?_
    refine lv_aload_n hx hb d_M_power_32 rfl (lv_at hl 1 rfl) ?_
    refine va_get (D := D) (ci := 1) (v := .ref (o + 22)) (C := "WideNumbersModel") (T := F_M) (N := 9) hx hb htw inM hown hK hO.1 0 rfl rfl 6 (by decide) (htw _ kw_282) (fun _ h9 => h9) rfl d_M_power_33 ?_
    refine x_callv (A := MS o) (va_runS (As := [.ref (o + 20), .ref (o + 22)]) (rest := []) ⟨hx, hb, hml, hown, htw⟩ (m_take l D cJ cI cQ cR (o + 20) (o + 22) 17 ((vx ^ (vy / 2 ^ (i + 1)) % 2 ^ 256) * (vx ^ (vy / 2 ^ (i + 1)) % 2 ^ 256)) fr f2 (by decide) (by omega) (fun j hj => hN2 j (by omega))) (xcS 2 htw kw_355 kw_2 kw_353 kw_354 rfl rfl ⟨by decide, by decide, by decide +kernel⟩ ⟨Nat.le_of_ble_eq_true rfl, Nat.le_of_ble_eq_true rfl⟩) (xPre hK ⟨h_20, h_22⟩) rfl rfl hl.1 rfl (lv_room (Nat.le_of_ble_eq_true rfl)) d_M_power_36 ⟨Nat.le_of_ble_eq_true rfl, Nat.le_of_ble_eq_true rfl⟩) hlo (fun q h => by have h : q = o + 20 := h; rw [h]; exact ⟨by omega, by omega⟩) (fun H3 locs3 hB3 hlo => ?_)
    obtain ⟨hF3, f3, hf3, hN3⟩ := hB3
    have hN3 := NI_m hN3
    rw [pw_sq] at hN3
    have h4l : vx ^ (2 * (vy / 2 ^ (i + 1))) % 2 ^ 256 < 2 ^ 256 := Nat.mod_lt _ (pw_pos 256)
    have h_18 := hI_f h_18 hF3 (show o + 18 ≠ o + 20 by omega)
    have h_19 := hI_f h_19 hF3 (show o + 19 ≠ o + 20 by omega)
    have h_20 := hf3
    have h_21 := hI_f h_21 hF3 (show o + 21 ≠ o + 20 by omega)
    have h_22 := hI_f h_22 hF3 (show o + 22 ≠ o + 20 by omega)
    have h_23 := hI_f h_23 hF3 (show o + 23 ≠ o + 20 by omega)
    have h_24 := hI_f h_24 hF3 (show o + 24 ≠ o + 20 by omega)
    have h_X := hI_f h_X hF3 (show x ≠ o + 20 by omega)
    have h_Y := hI_f h_Y hF3 (show y ≠ o + 20 by omega)
    have hO := hO.f1 hF3 (by omega)
    have hG := MS1 hG hF3 (by omega)
    refine lv_aload_n hx hb d_M_power_39 rfl (lv_at hl 3 rfl) ?_
    refine lv_iload_n hx hb d_M_power_40 rfl (lv_at hl 0 rfl) ?_
    refine x_calli (A := MS o) (va_runS (As := [.ref y, .int (nI i)]) (rest := []) ⟨hx, hb, hml, hown, htw⟩ (m_bit l D cJ cI cQ cR y 8 i vy fy (by decide) (by omega) hNy) (xcS 2 htw kw_388 kw_2 kw_386 kw_387 rfl rfl ⟨by decide, by decide, by decide +kernel⟩ ⟨Nat.le_of_ble_eq_true rfl, Nat.le_of_ble_eq_true rfl⟩) (xPre hK h_Y) rfl rfl hl.1 rfl (lv_room (Nat.le_of_ble_eq_true rfl)) d_M_power_41 ⟨Nat.le_of_ble_eq_true rfl, Nat.le_of_ble_eq_true rfl⟩) hlo (fun _ h => h.elim) (fun r4 H4 locs4 hB4 hlo => ?_)
    obtain ⟨rfl, rfl⟩ := hB4
    rw [hbb]
    refine lv_if_ne (tgt := 50) hx hb d_M_power_44 (by decide) (fun hc => ?_) (fun hc => ?_)
    · have hb1 : b0 = 1 := by
        have hne : b0 ≠ 0 := fun h => hc (by rw [h]; rfl)
        omega
      refine lv_aload_n hx hb d_M_power_50 rfl (lv_at hl 1 rfl) ?_
      refine lv_aload_n hx hb d_M_power_51 rfl (lv_at hl 1 rfl) ?_
      refine va_get (D := D) (ci := 1) (v := .ref (o + 20)) (C := "WideNumbersModel") (T := F_M) (N := 9) hx hb htw inM hown hK hO.1 0 rfl rfl 4 (by decide) (htw _ kw_280) (fun _ h9 => h9) rfl d_M_power_52 ?_
      refine lv_aload_n hx hb d_M_power_55 rfl (lv_at hl 2 rfl) ?_
      refine x_callv (A := MS o) (va_runV (As := [.ref (o + 20), .ref x]) (rest := []) ⟨hx, hb, hml, hown, htw⟩ (m_multiply l D cJ cI cQ cR o (o + 20) x (vx ^ (2 * (vy / 2 ^ (i + 1))) % 2 ^ 256) vx fl f2 f3 fx (by omega) (by omega) h4l hvx hN3 hNx) (xcV 2 htw kw_352 kw_2 kw_349 kw_351 ks_M_multiply rfl rfl ⟨by decide, by decide, by decide +kernel⟩ ⟨Nat.le_of_ble_eq_true rfl, Nat.le_of_ble_eq_true rfl⟩) (xPreV hK (hO.rv hK) ⟨hO, h_22, h_20, h_X⟩) rfl rfl hl.1 rfl (lv_room (Nat.le_of_ble_eq_true rfl)) d_M_power_56 ⟨Nat.le_of_ble_eq_true rfl, Nat.le_of_ble_eq_true rfl⟩) hlo (fun q h => by have h : q = o + 22 := h; rw [h]; exact ⟨by omega, by omega⟩) (fun H5 locs5 hB5 hlo => ?_)
      obtain ⟨hF5, f5, hf5, hN5⟩ := hB5
      have h_18 := hI_f h_18 hF5 (show o + 18 ≠ o + 22 by omega)
      have h_19 := hI_f h_19 hF5 (show o + 19 ≠ o + 22 by omega)
      have h_20 := hI_f h_20 hF5 (show o + 20 ≠ o + 22 by omega)
      have h_21 := hI_f h_21 hF5 (show o + 21 ≠ o + 22 by omega)
      have h_22 := hf5
      have h_23 := hI_f h_23 hF5 (show o + 23 ≠ o + 22 by omega)
      have h_24 := hI_f h_24 hF5 (show o + 24 ≠ o + 22 by omega)
      have h_X := hI_f h_X hF5 (show x ≠ o + 22 by omega)
      have h_Y := hI_f h_Y hF5 (show y ≠ o + 22 by omega)
      have hO := hO.f1 hF5 (by omega)
      have hG := MS1 hG hF5 (by omega)
      refine lv_aload_n hx hb d_M_power_59 rfl (lv_at hl 1 rfl) ?_
      refine va_get (D := D) (ci := 1) (v := .ref (o + 20)) (C := "WideNumbersModel") (T := F_M) (N := 9) hx hb htw inM hown hK hO.1 0 rfl rfl 4 (by decide) (htw _ kw_280) (fun _ h9 => h9) rfl d_M_power_60 ?_
      refine lv_aload_n hx hb d_M_power_63 rfl (lv_at hl 1 rfl) ?_
      refine va_get (D := D) (ci := 1) (v := .ref (o + 22)) (C := "WideNumbersModel") (T := F_M) (N := 9) hx hb htw inM hown hK hO.1 0 rfl rfl 6 (by decide) (htw _ kw_282) (fun _ h9 => h9) rfl d_M_power_64 ?_
      refine x_callv (A := MS o) (va_runS (As := [.ref (o + 20), .ref (o + 22)]) (rest := []) ⟨hx, hb, hml, hown, htw⟩ (m_take l D cJ cI cQ cR (o + 20) (o + 22) 17 (vx ^ (2 * (vy / 2 ^ (i + 1))) % 2 ^ 256 * vx) f3 f5 (by decide) (by omega) (fun j hj => hN5 j (by omega))) (xcS 2 htw kw_355 kw_2 kw_353 kw_354 rfl rfl ⟨by decide, by decide, by decide +kernel⟩ ⟨Nat.le_of_ble_eq_true rfl, Nat.le_of_ble_eq_true rfl⟩) (xPre hK ⟨h_20, h_22⟩) rfl rfl hl.1 rfl (lv_room (Nat.le_of_ble_eq_true rfl)) d_M_power_67 ⟨Nat.le_of_ble_eq_true rfl, Nat.le_of_ble_eq_true rfl⟩) hlo (fun q h => by have h : q = o + 20 := h; rw [h]; exact ⟨by omega, by omega⟩) (fun H6 locs6 hB6 hlo => ?_)
      obtain ⟨hF6, f6, hf6, hN6⟩ := hB6
      have hN6 := NI_m hN6
      rw [pw_sq1] at hN6
      have h_18 := hI_f h_18 hF6 (show o + 18 ≠ o + 20 by omega)
      have h_19 := hI_f h_19 hF6 (show o + 19 ≠ o + 20 by omega)
      have h_20 := hf6
      have h_21 := hI_f h_21 hF6 (show o + 21 ≠ o + 20 by omega)
      have h_22 := hI_f h_22 hF6 (show o + 22 ≠ o + 20 by omega)
      have h_23 := hI_f h_23 hF6 (show o + 23 ≠ o + 20 by omega)
      have h_24 := hI_f h_24 hF6 (show o + 24 ≠ o + 20 by omega)
      have h_X := hI_f h_X hF6 (show x ≠ o + 20 by omega)
      have h_Y := hI_f h_Y hF6 (show y ≠ o + 20 by omega)
      have hO := hO.f1 hF6 (by omega)
      have hG := MS1 hG hF6 (by omega)
      refine lv_iinc (v := nI i - 1) (k := 0) hx hb d_M_power_70 hl rfl (by rw [Int32.sub_eq_add_neg]; rfl) (by decide) rfl (fun ls hl => ?_)
      have hl : lv_has ls 4 [(3, .int (nI i - 1)), (0, .ref o), (1, .ref x), (2, .ref y)] := hl
      refine lv_goto (tgt := 12) hx hb d_M_power_73 (by decide) ?_
      have hl : lv_has ls 4 [(3, .int (nI i - 1)), (0, .ref o), (1, .ref x), (2, .ref y)] := lv_sub hl [0, 1, 2, 3] rfl
      exact ih _ _ ls ⟨by omega, f6, hl, hlo, hG, hO, ⟨⟨_, h_18⟩, ⟨_, h_19⟩, ⟨_, h_20⟩, ⟨_, h_21, hN21⟩, ⟨_, h_22⟩, ⟨_, h_23⟩, ⟨_, h_24⟩⟩, h_X, h_Y, h_20, by rw [hT, hb1]; exact hN6⟩
    · have hb0 : b0 = 0 := (nI_eq (by omega) (by decide)).mp (hc.trans nI_0.symm)
      refine lv_goto (tgt := 70) hx hb d_M_power_47 (by decide) ?_
      refine lv_iinc (v := nI i - 1) (k := 0) hx hb d_M_power_70 hl rfl (by rw [Int32.sub_eq_add_neg]; rfl) (by decide) rfl (fun ls hl => ?_)
      have hl : lv_has ls 4 [(3, .int (nI i - 1)), (0, .ref o), (1, .ref x), (2, .ref y)] := hl
      refine lv_goto (tgt := 12) hx hb d_M_power_73 (by decide) ?_
      have hl : lv_has ls 4 [(3, .int (nI i - 1)), (0, .ref o), (1, .ref x), (2, .ref y)] := lv_sub hl [0, 1, 2, 3] rfl
      exact ih _ _ ls ⟨by omega, f3, hl, hlo, hG, hO, ⟨⟨_, h_18⟩, ⟨_, h_19⟩, ⟨_, h_20⟩, ⟨_, h_21, hN21⟩, ⟨_, h_22⟩, ⟨_, h_23⟩, ⟨_, h_24⟩⟩, h_X, h_Y, h_20, by rw [hT, hb0]; exact hN3⟩
  · intro H locs ls ⟨hi, fr, hl, hlo, hG, hO, hSM, h_X, h_Y, h_20, hNr⟩
    refine lv_iload_n hx hb d_M_power_12 rfl (lv_at hl 0 rfl) ?_
    refine lv_if_lt (tgt := 76) hx hb d_M_power_13 (by decide) (fun _ => ?_) (fun hc => absurd (by decide) hc)
    rw [Nat.pow_zero, Nat.div_one] at hNr
    exact W.vret hx hb hr (fun t ht hW => ⟨rfl, by rw [ht]; exact hG, by rw [ht]; exact hSM, fr, by rw [ht]; exact h_20, hNr⟩) hlo d_M_power_76
  · exact ⟨Nat.le_refl _, _, hl, hlo, hG, hO, ⟨⟨_, h_18⟩, ⟨_, h_19⟩, ⟨_, h_20⟩, ⟨_, h_21, hN21⟩, ⟨_, h_22⟩, ⟨_, h_23⟩, ⟨_, h_24⟩⟩, h_X, h_Y, h_20, by rw [Nat.div_eq_of_lt hvy, Nat.pow_zero]; exact hN1⟩
set_option maxHeartbeats 4000000 in
set_option maxRecDepth 100000 in
theorem m_extend (l : Launch) (D : va_G) (cJ cI cQ cR : ClassId) (o x y vx vy : Nat) (fl : Int32) (fx fy : Nat → Int32) (hxr : o + 2 ≤ x ∧ x < o + 18) (hyr : o + 2 ≤ y ∧ y < o + 18) (hvx : vx < 2 ^ 256) (hvy : vy < 2 ^ 256) (hNx : NI fx 8 vx) (hNy : NI fy 8 vy) : Met l y_M_extend w_M_extend { frames := 1, cells := 0, slots := 0, locals := 24 } (xP D vwCl (TY cJ cI cQ cR) [.ref o, .ref x, .ref y] (fun H => MB D cR o fl H ∧ SM cI o H ∧ hI H cI x 8 fx ∧ hI H cI y 8 fy)) (xQv (fun H0 H => XF (MS o) H0 H ∧ SM cI o H ∧ ∃ f : Nat → Int32, hI H cI (o + 20) 8 f ∧ NI f 8 (opv 8 vx vy))) 0 0 (MS o) := by
  refine Met.ofW (cc := b_M_extend) (maxL := 8) (ret := none) (by decide) rfl ?_
  intro p e s m args below meth c s₁ B hml hv
  obtain ⟨rfl, hK, ⟨hO, hSM, h_X, h_Y⟩⟩ := hv
  have hx := B.exec
  have hb := B.bytes
  have hr := B.returns
  have hts := atoms_spec (ws := w_M_extend) B.pre
  have htw : ∀ w ∈ WT, w.before _ s = true := fun w h => hts w (List.mem_cons_of_mem _ h)
  have hown : s.vm.findClass "WideNumbersModel" = some m.cls := findClass_of_methodNamed B.named
  have hlocks := B.notSynchronized
  have hJ : ArrOfT s cJ .long := (hK.2 0 _ rfl).1
  have hI9 : ArrOfT s cI .int := (hK.2 1 _ rfl).1
  have hl := lv_entry ([.ref o, .ref x, .ref y]) (n := 8) (Nat.le_of_ble_eq_true rfl)
  rw [lg_entry_eq]
  generalize (lg_sl ([.ref o, .ref x, .ref y]) ++ List.replicate (8 - (lg_sl ([.ref o, .ref x, .ref y])).length) Slot.unset).toArray = ls at hl ⊢
  have hl : lv_has ls 8 [(0, .ref o), (1, .ref x), (2, .ref y)] := hl
  obtain ⟨⟨f18, h_18⟩, ⟨f19, h_19⟩, ⟨f20, h_20⟩, ⟨f21, h_21, hN21⟩, ⟨f22, h_22⟩, ⟨f23, h_23⟩, ⟨f24, h_24⟩⟩ := hSM
  have hG : XF (MS o) s.heap s.heap := XF.rf
  have hlo : ∀ q ∈ ([] : List Loc), MS o q.base := fun _ h => nomatch h
  refine lv_aload_n hx hb d_M_extend_0 rfl (lv_at hl 0 rfl) ?_
  refine va_get (D := D) (ci := 1) (v := .ref (o + 20)) (C := "WideNumbersModel") (T := F_M) (N := 9) hx hb htw inM hown hK hO.1 0 rfl rfl 4 (by decide) (htw _ kw_280) (fun _ h9 => h9) rfl d_M_extend_1 ?_
  refine lv_aload_n hx hb d_M_extend_4 rfl (lv_at hl 2 rfl) ?_
  refine x_callv (A := MS o) (va_runS (As := [.ref (o + 20), .ref y]) (rest := []) ⟨hx, hb, hml, hown, htw⟩ (m_copy l D cJ cI cQ cR (o + 20) y 8 vy f20 fy (by decide) (by omega) hNy) (xcS 2 htw kw_374 kw_2 kw_372 kw_373 rfl rfl ⟨by decide, by decide, by decide +kernel⟩ ⟨Nat.le_of_ble_eq_true rfl, Nat.le_of_ble_eq_true rfl⟩) (xPre hK ⟨h_20, h_Y⟩) rfl rfl hl.1 rfl (lv_room (Nat.le_of_ble_eq_true rfl)) d_M_extend_5 ⟨Nat.le_of_ble_eq_true rfl, Nat.le_of_ble_eq_true rfl⟩) hlo (fun q h => by have h : q = o + 20 := h; rw [h]; exact ⟨by omega, by omega⟩) (fun H1 locs1 hB1 hlo => ?_)
  obtain ⟨hF1, f1, hf1, hN1⟩ := hB1
  have h_18 := hI_f h_18 hF1 (show o + 18 ≠ o + 20 by omega)
  have h_19 := hI_f h_19 hF1 (show o + 19 ≠ o + 20 by omega)
  have h_20 := hf1
  have h_21 := hI_f h_21 hF1 (show o + 21 ≠ o + 20 by omega)
  have h_22 := hI_f h_22 hF1 (show o + 22 ≠ o + 20 by omega)
  have h_23 := hI_f h_23 hF1 (show o + 23 ≠ o + 20 by omega)
  have h_24 := hI_f h_24 hF1 (show o + 24 ≠ o + 20 by omega)
  have h_X := hI_f h_X hF1 (show x ≠ o + 20 by omega)
  have h_Y := hI_f h_Y hF1 (show y ≠ o + 20 by omega)
  have hO := hO.f1 hF1 (by omega)
  have hG := MS1 hG hF1 (by omega)
  refine lv_aload_n hx hb d_M_extend_8 rfl (lv_at hl 1 rfl) ?_
  refine lv_ldc2 (v := (31 : Int64)) hx hb hown (htw _ kw_393) d_M_extend_9 ?_
  refine x_topl (v := lN 31) (rfl) ?_
  refine x_calll (A := MS o) (va_runS (As := [.ref x, .long (lN 31)]) (rest := []) ⟨hx, hb, hml, hown, htw⟩ (m_small l D cJ cI cQ cR x vx 31 fx hvx (by decide) hNx) (xcS 2 htw kw_396 kw_2 kw_394 kw_395 rfl rfl ⟨by decide, by decide, by decide +kernel⟩ ⟨Nat.le_of_ble_eq_true rfl, Nat.le_of_ble_eq_true rfl⟩) (xPre hK h_X) rfl rfl hl.1 rfl (lv_room (Nat.le_of_ble_eq_true rfl)) d_M_extend_12 ⟨Nat.le_of_ble_eq_true rfl, Nat.le_of_ble_eq_true rfl⟩) hlo (fun _ h => h.elim) (fun r2 H2 locs2 hB2 hlo => ?_)
  obtain ⟨rfl, rfl⟩ := hB2
  obtain ⟨n, hn⟩ : ∃ n, n = (if vx ≤ 31 then vx else 31 + 1) := ⟨_, rfl⟩
  rw [← hn]
  have hnc : n = vx ∧ vx ≤ 31 ∨ n = 32 ∧ 31 < vx := by
    by_cases h : vx ≤ 31
    · rw [if_pos h] at hn
      exact Or.inl ⟨hn, h⟩
    · rw [if_neg h] at hn
      exact Or.inr ⟨hn, by omega⟩
  refine lv_lstore_n hx hb d_M_extend_15 rfl hl (by decide) rfl (fun ls hl => ?_)
  have hl : lv_has ls 8 [(3, .long (lN n)), (0, .ref o), (1, .ref x), (2, .ref y)] := hl
  refine lv_lload_n hx hb d_M_extend_16 rfl (lv_at hl 0 rfl) ?_
  refine lv_ldc2 (v := (30 : Int64)) hx hb hown (htw _ kw_397) d_M_extend_17 ?_
  refine x_topl (v := lN 30) (rfl) ?_
  refine W.lcmp hx hb d_M_extend_20 ?_
  refine lv_if_le (tgt := 25) hx hb d_M_extend_21 (by decide) (fun hc => ?_) (fun hc => ?_)
  · have hle : n ≤ 30 := Nat.le_of_not_lt (fun h => absurd ((lg_cmp_le _ _).mp hc) (Int64.not_le.mpr ((jN_lt (by decide) (by omega)).mpr h)))
    have hnv : n = vx := by omega
    refine lv_bipush (v := nI 8) hx hb d_M_extend_25 (by decide) ?_
    refine lv_lload_n hx hb d_M_extend_27 rfl (lv_at hl 0 rfl) ?_
    refine lv_l2i (v := nI n) hx hb d_M_extend_28 (lN_i _) ?_
    refine lv_imul hx hb d_M_extend_29 ?_
    refine x_topi (v := nI (8 * n)) (pk_mul _ _) ?_
    refine lv_bipush (v := nI 7) hx hb d_M_extend_30 (by decide) ?_
    refine lv_iadd hx hb d_M_extend_32 ?_
    refine x_topi (v := nI (8 * n + 7)) (nI_add _ _) ?_
    refine lv_istore hx hb d_M_extend_33 hl (by decide) rfl (fun ls hl => ?_)
    have hl : lv_has ls 8 [(5, .int (nI (8 * n + 7))), (3, .long (lN n)), (0, .ref o), (1, .ref x), (2, .ref y)] := hl
    refine lv_aload_n hx hb d_M_extend_35 rfl (lv_at hl 4 rfl) ?_
    refine lv_iload hx hb d_M_extend_36 (lv_at hl 0 rfl) ?_
    refine x_calli (A := MS o) (va_runS (As := [.ref y, .int (nI (8 * n + 7))]) (rest := []) ⟨hx, hb, hml, hown, htw⟩ (m_bit l D cJ cI cQ cR y 8 (8 * n + 7) vy fy (by decide) (by omega) hNy) (xcS 2 htw kw_388 kw_2 kw_386 kw_387 rfl rfl ⟨by decide, by decide, by decide +kernel⟩ ⟨Nat.le_of_ble_eq_true rfl, Nat.le_of_ble_eq_true rfl⟩) (xPre hK h_Y) rfl rfl hl.1 rfl (lv_room (Nat.le_of_ble_eq_true rfl)) d_M_extend_38 ⟨Nat.le_of_ble_eq_true rfl, Nat.le_of_ble_eq_true rfl⟩) hlo (fun _ h => h.elim) (fun r3 H3 locs3 hB3 hlo => ?_)
    obtain ⟨rfl, rfl⟩ := hB3
    obtain ⟨sg, hsg⟩ : ∃ sg, sg = vy / 2 ^ (8 * n + 7) % 2 := ⟨_, rfl⟩
    rw [← hsg]
    have hsg1 : sg ≤ 1 := by omega
    have hsgb : decide (sg = 1) = vy.testBit (8 * n + 7) := by rw [hsg, tb_1]
    refine lv_istore hx hb d_M_extend_41 hl (by decide) rfl (fun ls hl => ?_)
    have hl : lv_has ls 8 [(6, .int (nI sg)), (5, .int (nI (8 * n + 7))), (3, .long (lN n)), (0, .ref o), (1, .ref x), (2, .ref y)] := hl
    refine lv_iload hx hb d_M_extend_43 (lv_at hl 1 rfl) ?_
    refine lv_iconst (v := nI 1) hx hb d_M_extend_45 (by decide) ?_
    refine lv_iadd hx hb d_M_extend_46 ?_
    refine x_topi (v := nI (8 * n + 7 + 1)) (nI_1 _) ?_
    refine lv_istore hx hb d_M_extend_47 hl (by decide) rfl (fun ls hl => ?_)
    have hl : lv_has ls 8 [(7, .int (nI (8 * n + 7 + 1))), (6, .int (nI sg)), (5, .int (nI (8 * n + 7))), (3, .long (lN n)), (0, .ref o), (1, .ref x), (2, .ref y)] := hl
    have hl : lv_has ls 8 [(7, .int (nI (8 * n + 7 + 1))), (6, .int (nI sg)), (0, .ref o)] := lv_sub hl [0, 1, 4] rfl
    refine x_loop 49 (fun i H locs ls => ∃ f : Nat → Int32, lv_has ls 8 [(7, .int (nI i)), (6, .int (nI sg)), (0, .ref o)] ∧ 8 * n + 8 ≤ i ∧ (∀ q ∈ locs, MS o q.base) ∧ XF (fun q => q = o + 20) H3 H ∧ hI H cI (o + 20) 8 f ∧ BT f (fun q => if 8 * n + 8 ≤ q ∧ q < i then vy.testBit (8 * n + 7) else vy.testBit q)) 256 ?_ ?_ (8 * n + 8) _ _ _ (by omega) ?_
    · intro i H locs ls hi ⟨f, hl, hni, hlo, hF, hf, hBT⟩ ih
      have hO := hO.f1 hF (by omega)
      obtain ⟨d, hd, hfd, hdb⟩ := hBT (i / 32) (by omega)
      refine lv_iload hx hb d_M_extend_49 (lv_at hl 0 rfl) ?_
      refine lv_sipush (v := nI 256) hx hb d_M_extend_51 (by decide) ?_
      refine lv_icmp_ge (tgt := 100) hx hb d_M_extend_54 (by decide) (fun hc => absurd hc (nI_ge (by omega) (by omega))) (fun _ => ?_)
      refine lv_aload_n hx hb d_M_extend_57 rfl (lv_at hl 2 rfl) ?_
      refine va_get (D := D) (ci := 1) (v := .ref (o + 20)) (C := "WideNumbersModel") (T := F_M) (N := 9) hx hb htw inM hown hK hO.1 0 rfl rfl 4 (by decide) (htw _ kw_280) (fun _ h9 => h9) rfl d_M_extend_58 ?_
      refine lv_iload hx hb d_M_extend_61 (lv_at hl 0 rfl) ?_
      refine lv_iconst (v := nI 5) hx hb d_M_extend_63 (by decide) ?_
      refine lv_ishr hx hb d_M_extend_64 ?_
      refine x_topi (v := nI (i / 32)) (iN_shr5 (by omega)) ?_
      refine lv_aload_n hx hb d_M_extend_65 rfl (lv_at hl 2 rfl) ?_
      refine va_get (D := D) (ci := 1) (v := .ref (o + 20)) (C := "WideNumbersModel") (T := F_M) (N := 9) hx hb htw inM hown hK hO.1 0 rfl rfl 4 (by decide) (htw _ kw_280) (fun _ h9 => h9) rfl d_M_extend_66 ?_
      refine lv_iload hx hb d_M_extend_69 (lv_at hl 0 rfl) ?_
      refine lv_iconst (v := nI 5) hx hb d_M_extend_71 (by decide) ?_
      refine lv_ishr hx hb d_M_extend_72 ?_
      refine x_topi (v := nI (i / 32)) (iN_shr5 (by omega)) ?_
      refine x_iald hx hb hI9 hf (i / 32) (rfl) (by omega) (by omega) (v := nI d) (hfd) d_M_extend_73 ?_
      refine lv_iconst (v := nI 1) hx hb d_M_extend_74 (by decide) ?_
      refine lv_iload hx hb d_M_extend_75 (lv_at hl 0 rfl) ?_
      refine lv_bipush (v := nI 31) hx hb d_M_extend_77 (by decide) ?_
      refine lv_iand hx hb d_M_extend_79 ?_
      refine x_topi (v := nI (i % 32)) (iN_and31 (by omega)) ?_
      refine lv_ishl hx hb d_M_extend_80 ?_
      refine x_topi (v := nI (2 ^ (i % 32))) (by rw [iN_shl 1 (by omega), Nat.one_mul]) ?_
      refine lv_iconst (v := -1) hx hb d_M_extend_81 (by decide) ?_
      refine lv_ixor hx hb d_M_extend_82 ?_
      refine x_topi (v := nI (2 ^ (i % 32) ^^^ 4294967295)) (by rw [show (-1 : Int32) = nI 4294967295 from by decide, iN_xor]) ?_
      refine lv_iand hx hb d_M_extend_83 ?_
      refine x_topi (v := nI (d &&& (2 ^ (i % 32) ^^^ 4294967295))) (iN_and _ _) ?_
      refine lv_iload hx hb d_M_extend_84 (lv_at hl 1 rfl) ?_
      refine lv_iload hx hb d_M_extend_86 (lv_at hl 0 rfl) ?_
      refine lv_bipush (v := nI 31) hx hb d_M_extend_88 (by decide) ?_
      refine lv_iand hx hb d_M_extend_90 ?_
      refine x_topi (v := nI (i % 32)) (iN_and31 (by omega)) ?_
      refine lv_ishl hx hb d_M_extend_91 ?_
      refine x_topi (v := nI (sg * 2 ^ (i % 32))) (iN_shl _ (by omega)) ?_
      refine lv_ior hx hb d_M_extend_92 ?_
      refine x_topi (v := nI ((d &&& (2 ^ (i % 32) ^^^ 4294967295)) ||| sg * 2 ^ (i % 32))) (iN_or _ _) ?_
      refine x_iast (A := MS o) hx hb hI9 hf hlo (⟨by omega, by omega⟩) (i / 32) (rfl) (by omega) (by omega) d_M_extend_93 (fun H4 locs4 h4 hF4 hlo4 => ?_)
      refine lv_iinc (v := nI (i + 1)) (k := 0) hx hb d_M_extend_94 hl rfl (nI_1 i) (by decide) rfl (fun ls hl => ?_)
      have hl : lv_has ls 8 [(7, .int (nI (i + 1))), (6, .int (nI sg)), (0, .ref o)] := hl
      refine lv_goto (tgt := 49) hx hb d_M_extend_97 (by decide) ?_
      have hl : lv_has ls 8 [(7, .int (nI (i + 1))), (6, .int (nI sg)), (0, .ref o)] := lv_sub hl [0, 1, 2] rfl
      have hm := Nat.mod_lt i (show 0 < 32 by decide)
      have hp31 : 2 ^ (i % 32) < 4294967296 := Nat.lt_of_le_of_lt (pw_le (show i % 32 ≤ 31 by omega)) (by decide)
      refine ih H4 locs4 ls ⟨_, hl, by omega, hlo4, hF.tr hF4 (fun _ h => h), h4, BT_put hBT (or_lt32 (and_lt32 (xor_lt32 hp31 (by decide))) (b_lt32 hsg1 hm)) (fun t ht => ?_) (fun q hq hne => ?_)⟩
      · rw [set_bit hm ht hsg1]
        by_cases ht2 : t = i % 32
        · rw [if_pos ht2, if_pos (by omega), hsgb]
        · rw [if_neg ht2, hdb t ht]
          try dsimp only
          by_cases h9 : 8 * n + 8 ≤ 32 * (i / 32) + t ∧ 32 * (i / 32) + t < i
          · rw [if_pos h9, if_pos (by omega)]
          · rw [if_neg h9, if_neg (by omega)]
      · try dsimp only
        by_cases h9 : 8 * n + 8 ≤ q ∧ q < i
        · rw [if_pos h9, if_pos (by omega)]
        · rw [if_neg h9, if_neg (by omega)]
    · intro H locs ls ⟨f, hl, hni, hlo, hF, hf, hBT⟩
      refine lv_iload hx hb d_M_extend_49 (lv_at hl 0 rfl) ?_
      refine lv_sipush (v := nI 256) hx hb d_M_extend_51 (by decide) ?_
      refine lv_icmp_ge (tgt := 100) hx hb d_M_extend_54 (by decide) (fun _ => ?_) (fun hc => absurd (nI_le (Nat.le_refl _) (by omega)) hc)
      have h_18 := hI_f h_18 hF (show o + 18 ≠ o + 20 by omega)
      have h_19 := hI_f h_19 hF (show o + 19 ≠ o + 20 by omega)
      have h_20 := hf
      have h_21 := hI_f h_21 hF (show o + 21 ≠ o + 20 by omega)
      have h_22 := hI_f h_22 hF (show o + 22 ≠ o + 20 by omega)
      have h_23 := hI_f h_23 hF (show o + 23 ≠ o + 20 by omega)
      have h_24 := hI_f h_24 hF (show o + 24 ≠ o + 20 by omega)
      have h_X := hI_f h_X hF (show x ≠ o + 20 by omega)
      have h_Y := hI_f h_Y hF (show y ≠ o + 20 by omega)
      have hO := hO.f1 hF (by omega)
      have hG := MS1 hG hF (by omega)
      exact W.vret hx hb hr (fun t ht hW => ⟨rfl, by rw [ht]; exact hG, by rw [ht]; exact ⟨⟨_, h_18⟩, ⟨_, h_19⟩, ⟨_, h_20⟩, ⟨_, h_21, hN21⟩, ⟨_, h_22⟩, ⟨_, h_23⟩, ⟨_, h_24⟩⟩, _, by rw [ht]; exact h_20, BT_NI hBT (fun q hq => by
        rw [← hnv, ext_tb hle hq]
        try dsimp only
        by_cases h9 : q < 8 * n + 8
        · rw [if_pos h9, if_neg (by omega)]
        · rw [if_neg h9, if_pos (by omega)])⟩) hlo d_M_extend_100
    · refine ⟨f1, hl, Nat.le_refl _, hlo, XF.rf, h_20, fun j hj => ?_⟩
      obtain ⟨d, h1, h2, h3⟩ := NI_BT hN1 j hj
      exact ⟨d, h1, h2, fun t ht => by
        rw [h3 t ht]
        try dsimp only
        rw [if_neg (by omega)]⟩
  · have hgt : 31 ≤ vx := Nat.le_of_not_lt (fun h => hc ((lg_cmp_le _ _).mpr (Int64.not_lt.mp (fun z => absurd ((jN_lt (by decide) (by omega)).mp z) (by omega)))))
    exact W.vret hx hb hr (fun t ht hW => ⟨rfl, by rw [ht]; exact hG, by rw [ht]; exact ⟨⟨_, h_18⟩, ⟨_, h_19⟩, ⟨_, h_20⟩, ⟨_, h_21, hN21⟩, ⟨_, h_22⟩, ⟨_, h_23⟩, ⟨_, h_24⟩⟩, _, by rw [ht]; exact h_20, by rw [ext_big hgt hvy]; exact hN1⟩) hlo d_M_extend_24
