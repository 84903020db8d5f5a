-- contract of the reference: modular
set_option maxHeartbeats 4000000 in
set_option maxRecDepth 100000 in
theorem m_modular (l : Launch) (D : va_G) (cJ cI cQ cR : ClassId) (o : Nat) (fl : Int32) (V : Nat → Nat) (hV : ∀ r, r < 16 → V r < 2 ^ 256) (to a b c1 z : Int32) : Met l y_M_modular w_M_modular { frames := 1, cells := 0, slots := 0, locals := 28 } (xP D vwCl (TY cJ cI cQ cR) [.ref o, .int to, .int a, .int b, .int c1, .int z] (fun H => MO D cI cR o fl V H)) (xQv (fun H0 H => XF (MA o) H0 H ∧ ((∃ kt ka kb kc : Nat, kt < 16 ∧ to = nI kt ∧ ka < 16 ∧ a = nI ka ∧ kb < 16 ∧ b = nI kb ∧ kc < 16 ∧ c1 = nI kc ∧ MO D cI cR o (nI 0) (va_up V kt (mdv z (V ka) (V kb) (V kc))) H) ∨ (¬ (vd to 16 ∧ vd a 16 ∧ vd b 16 ∧ vd c1 16) ∧ MO D cI cR o (nI 1) V H)))) 0 0 (MA o) := by
  refine Met.ofW (cc := b_M_modular) (maxL := 8) (ret := none) (by decide) rfl ?_
  intro p e s m args below meth c s₁ B hml hv
  obtain ⟨rfl, hK, ⟨hO, hSM, hR⟩⟩ := hv
  have hx := B.exec
  have hb := B.bytes
  have hr := B.returns
  have hts := atoms_spec (ws := w_M_modular) B.pre
  have htw : ∀ w ∈ WT, w.before _ s = true := fun w h => hts w (List.mem_cons_of_mem _ h)
  have hown : s.vm.findClass "WideNumbersModel" = some m.cls := findClass_of_methodNamed B.named
  have hlocks := B.notSynchronized
  have hJ : ArrOfT s cJ .long := (hK.2 0 _ rfl).1
  have hI9 : ArrOfT s cI .int := (hK.2 1 _ rfl).1
  have hl := lv_entry ([.ref o, .int to, .int a, .int b, .int c1, .int z]) (n := 8) (Nat.le_of_ble_eq_true rfl)
  rw [lg_entry_eq]
  generalize (lg_sl ([.ref o, .int to, .int a, .int b, .int c1, .int z]) ++ List.replicate (8 - (lg_sl ([.ref o, .int to, .int a, .int b, .int c1, .int z])).length) Slot.unset).toArray = ls at hl ⊢
  have hl : lv_has ls 8 [(0, .ref o), (1, .int to), (2, .int a), (3, .int b), (4, .int c1), (5, .int z)] := hl
  have hR9 : ArrOfT s cR (.array .int) := (hK.2 3 _ rfl).1
  refine lv_aload_n hx hb d_M_modular_0 rfl (lv_at hl 0 rfl) ?_
  refine lv_iconst (v := nI 0) hx hb d_M_modular_1 (by decide) ?_
  refine x_fail hx hb htw hown hK hO (fun _ h => nomatch h) d_M_modular_2 (fun H1 locs1 hO hF1 hlo => ?_)
  have hSM := hSM.f1 hF1 (by omega)
  have hR := hR.f0 hF1
  refine lv_aload_n hx hb d_M_modular_5 rfl (lv_at hl 0 rfl) ?_
  refine lv_iload_n hx hb d_M_modular_6 rfl (lv_at hl 1 rfl) ?_
  refine x_calli (A := fun q => q = o) (va_runV (As := [.int to]) (rest := []) ⟨hx, hb, hml, hown, htw⟩ (m_out l D cJ cI cQ cR o to) (xcV 1 htw kw_316 kw_2 kw_313 kw_315 ks_M_out rfl rfl ⟨by decide, by decide, by decide +kernel⟩ ⟨Nat.le_of_ble_eq_true rfl, Nat.le_of_ble_eq_true rfl⟩) (xPreV hK (hO.rv hK) trivial) rfl rfl hl.1 rfl (lv_room (Nat.le_of_ble_eq_true rfl)) d_M_modular_7 ⟨Nat.le_of_ble_eq_true rfl, Nat.le_of_ble_eq_true rfl⟩) hlo (fun _ h => h.elim) (fun x9 H9 locs9 hB9 hlo => ?_)
  obtain ⟨rfl, hB9⟩ := hB9
  rcases hB9.symm with ⟨rfl, hinv⟩ | ⟨rfl, kt, hkt, rfl⟩
  · refine x_topi (v := nI 1) (rfl) ?_
    refine lv_if_ne (tgt := 38) hx hb d_M_modular_10 (by decide) (fun _ => ?_) (fun h => absurd h (by decide))
    refine lv_aload_n hx hb d_M_modular_38 rfl (lv_at hl 0 rfl) ?_
    refine lv_iconst (v := nI 1) hx hb d_M_modular_39 (by decide) ?_
    refine x_fail hx hb htw hown hK hO hlo d_M_modular_40 (fun H2 locs2 hO hF2 hlo => ?_)
    have hSM := hSM.f1 hF2 (by omega)
    have hR := hR.f0 hF2
    refine lv_goto (tgt := 215) hx hb d_M_modular_43 (by decide) ?_
    exact W.vret hx hb hr (fun t ht hW => ⟨rfl, by rw [ht]; exact MA0 (hF1.tr hF2 (fun _ h => h)), Or.inr ⟨fun h => hinv h.1, by rw [ht]; exact ⟨hO, hSM, hR⟩⟩⟩) (MAlo hlo) d_M_modular_215
  refine x_topi (v := nI 0) (rfl) ?_
  refine lv_if_ne (tgt := 38) hx hb d_M_modular_10 (by decide) (fun h => absurd (by decide) h) (fun _ => ?_)
  have hl : lv_has ls 8 [(0, .ref o), (1, .int (nI kt)), (2, .int a), (3, .int b), (4, .int c1), (5, .int z)] := hl
  refine lv_aload_n hx hb d_M_modular_13 rfl (lv_at hl 0 rfl) ?_
  refine lv_iload_n hx hb d_M_modular_14 rfl (lv_at hl 2 rfl) ?_
  refine x_calli (A := fun q => q = o) (va_runV (As := [.int a]) (rest := []) ⟨hx, hb, hml, hown, htw⟩ (m_out l D cJ cI cQ cR o a) (xcV 1 htw kw_316 kw_2 kw_313 kw_315 ks_M_out rfl rfl ⟨by decide, by decide, by decide +kernel⟩ ⟨Nat.le_of_ble_eq_true rfl, Nat.le_of_ble_eq_true rfl⟩) (xPreV hK (hO.rv hK) trivial) rfl rfl hl.1 rfl (lv_room (Nat.le_of_ble_eq_true rfl)) d_M_modular_15 ⟨Nat.le_of_ble_eq_true rfl, Nat.le_of_ble_eq_true rfl⟩) hlo (fun _ h => h.elim) (fun x9 H9 locs9 hB9 hlo => ?_)
  obtain ⟨rfl, hB9⟩ := hB9
  rcases hB9.symm with ⟨rfl, hinv⟩ | ⟨rfl, ka, hka, rfl⟩
  · refine x_topi (v := nI 1) (rfl) ?_
    refine lv_if_ne (tgt := 38) hx hb d_M_modular_18 (by decide) (fun _ => ?_) (fun h => absurd h (by decide))
    refine lv_aload_n hx hb d_M_modular_38 rfl (lv_at hl 0 rfl) ?_
    refine lv_iconst (v := nI 1) hx hb d_M_modular_39 (by decide) ?_
    refine x_fail hx hb htw hown hK hO hlo d_M_modular_40 (fun H2 locs2 hO hF2 hlo => ?_)
    have hSM := hSM.f1 hF2 (by omega)
    have hR := hR.f0 hF2
    refine lv_goto (tgt := 215) hx hb d_M_modular_43 (by decide) ?_
    exact W.vret hx hb hr (fun t ht hW => ⟨rfl, by rw [ht]; exact MA0 (hF1.tr hF2 (fun _ h => h)), Or.inr ⟨fun h => hinv h.2.1, by rw [ht]; exact ⟨hO, hSM, hR⟩⟩⟩) (MAlo hlo) d_M_modular_215
  refine x_topi (v := nI 0) (rfl) ?_
  refine lv_if_ne (tgt := 38) hx hb d_M_modular_18 (by decide) (fun h => absurd (by decide) h) (fun _ => ?_)
  have hl : lv_has ls 8 [(0, .ref o), (1, .int (nI kt)), (2, .int (nI ka)), (3, .int b), (4, .int c1), (5, .int z)] := hl
  refine lv_aload_n hx hb d_M_modular_21 rfl (lv_at hl 0 rfl) ?_
  refine lv_iload_n hx hb d_M_modular_22 rfl (lv_at hl 3 rfl) ?_
  refine x_calli (A := fun q => q = o) (va_runV (As := [.int b]) (rest := []) ⟨hx, hb, hml, hown, htw⟩ (m_out l D cJ cI cQ cR o b) (xcV 1 htw kw_316 kw_2 kw_313 kw_315 ks_M_out rfl rfl ⟨by decide, by decide, by decide +kernel⟩ ⟨Nat.le_of_ble_eq_true rfl, Nat.le_of_ble_eq_true rfl⟩) (xPreV hK (hO.rv hK) trivial) rfl rfl hl.1 rfl (lv_room (Nat.le_of_ble_eq_true rfl)) d_M_modular_23 ⟨Nat.le_of_ble_eq_true rfl, Nat.le_of_ble_eq_true rfl⟩) hlo (fun _ h => h.elim) (fun x9 H9 locs9 hB9 hlo => ?_)
  obtain ⟨rfl, hB9⟩ := hB9
  rcases hB9.symm with ⟨rfl, hinv⟩ | ⟨rfl, kb, hkb, rfl⟩
  · refine x_topi (v := nI 1) (rfl) ?_
    refine lv_if_ne (tgt := 38) hx hb d_M_modular_26 (by decide) (fun _ => ?_) (fun h => absurd h (by decide))
    refine lv_aload_n hx hb d_M_modular_38 rfl (lv_at hl 0 rfl) ?_
    refine lv_iconst (v := nI 1) hx hb d_M_modular_39 (by decide) ?_
    refine x_fail hx hb htw hown hK hO hlo d_M_modular_40 (fun H2 locs2 hO hF2 hlo => ?_)
    have hSM := hSM.f1 hF2 (by omega)
    have hR := hR.f0 hF2
    refine lv_goto (tgt := 215) hx hb d_M_modular_43 (by decide) ?_
    exact W.vret hx hb hr (fun t ht hW => ⟨rfl, by rw [ht]; exact MA0 (hF1.tr hF2 (fun _ h => h)), Or.inr ⟨fun h => hinv h.2.2.1, by rw [ht]; exact ⟨hO, hSM, hR⟩⟩⟩) (MAlo hlo) d_M_modular_215
  refine x_topi (v := nI 0) (rfl) ?_
  refine lv_if_ne (tgt := 38) hx hb d_M_modular_26 (by decide) (fun h => absurd (by decide) h) (fun _ => ?_)
  have hl : lv_has ls 8 [(0, .ref o), (1, .int (nI kt)), (2, .int (nI ka)), (3, .int (nI kb)), (4, .int c1), (5, .int z)] := hl
  refine lv_aload_n hx hb d_M_modular_29 rfl (lv_at hl 0 rfl) ?_
  refine lv_iload hx hb d_M_modular_30 (lv_at hl 4 rfl) ?_
  refine x_calli (A := fun q => q = o) (va_runV (As := [.int c1]) (rest := []) ⟨hx, hb, hml, hown, htw⟩ (m_out l D cJ cI cQ cR o c1) (xcV 1 htw kw_316 kw_2 kw_313 kw_315 ks_M_out rfl rfl ⟨by decide, by decide, by decide +kernel⟩ ⟨Nat.le_of_ble_eq_true rfl, Nat.le_of_ble_eq_true rfl⟩) (xPreV hK (hO.rv hK) trivial) rfl rfl hl.1 rfl (lv_room (Nat.le_of_ble_eq_true rfl)) d_M_modular_32 ⟨Nat.le_of_ble_eq_true rfl, Nat.le_of_ble_eq_true rfl⟩) hlo (fun _ h => h.elim) (fun x9 H9 locs9 hB9 hlo => ?_)
  obtain ⟨rfl, hB9⟩ := hB9
  rcases hB9.symm with ⟨rfl, hinv⟩ | ⟨rfl, kc, hkc, rfl⟩
  · refine x_topi (v := nI 1) (rfl) ?_
    refine lv_if_eq (tgt := 46) hx hb d_M_modular_35 (by decide) (fun h => absurd h (by decide)) (fun _ => ?_)
    refine lv_aload_n hx hb d_M_modular_38 rfl (lv_at hl 0 rfl) ?_
    refine lv_iconst (v := nI 1) hx hb d_M_modular_39 (by decide) ?_
    refine x_fail hx hb htw hown hK hO hlo d_M_modular_40 (fun H2 locs2 hO hF2 hlo => ?_)
    have hSM := hSM.f1 hF2 (by omega)
    have hR := hR.f0 hF2
    refine lv_goto (tgt := 215) hx hb d_M_modular_43 (by decide) ?_
    exact W.vret hx hb hr (fun t ht hW => ⟨rfl, by rw [ht]; exact MA0 (hF1.tr hF2 (fun _ h => h)), Or.inr ⟨fun h => hinv h.2.2.2, by rw [ht]; exact ⟨hO, hSM, hR⟩⟩⟩) (MAlo hlo) d_M_modular_215
  refine x_topi (v := nI 0) (rfl) ?_
  refine lv_if_eq (tgt := 46) hx hb d_M_modular_35 (by decide) (fun _ => ?_) (fun h => absurd (by decide) h)
  have hl : lv_has ls 8 [(0, .ref o), (1, .int (nI kt)), (2, .int (nI ka)), (3, .int (nI kb)), (4, .int (nI kc)), (5, .int z)] := hl
  obtain ⟨fka, h_ka, hNka⟩ := hR ka hka
  have hvka := hV ka hka
  obtain ⟨fkb, h_kb, hNkb⟩ := hR kb hkb
  have hvkb := hV kb hkb
  obtain ⟨fkc, h_kc, hNkc⟩ := hR kc hkc
  have hvkc := hV kc hkc
  obtain ⟨⟨f18, h_18⟩, ⟨f19, h_19⟩, ⟨f20, h_20⟩, ⟨f21, h_21, hN21⟩, ⟨f22, h_22⟩, ⟨f23, h_23⟩, ⟨f24, h_24⟩⟩ := hSM
  have hG := hO.rf
  have hlo := MAlo hlo
  have hF1 := MA0 hF1
  obtain ⟨Hz, hHz⟩ : ∃ Hz, Hz = H9 := ⟨_, rfl⟩
  rw [← hHz] at hO hG hR hF1 h_18 h_19 h_20 h_21 h_22 h_23 h_24 h_ka h_kb h_kc ⊢
  have hl : lv_has ls 8 [(0, .ref o), (1, .int (nI kt)), (2, .int (nI ka)), (3, .int (nI kb)), (4, .int (nI kc)), (5, .int z)] := lv_sub hl [0, 1, 2, 3, 4, 5] rfl
  refine x_cut 154 (fun H locs ls => ∃ (u : Nat) (f2 : Nat → Int32), lv_has ls 8 [(0, .ref o), (1, .int (nI kt)), (4, .int (nI kc))] ∧ (∀ q ∈ locs, MA o q.base) ∧ XF (MS o) Hz H ∧ MB D cR o (nI 0) H ∧ SM cI o H ∧ hI H cI (o + 22) 17 f2 ∧ NI f2 17 u ∧ u < 2 ^ 512 ∧ u = (if z = 0 then V ka + V kb else V ka * V kb)) ?_ (fun J => ?_)
  · rintro H locs ls ⟨u, f2, hl, hlo, hG, hO, ⟨⟨f18, h_18⟩, ⟨f19, h_19⟩, ⟨f20, h_20⟩, ⟨f21, h_21, hN21⟩, _, ⟨f23, h_23⟩, ⟨f24, h_24⟩⟩, h_22, hN2, hu, hue⟩
    have h_kc := hI_f h_kc hG (nMS (by omega))
    refine lv_aload_n hx hb d_M_modular_154 rfl (lv_at hl 0 rfl) ?_
    refine va_get (D := D) (ci := 1) (v := .ref (o + 1)) (C := "WideNumbersModel") (T := F_M) (N := 9) hx hb htw inM hown hK hO.1 0 rfl rfl 1 (by decide) (htw _ kw_277) (fun _ h9 => h9) rfl d_M_modular_155 ?_
    refine lv_iload hx hb d_M_modular_158 (lv_at hl 2 rfl) ?_
    refine x_aald hx hb rfl hR9 hO.2 kc rfl hkc (by omega) (v := o + 2 + kc) (if_pos hkc) d_M_modular_160 ?_
    refine x_calli (A := MA o) (va_runS (As := [.ref (o + 2 + kc)]) (rest := []) ⟨hx, hb, hml, hown, htw⟩ (m_zero l D cJ cI cQ cR (o + 2 + kc) (V kc) fkc hvkc hNkc) (xcS 1 htw kw_339 kw_2 kw_337 kw_338 rfl rfl ⟨by decide, by decide, by decide +kernel⟩ ⟨Nat.le_of_ble_eq_true rfl, Nat.le_of_ble_eq_true rfl⟩) (xPre hK h_kc) rfl rfl hl.1 rfl (lv_room (Nat.le_of_ble_eq_true rfl)) d_M_modular_161 ⟨Nat.le_of_ble_eq_true rfl, Nat.le_of_ble_eq_true rfl⟩) hlo (fun _ h => h.elim) (fun x1 H1 locs1 hB1 hlo => ?_)
    obtain ⟨rfl, rfl⟩ := hB1
    by_cases hz : V kc = 0
    · refine x_topi (v := nI 1) (by rw [if_pos hz]; rfl) ?_
      refine lv_if_eq (tgt := 177) hx hb d_M_modular_164 (by decide) (fun h => absurd h (by decide)) (fun _ => ?_)
      refine lv_aload_n hx hb d_M_modular_167 rfl (lv_at hl 0 rfl) ?_
      refine va_get (D := D) (ci := 1) (v := .ref (o + 20)) (C := "WideNumbersModel") (T := F_M) (N := 9) hx hb htw inM hown hK hO.1 0 rfl rfl 4 (by decide) (htw _ kw_280) (fun _ h9 => h9) rfl d_M_modular_168 ?_
      refine x_callv (A := MA o) (va_runS (As := [.ref (o + 20)]) (rest := []) ⟨hx, hb, hml, hown, htw⟩ (m_clear l D cJ cI cQ cR (o + 20) f20) (xcS 1 htw kw_342 kw_2 kw_340 kw_341 rfl rfl ⟨by decide, by decide, by decide +kernel⟩ ⟨Nat.le_of_ble_eq_true rfl, Nat.le_of_ble_eq_true rfl⟩) (xPre hK h_20) rfl rfl hl.1 rfl (lv_room (Nat.le_of_ble_eq_true rfl)) d_M_modular_171 ⟨Nat.le_of_ble_eq_true rfl, Nat.le_of_ble_eq_true rfl⟩) hlo (fun q h => by have h : q = o + 20 := h; rw [h]; exact ⟨by omega, by omega⟩) (fun H2 locs2 hB2 hlo => ?_)
      obtain ⟨hF2, f2, hf2, hN2⟩ := hB2
      have h_18 := hI_f h_18 hF2 (show o + 18 ≠ o + 20 by omega)
      have h_19 := hI_f h_19 hF2 (show o + 19 ≠ o + 20 by omega)
      have h_20 := hf2
      have h_21 := hI_f h_21 hF2 (show o + 21 ≠ o + 20 by omega)
      have h_22 := hI_f h_22 hF2 (show o + 22 ≠ o + 20 by omega)
      have h_23 := hI_f h_23 hF2 (show o + 23 ≠ o + 20 by omega)
      have h_24 := hI_f h_24 hF2 (show o + 24 ≠ o + 20 by omega)
      have h_kc := hI_f h_kc hF2 (show o + 2 + kc ≠ o + 20 by omega)
      have hO := hO.f1 hF2 (by omega)
      have hG := MS1 hG hF2 (by omega)
      refine lv_goto (tgt := 202) hx hb d_M_modular_174 (by decide) ?_
      have hR := hR.fS hG
      have hG := MAx hF1 hG
      have hSM : SM cI o _ := ⟨⟨_, h_18⟩, ⟨_, h_19⟩, ⟨_, h_20⟩, ⟨_, h_21, hN21⟩, ⟨_, h_22⟩, ⟨_, h_23⟩, ⟨_, h_24⟩⟩
      refine lv_aload_n hx hb d_M_modular_202 rfl (lv_at hl 0 rfl) ?_
      refine va_get (D := D) (ci := 1) (v := .ref (o + 1)) (C := "WideNumbersModel") (T := F_M) (N := 9) hx hb htw inM hown hK hO.1 0 rfl rfl 1 (by decide) (htw _ kw_277) (fun _ h9 => h9) rfl d_M_modular_203 ?_
      refine lv_iload_n hx hb d_M_modular_206 rfl (lv_at hl 1 rfl) ?_
      refine x_aald hx hb rfl hR9 hO.2 kt rfl hkt (by omega) (v := o + 2 + kt) (if_pos hkt) d_M_modular_207 ?_
      refine lv_aload_n hx hb d_M_modular_208 rfl (lv_at hl 0 rfl) ?_
      refine va_get (D := D) (ci := 1) (v := .ref (o + 20)) (C := "WideNumbersModel") (T := F_M) (N := 9) hx hb htw inM hown hK hO.1 0 rfl rfl 4 (by decide) (htw _ kw_280) (fun _ h9 => h9) rfl d_M_modular_209 ?_
      obtain ⟨ft, h_t, hNt⟩ := hR kt hkt
      refine x_callv (A := MA o) (va_runS (As := [.ref (o + 2 + kt), .ref (o + 20)]) (rest := []) ⟨hx, hb, hml, hown, htw⟩ (m_copy l D cJ cI cQ cR (o + 2 + kt) (o + 20) 8 (mdv z (V ka) (V kb) (V kc)) ft f2 (by decide) (by omega) (by unfold mdv; rw [if_pos hz]; exact hN2)) (xcS 2 htw kw_374 kw_2 kw_372 kw_373 rfl rfl ⟨by decide, by decide, by decide +kernel⟩ ⟨Nat.le_of_ble_eq_true rfl, Nat.le_of_ble_eq_true rfl⟩) (xPre hK ⟨h_t, h_20⟩) rfl rfl hl.1 rfl (lv_room (Nat.le_of_ble_eq_true rfl)) d_M_modular_212 ⟨Nat.le_of_ble_eq_true rfl, Nat.le_of_ble_eq_true rfl⟩) hlo (fun q h => by have h : q = o + 2 + kt := h; rw [h]; exact ⟨by omega, by omega⟩) (fun H8 locs8 hB8 hlo => ?_)
      obtain ⟨hF8, f8, hf8, hN8⟩ := hB8
      have hO := hO.f1 hF8 (by omega)
      have hSM := hSM.f1 hF8 (by omega)
      have hR := hR.put hF8 hf8 hN8
      have hG := hG.tr hF8 (fun q h => by have h : q = o + 2 + kt := h; rw [h]; exact ⟨by omega, by omega⟩)
      exact W.vret hx hb hr (fun t ht hW => ⟨rfl, by rw [ht]; exact hG, Or.inl ⟨kt, ka, kb, kc, hkt, rfl, hka, rfl, hkb, rfl, hkc, rfl, by rw [ht]; exact ⟨hO, hSM, hR⟩⟩⟩) hlo d_M_modular_215
    · refine x_topi (v := nI 0) (by rw [if_neg hz]; rfl) ?_
      refine lv_if_eq (tgt := 177) hx hb d_M_modular_164 (by decide) (fun _ => ?_) (fun h => absurd (by decide) h)
      refine lv_aload_n hx hb d_M_modular_177 rfl (lv_at hl 0 rfl) ?_
      refine lv_aload_n hx hb d_M_modular_178 rfl (lv_at hl 0 rfl) ?_
      refine va_get (D := D) (ci := 1) (v := .ref (o + 1)) (C := "WideNumbersModel") (T := F_M) (N := 9) hx hb htw inM hown hK hO.1 0 rfl rfl 1 (by decide) (htw _ kw_277) (fun _ h9 => h9) rfl d_M_modular_179 ?_
      refine lv_iload hx hb d_M_modular_182 (lv_at hl 2 rfl) ?_
      refine x_aald hx hb rfl hR9 hO.2 kc rfl hkc (by omega) (v := o + 2 + kc) (if_pos hkc) d_M_modular_184 ?_
      refine lv_sipush (v := nI 512) hx hb d_M_modular_185 (by decide) ?_
      refine x_callv (A := MA o) (va_runV (As := [.ref (o + 2 + kc), .int (nI 512)]) (rest := []) ⟨hx, hb, hml, hown, htw⟩ (m_divideWide l D cJ cI cQ cR o (o + 2 + kc) u (V kc) 512 (nI 0) f2 f23 f24 fkc (by decide) (nWA (by omega)) hu hvkc (by omega) hN2 hNkc) (xcV 2 htw kw_363 kw_2 kw_360 kw_362 ks_M_divideWide rfl rfl ⟨by decide, by decide, by decide +kernel⟩ ⟨Nat.le_of_ble_eq_true rfl, Nat.le_of_ble_eq_true rfl⟩) (xPreV hK (hO.rv hK) ⟨hO, h_22, h_23, h_24, h_kc⟩) rfl rfl hl.1 rfl (lv_room (Nat.le_of_ble_eq_true rfl)) d_M_modular_188 ⟨Nat.le_of_ble_eq_true rfl, Nat.le_of_ble_eq_true rfl⟩) hlo (fun q h => by rcases h with h | h <;> (rw [h]; exact ⟨by omega, by omega⟩)) (fun H3 locs3 hB3 hlo => ?_)
      obtain ⟨hF3, f3, g3, hf3, hN3, hg3, hM3⟩ := hB3
      have h_18 := hI_f h_18 hF3 (nWA (by omega))
      have h_19 := hI_f h_19 hF3 (nWA (by omega))
      have h_20 := hI_f h_20 hF3 (nWA (by omega))
      have h_21 := hI_f h_21 hF3 (nWA (by omega))
      have h_22 := hI_f h_22 hF3 (nWA (by omega))
      have h_23 := hf3
      have h_24 := hg3
      have h_kc := hI_f h_kc hF3 (nWA (by omega))
      have hO := hO.fW hF3
      have hG := MSW hG hF3
      refine lv_aload_n hx hb d_M_modular_191 rfl (lv_at hl 0 rfl) ?_
      refine va_get (D := D) (ci := 1) (v := .ref (o + 20)) (C := "WideNumbersModel") (T := F_M) (N := 9) hx hb htw inM hown hK hO.1 0 rfl rfl 4 (by decide) (htw _ kw_280) (fun _ h9 => h9) rfl d_M_modular_192 ?_
      refine lv_aload_n hx hb d_M_modular_195 rfl (lv_at hl 0 rfl) ?_
      refine va_get (D := D) (ci := 1) (v := .ref (o + 24)) (C := "WideNumbersModel") (T := F_M) (N := 9) hx hb htw inM hown hK hO.1 0 rfl rfl 8 (by decide) (htw _ kw_284) (fun _ h9 => h9) rfl d_M_modular_196 ?_
      refine x_callv (A := MA o) (va_runS (As := [.ref (o + 20), .ref (o + 24)]) (rest := []) ⟨hx, hb, hml, hown, htw⟩ (m_take l D cJ cI cQ cR (o + 20) (o + 24) 9 (u % V kc) f20 g3 (by decide) (by omega) (fun j hj => hM3 j (by omega))) (xcS 2 htw kw_355 kw_2 kw_353 kw_354 rfl rfl ⟨by decide, by decide, by decide +kernel⟩ ⟨Nat.le_of_ble_eq_true rfl, Nat.le_of_ble_eq_true rfl⟩) (xPre hK ⟨h_20, h_24⟩) rfl rfl hl.1 rfl (lv_room (Nat.le_of_ble_eq_true rfl)) d_M_modular_199 ⟨Nat.le_of_ble_eq_true rfl, Nat.le_of_ble_eq_true rfl⟩) hlo (fun q h => by have h : q = o + 20 := h; rw [h]; exact ⟨by omega, by omega⟩) (fun H4 locs4 hB4 hlo => ?_)
      obtain ⟨hF4, f4, hf4, hN4⟩ := hB4
      have h_18 := hI_f h_18 hF4 (show o + 18 ≠ o + 20 by omega)
      have h_19 := hI_f h_19 hF4 (show o + 19 ≠ o + 20 by omega)
      have h_20 := hf4
      have h_21 := hI_f h_21 hF4 (show o + 21 ≠ o + 20 by omega)
      have h_22 := hI_f h_22 hF4 (show o + 22 ≠ o + 20 by omega)
      have h_23 := hI_f h_23 hF4 (show o + 23 ≠ o + 20 by omega)
      have h_24 := hI_f h_24 hF4 (show o + 24 ≠ o + 20 by omega)
      have h_kc := hI_f h_kc hF4 (show o + 2 + kc ≠ o + 20 by omega)
      have hO := hO.f1 hF4 (by omega)
      have hG := MS1 hG hF4 (by omega)
      have hR := hR.fS hG
      have hG := MAx hF1 hG
      have hSM : SM cI o _ := ⟨⟨_, h_18⟩, ⟨_, h_19⟩, ⟨_, h_20⟩, ⟨_, h_21, hN21⟩, ⟨_, h_22⟩, ⟨_, h_23⟩, ⟨_, h_24⟩⟩
      refine lv_aload_n hx hb d_M_modular_202 rfl (lv_at hl 0 rfl) ?_
      refine va_get (D := D) (ci := 1) (v := .ref (o + 1)) (C := "WideNumbersModel") (T := F_M) (N := 9) hx hb htw inM hown hK hO.1 0 rfl rfl 1 (by decide) (htw _ kw_277) (fun _ h9 => h9) rfl d_M_modular_203 ?_
      refine lv_iload_n hx hb d_M_modular_206 rfl (lv_at hl 1 rfl) ?_
      refine x_aald hx hb rfl hR9 hO.2 kt rfl hkt (by omega) (v := o + 2 + kt) (if_pos hkt) d_M_modular_207 ?_
      refine lv_aload_n hx hb d_M_modular_208 rfl (lv_at hl 0 rfl) ?_
      refine va_get (D := D) (ci := 1) (v := .ref (o + 20)) (C := "WideNumbersModel") (T := F_M) (N := 9) hx hb htw inM hown hK hO.1 0 rfl rfl 4 (by decide) (htw _ kw_280) (fun _ h9 => h9) rfl d_M_modular_209 ?_
      obtain ⟨ft, h_t, hNt⟩ := hR kt hkt
      refine x_callv (A := MA o) (va_runS (As := [.ref (o + 2 + kt), .ref (o + 20)]) (rest := []) ⟨hx, hb, hml, hown, htw⟩ (m_copy l D cJ cI cQ cR (o + 2 + kt) (o + 20) 8 (mdv z (V ka) (V kb) (V kc)) ft f4 (by decide) (by omega) (by unfold mdv; rw [if_neg hz, ← hue]; exact hN4)) (xcS 2 htw kw_374 kw_2 kw_372 kw_373 rfl rfl ⟨by decide, by decide, by decide +kernel⟩ ⟨Nat.le_of_ble_eq_true rfl, Nat.le_of_ble_eq_true rfl⟩) (xPre hK ⟨h_t, h_20⟩) rfl rfl hl.1 rfl (lv_room (Nat.le_of_ble_eq_true rfl)) d_M_modular_212 ⟨Nat.le_of_ble_eq_true rfl, Nat.le_of_ble_eq_true rfl⟩) hlo (fun q h => by have h : q = o + 2 + kt := h; rw [h]; exact ⟨by omega, by omega⟩) (fun H8 locs8 hB8 hlo => ?_)
      obtain ⟨hF8, f8, hf8, hN8⟩ := hB8
      have hO := hO.f1 hF8 (by omega)
      have hSM := hSM.f1 hF8 (by omega)
      have hR := hR.put hF8 hf8 hN8
      have hG := hG.tr hF8 (fun q h => by have h : q = o + 2 + kt := h; rw [h]; exact ⟨by omega, by omega⟩)
      exact W.vret hx hb hr (fun t ht hW => ⟨rfl, by rw [ht]; exact hG, Or.inl ⟨kt, ka, kb, kc, hkt, rfl, hka, rfl, hkb, rfl, hkc, rfl, by rw [ht]; exact ⟨hO, hSM, hR⟩⟩⟩) hlo d_M_modular_215
  · refine lv_iload hx hb d_M_modular_46 (lv_at hl 5 rfl) ?_
    refine lv_if_eq (tgt := 70) hx hb d_M_modular_48 (by decide) (fun hc => ?_) (fun hc => ?_)
    · refine lv_iconst (v := nI 0) hx hb d_M_modular_70 (by decide) ?_
      refine lv_istore hx hb d_M_modular_71 hl (by decide) rfl (fun ls hl => ?_)
      have hl : lv_has ls 8 [(6, .int (nI 0)), (0, .ref o), (1, .int (nI kt)), (2, .int (nI ka)), (3, .int (nI kb)), (4, .int (nI kc)), (5, .int z)] := hl
      have hl : lv_has ls 8 [(6, .int (nI 0)), (0, .ref o), (1, .int (nI kt)), (2, .int (nI ka)), (3, .int (nI kb)), (4, .int (nI kc))] := lv_sub hl [0, 1, 2, 3, 4, 5] rfl
      refine x_loop 73 (fun i H locs ls => ∃ f : Nat → Int32, lv_has ls 8 [(6, .int (nI i)), (0, .ref o), (1, .int (nI kt)), (2, .int (nI ka)), (3, .int (nI kb)), (4, .int (nI kc))] ∧ (∀ q ∈ locs, MA o q.base) ∧ XF (fun q => q = o + 22) Hz H ∧ hI H cI (o + 22) 17 f ∧ NI f i 0) 17 ?_ ?_ 0 _ _ _ (by omega) ?_
      · intro i H locs ls hi ⟨f, hl, hlo, hF, hf, hN⟩ ih
        refine lv_iload hx hb d_M_modular_73 (lv_at hl 0 rfl) ?_
        refine lv_bipush (v := nI 17) hx hb d_M_modular_75 (by decide) ?_
        refine lv_icmp_ge (tgt := 94) hx hb d_M_modular_77 (by decide) (fun hc => absurd hc (nI_ge (by omega) (by omega))) (fun _ => ?_)
        have hO := hO.f1 hF (by omega)
        refine lv_aload_n hx hb d_M_modular_80 rfl (lv_at hl 1 rfl) ?_
        refine va_get (D := D) (ci := 1) (v := .ref (o + 22)) (C := "WideNumbersModel") (T := F_M) (N := 9) hx hb htw inM hown hK hO.1 0 rfl rfl 6 (by decide) (htw _ kw_282) (fun _ h9 => h9) rfl d_M_modular_81 ?_
        refine lv_iload hx hb d_M_modular_84 (lv_at hl 0 rfl) ?_
        refine lv_iconst (v := nI 0) hx hb d_M_modular_86 (by decide) ?_
        refine x_iast (A := MA o) hx hb hI9 hf hlo (⟨by omega, by omega⟩) (i) (rfl) (by omega) (by omega) d_M_modular_87 (fun H4 locs4 h4 hF4 hlo4 => ?_)
        refine lv_iinc (v := nI (i + 1)) (k := 0) hx hb d_M_modular_88 hl rfl (nI_1 i) (by decide) rfl (fun ls hl => ?_)
        have hl : lv_has ls 8 [(6, .int (nI (i + 1))), (0, .ref o), (1, .int (nI kt)), (2, .int (nI ka)), (3, .int (nI kb)), (4, .int (nI kc))] := hl
        refine lv_goto (tgt := 73) hx hb d_M_modular_91 (by decide) ?_
        have hl : lv_has ls 8 [(6, .int (nI (i + 1))), (0, .ref o), (1, .int (nI kt)), (2, .int (nI ka)), (3, .int (nI kb)), (4, .int (nI kc))] := lv_sub hl [0, 1, 2, 3, 4, 5] rfl
        exact ih H4 locs4 ls ⟨_, hl, hlo4, hF.tr hF4 (fun _ h => h), h4, NI_m0 hN⟩
      · intro H locs ls ⟨f, hl, hlo, hF, hf, hN⟩
        refine lv_iload hx hb d_M_modular_73 (lv_at hl 0 rfl) ?_
        refine lv_bipush (v := nI 17) hx hb d_M_modular_75 (by decide) ?_
        refine lv_icmp_ge (tgt := 94) hx hb d_M_modular_77 (by decide) (fun _ => ?_) (fun hc => absurd (nI_le (Nat.le_refl _) (by omega)) hc)
        have h_18 := hI_f h_18 hF (show o + 18 ≠ o + 22 by omega)
        have h_19 := hI_f h_19 hF (show o + 19 ≠ o + 22 by omega)
        have h_20 := hI_f h_20 hF (show o + 20 ≠ o + 22 by omega)
        have h_21 := hI_f h_21 hF (show o + 21 ≠ o + 22 by omega)
        have h_22 := hf
        have h_23 := hI_f h_23 hF (show o + 23 ≠ o + 22 by omega)
        have h_24 := hI_f h_24 hF (show o + 24 ≠ o + 22 by omega)
        have h_ka := hI_f h_ka hF (show o + 2 + ka ≠ o + 22 by omega)
        have h_kb := hI_f h_kb hF (show o + 2 + kb ≠ o + 22 by omega)
        have h_kc := hI_f h_kc hF (show o + 2 + kc ≠ o + 22 by omega)
        have hO := hO.f1 hF (by omega)
        have hG := MS1 hG hF (by omega)
        refine lv_aload_n hx hb d_M_modular_94 rfl (lv_at hl 1 rfl) ?_
        refine va_get (D := D) (ci := 1) (v := .ref (o + 18)) (C := "WideNumbersModel") (T := F_M) (N := 9) hx hb htw inM hown hK hO.1 0 rfl rfl 2 (by decide) (htw _ kw_278) (fun _ h9 => h9) rfl d_M_modular_95 ?_
        refine lv_aload_n hx hb d_M_modular_98 rfl (lv_at hl 1 rfl) ?_
        refine va_get (D := D) (ci := 1) (v := .ref (o + 1)) (C := "WideNumbersModel") (T := F_M) (N := 9) hx hb htw inM hown hK hO.1 0 rfl rfl 1 (by decide) (htw _ kw_277) (fun _ h9 => h9) rfl d_M_modular_99 ?_
        refine lv_iload_n hx hb d_M_modular_102 rfl (lv_at hl 3 rfl) ?_
        refine x_aald hx hb rfl hR9 hO.2 ka rfl hka (by omega) (v := o + 2 + ka) (if_pos hka) d_M_modular_103 ?_
        refine lv_aload_n hx hb d_M_modular_104 rfl (lv_at hl 1 rfl) ?_
        refine va_get (D := D) (ci := 1) (v := .ref (o + 1)) (C := "WideNumbersModel") (T := F_M) (N := 9) hx hb htw inM hown hK hO.1 0 rfl rfl 1 (by decide) (htw _ kw_277) (fun _ h9 => h9) rfl d_M_modular_105 ?_
        refine lv_iload_n hx hb d_M_modular_108 rfl (lv_at hl 4 rfl) ?_
        refine x_aald hx hb rfl hR9 hO.2 kb rfl hkb (by omega) (v := o + 2 + kb) (if_pos hkb) d_M_modular_109 ?_
        refine x_calli (A := MA o) (va_runS (As := [.ref (o + 18), .ref (o + 2 + ka), .ref (o + 2 + kb)]) (rest := []) ⟨hx, hb, hml, hown, htw⟩ (m_add l D cJ cI cQ cR (o + 18) (o + 2 + ka) (o + 2 + kb) (V ka) (V kb) f18 fka fkb (by omega) (by omega) hvka hvkb hNka hNkb) (xcS 3 htw kw_345 kw_2 kw_343 kw_344 rfl rfl ⟨by decide, by decide, by decide +kernel⟩ ⟨Nat.le_of_ble_eq_true rfl, Nat.le_of_ble_eq_true rfl⟩) (xPre hK ⟨h_18, h_ka, h_kb⟩) rfl rfl hl.1 rfl (lv_room (Nat.le_of_ble_eq_true rfl)) d_M_modular_110 ⟨Nat.le_of_ble_eq_true rfl, Nat.le_of_ble_eq_true rfl⟩) hlo (fun q h => by have h : q = o + 18 := h; rw [h]; exact ⟨by omega, by omega⟩) (fun x5 H5 locs5 hB5 hlo => ?_)
        obtain ⟨hF5, c5, v5, f5, rfl, hf5, hN5, hv5, he5, hc5⟩ := hB5
        have h_18 := hf5
        have h_19 := hI_f h_19 hF5 (show o + 19 ≠ o + 18 by omega)
        have h_20 := hI_f h_20 hF5 (show o + 20 ≠ o + 18 by omega)
        have h_21 := hI_f h_21 hF5 (show o + 21 ≠ o + 18 by omega)
        have h_22 := hI_f h_22 hF5 (show o + 22 ≠ o + 18 by omega)
        have h_23 := hI_f h_23 hF5 (show o + 23 ≠ o + 18 by omega)
        have h_24 := hI_f h_24 hF5 (show o + 24 ≠ o + 18 by omega)
        have h_ka := hI_f h_ka hF5 (show o + 2 + ka ≠ o + 18 by omega)
        have h_kb := hI_f h_kb hF5 (show o + 2 + kb ≠ o + 18 by omega)
        have h_kc := hI_f h_kc hF5 (show o + 2 + kc ≠ o + 18 by omega)
        have hO := hO.f1 hF5 (by omega)
        have hG := MS1 hG hF5 (by omega)
        refine lv_istore hx hb d_M_modular_113 hl (by decide) rfl (fun ls hl => ?_)
        have hl : lv_has ls 8 [(6, .int (nI c5)), (0, .ref o), (1, .int (nI kt)), (2, .int (nI ka)), (3, .int (nI kb)), (4, .int (nI kc))] := hl
        refine lv_iconst (v := nI 0) hx hb d_M_modular_115 (by decide) ?_
        refine lv_istore hx hb d_M_modular_116 hl (by decide) rfl (fun ls hl => ?_)
        have hl : lv_has ls 8 [(7, .int (nI 0)), (6, .int (nI c5)), (0, .ref o), (1, .int (nI kt)), (2, .int (nI ka)), (3, .int (nI kb)), (4, .int (nI kc))] := hl
        have hl : lv_has ls 8 [(7, .int (nI 0)), (6, .int (nI c5)), (0, .ref o), (1, .int (nI kt)), (4, .int (nI kc))] := lv_sub hl [0, 1, 2, 3, 6] rfl
        refine x_loop 118 (fun i H locs ls => ∃ g : Nat → Int32, lv_has ls 8 [(7, .int (nI i)), (6, .int (nI c5)), (0, .ref o), (1, .int (nI kt)), (4, .int (nI kc))] ∧ (∀ q ∈ locs, MA o q.base) ∧ XF (fun q => q = o + 22) H5 H ∧ hI H cI (o + 22) 17 g ∧ NI g i v5 ∧ ∀ j, i ≤ j → j < 17 → g j = nI 0) 8 ?_ ?_ 0 _ _ _ (by omega) ?_
        · intro i H locs ls hi ⟨g, hl, hlo, hFb, hg, hNg, hgz⟩ ih
          refine lv_iload hx hb d_M_modular_118 (lv_at hl 0 rfl) ?_
          refine lv_bipush (v := nI 8) hx hb d_M_modular_120 (by decide) ?_
          refine lv_icmp_ge (tgt := 145) hx hb d_M_modular_122 (by decide) (fun hc => absurd hc (nI_ge (by omega) (by omega))) (fun _ => ?_)
          have hO := hO.f1 hFb (by omega)
          have h_18 := hI_f h_18 hFb (show o + 18 ≠ o + 22 by omega)
          refine lv_aload_n hx hb d_M_modular_125 rfl (lv_at hl 2 rfl) ?_
          refine va_get (D := D) (ci := 1) (v := .ref (o + 22)) (C := "WideNumbersModel") (T := F_M) (N := 9) hx hb htw inM hown hK hO.1 0 rfl rfl 6 (by decide) (htw _ kw_282) (fun _ h9 => h9) rfl d_M_modular_126 ?_
          refine lv_iload hx hb d_M_modular_129 (lv_at hl 0 rfl) ?_
          refine lv_aload_n hx hb d_M_modular_131 rfl (lv_at hl 2 rfl) ?_
          refine va_get (D := D) (ci := 1) (v := .ref (o + 18)) (C := "WideNumbersModel") (T := F_M) (N := 9) hx hb htw inM hown hK hO.1 0 rfl rfl 2 (by decide) (htw _ kw_278) (fun _ h9 => h9) rfl d_M_modular_132 ?_
          refine lv_iload hx hb d_M_modular_135 (lv_at hl 0 rfl) ?_
          refine x_iald hx hb hI9 h_18 (i) (rfl) (by omega) (by omega) (v := nI (dg v5 i)) (hN5 i hi) d_M_modular_137 ?_
          refine x_iast (A := MA o) hx hb hI9 hg hlo (⟨by omega, by omega⟩) (i) (rfl) (by omega) (by omega) d_M_modular_138 (fun H6 locs6 h6 hF6 hlo6 => ?_)
          refine lv_iinc (v := nI (i + 1)) (k := 0) hx hb d_M_modular_139 hl rfl (nI_1 i) (by decide) rfl (fun ls hl => ?_)
          have hl : lv_has ls 8 [(7, .int (nI (i + 1))), (6, .int (nI c5)), (0, .ref o), (1, .int (nI kt)), (4, .int (nI kc))] := hl
          refine lv_goto (tgt := 118) hx hb d_M_modular_142 (by decide) ?_
          have hl : lv_has ls 8 [(7, .int (nI (i + 1))), (6, .int (nI c5)), (0, .ref o), (1, .int (nI kt)), (4, .int (nI kc))] := lv_sub hl [0, 1, 2, 3, 4] rfl
          exact ih H6 locs6 ls ⟨_, hl, hlo6, hFb.tr hF6 (fun _ h => h), h6, NI_up hNg, fun j h1 h2 => by rw [pk_un (by omega)]; exact hgz j (by omega) h2⟩
        · intro H locs ls ⟨g, hl, hlo, hFb, hg, hNg, hgz⟩
          refine lv_iload hx hb d_M_modular_118 (lv_at hl 0 rfl) ?_
          refine lv_bipush (v := nI 8) hx hb d_M_modular_120 (by decide) ?_
          refine lv_icmp_ge (tgt := 145) hx hb d_M_modular_122 (by decide) (fun _ => ?_) (fun hc => absurd (nI_le (Nat.le_refl _) (by omega)) hc)
          have h_18 := hI_f h_18 hFb (show o + 18 ≠ o + 22 by omega)
          have h_19 := hI_f h_19 hFb (show o + 19 ≠ o + 22 by omega)
          have h_20 := hI_f h_20 hFb (show o + 20 ≠ o + 22 by omega)
          have h_21 := hI_f h_21 hFb (show o + 21 ≠ o + 22 by omega)
          have h_22 := hg
          have h_23 := hI_f h_23 hFb (show o + 23 ≠ o + 22 by omega)
          have h_24 := hI_f h_24 hFb (show o + 24 ≠ o + 22 by omega)
          have h_ka := hI_f h_ka hFb (show o + 2 + ka ≠ o + 22 by omega)
          have h_kb := hI_f h_kb hFb (show o + 2 + kb ≠ o + 22 by omega)
          have h_kc := hI_f h_kc hFb (show o + 2 + kc ≠ o + 22 by omega)
          have hO := hO.f1 hFb (by omega)
          have hG := MS1 hG hFb (by omega)
          refine lv_aload_n hx hb d_M_modular_145 rfl (lv_at hl 2 rfl) ?_
          refine va_get (D := D) (ci := 1) (v := .ref (o + 22)) (C := "WideNumbersModel") (T := F_M) (N := 9) hx hb htw inM hown hK hO.1 0 rfl rfl 6 (by decide) (htw _ kw_282) (fun _ h9 => h9) rfl d_M_modular_146 ?_
          refine lv_bipush (v := nI 8) hx hb d_M_modular_149 (by decide) ?_
          refine lv_iload hx hb d_M_modular_151 (lv_at hl 1 rfl) ?_
          refine x_iast (A := MA o) hx hb hI9 h_22 hlo (⟨by omega, by omega⟩) (8) (rfl) (by omega) (by omega) d_M_modular_153 (fun H7 locs7 h7 hF7 hlo => ?_)
          have h_18 := hI_f h_18 hF7 (show o + 18 ≠ o + 22 by omega)
          have h_19 := hI_f h_19 hF7 (show o + 19 ≠ o + 22 by omega)
          have h_20 := hI_f h_20 hF7 (show o + 20 ≠ o + 22 by omega)
          have h_21 := hI_f h_21 hF7 (show o + 21 ≠ o + 22 by omega)
          have h_22 := h7
          have h_23 := hI_f h_23 hF7 (show o + 23 ≠ o + 22 by omega)
          have h_24 := hI_f h_24 hF7 (show o + 24 ≠ o + 22 by omega)
          have h_ka := hI_f h_ka hF7 (show o + 2 + ka ≠ o + 22 by omega)
          have h_kb := hI_f h_kb hF7 (show o + 2 + kb ≠ o + 22 by omega)
          have h_kc := hI_f h_kc hF7 (show o + 2 + kc ≠ o + 22 by omega)
          have hO := hO.f1 hF7 (by omega)
          have hG := MS1 hG hF7 (by omega)
          have hl : lv_has ls 8 [(0, .ref o), (1, .int (nI kt)), (4, .int (nI kc))] := lv_sub hl [2, 3, 4] rfl
          have hNs := NI_put hNg hv5 (show c5 < 4294967296 by omega)
          rw [show 2 ^ (32 * 8) = 2 ^ 256 from rfl, he5] at hNs
          exact J _ _ ls ⟨V ka + V kb, _, hl, hlo, hG, hO, ⟨⟨_, h_18⟩, ⟨_, h_19⟩, ⟨_, h_20⟩, ⟨_, h_21, hN21⟩, ⟨_, h_22⟩, ⟨_, h_23⟩, ⟨_, h_24⟩⟩, h_22, fun j hj => by
            by_cases h9 : j < 9
            · exact hNs j h9
            · rw [pk_un (by omega), hgz j (by omega) hj, dg_big (Nat.lt_of_lt_of_le (show V ka + V kb < 2 ^ 257 by omega) (pw_le (by omega)))], by omega, by rw [if_pos hc]⟩
        · exact ⟨f, hl, hlo, XF.rf, h_22, NI_0, fun j _ h => by rw [hN j h, dg_0]⟩
      · exact ⟨f22, hl, hlo, XF.rf, h_22, NI_0⟩
    · refine lv_aload_n hx hb d_M_modular_51 rfl (lv_at hl 0 rfl) ?_
      refine lv_aload_n hx hb d_M_modular_52 rfl (lv_at hl 0 rfl) ?_
      refine va_get (D := D) (ci := 1) (v := .ref (o + 1)) (C := "WideNumbersModel") (T := F_M) (N := 9) hx hb htw inM hown hK hO.1 0 rfl rfl 1 (by decide) (htw _ kw_277) (fun _ h9 => h9) rfl d_M_modular_53 ?_
      refine lv_iload_n hx hb d_M_modular_56 rfl (lv_at hl 2 rfl) ?_
      refine x_aald hx hb rfl hR9 hO.2 ka rfl hka (by omega) (v := o + 2 + ka) (if_pos hka) d_M_modular_57 ?_
      refine lv_aload_n hx hb d_M_modular_58 rfl (lv_at hl 0 rfl) ?_
      refine va_get (D := D) (ci := 1) (v := .ref (o + 1)) (C := "WideNumbersModel") (T := F_M) (N := 9) hx hb htw inM hown hK hO.1 0 rfl rfl 1 (by decide) (htw _ kw_277) (fun _ h9 => h9) rfl d_M_modular_59 ?_
      refine lv_iload_n hx hb d_M_modular_62 rfl (lv_at hl 3 rfl) ?_
      refine x_aald hx hb rfl hR9 hO.2 kb rfl hkb (by omega) (v := o + 2 + kb) (if_pos hkb) d_M_modular_63 ?_
      refine x_callv (A := MA o) (va_runV (As := [.ref (o + 2 + ka), .ref (o + 2 + kb)]) (rest := []) ⟨hx, hb, hml, hown, htw⟩ (m_multiply l D cJ cI cQ cR o (o + 2 + ka) (o + 2 + kb) (V ka) (V kb) (nI 0) f22 fka fkb (by omega) (by omega) hvka hvkb hNka hNkb) (xcV 2 htw kw_352 kw_2 kw_349 kw_351 ks_M_multiply rfl rfl ⟨by decide, by decide, by decide +kernel⟩ ⟨Nat.le_of_ble_eq_true rfl, Nat.le_of_ble_eq_true rfl⟩) (xPreV hK (hO.rv hK) ⟨hO, h_22, h_ka, h_kb⟩) rfl rfl hl.1 rfl (lv_room (Nat.le_of_ble_eq_true rfl)) d_M_modular_64 ⟨Nat.le_of_ble_eq_true rfl, Nat.le_of_ble_eq_true rfl⟩) hlo (fun q h => by have h : q = o + 22 := h; rw [h]; exact ⟨by omega, by omega⟩) (fun H2 locs2 hB2 hlo => ?_)
      obtain ⟨hF2, f2, hf2, hN2⟩ := hB2
      have h_18 := hI_f h_18 hF2 (show o + 18 ≠ o + 22 by omega)
      have h_19 := hI_f h_19 hF2 (show o + 19 ≠ o + 22 by omega)
      have h_20 := hI_f h_20 hF2 (show o + 20 ≠ o + 22 by omega)
      have h_21 := hI_f h_21 hF2 (show o + 21 ≠ o + 22 by omega)
      have h_22 := hf2
      have h_23 := hI_f h_23 hF2 (show o + 23 ≠ o + 22 by omega)
      have h_24 := hI_f h_24 hF2 (show o + 24 ≠ o + 22 by omega)
      have h_ka := hI_f h_ka hF2 (show o + 2 + ka ≠ o + 22 by omega)
      have h_kb := hI_f h_kb hF2 (show o + 2 + kb ≠ o + 22 by omega)
      have h_kc := hI_f h_kc hF2 (show o + 2 + kc ≠ o + 22 by omega)
      have hO := hO.f1 hF2 (by omega)
      have hG := MS1 hG hF2 (by omega)
      refine lv_goto (tgt := 154) hx hb d_M_modular_67 (by decide) ?_
      have hl : lv_has ls 8 [(0, .ref o), (1, .int (nI kt)), (4, .int (nI kc))] := lv_sub hl [0, 1, 4] rfl
      exact J _ _ ls ⟨V ka * V kb, f2, hl, hlo, hG, hO, ⟨⟨_, h_18⟩, ⟨_, h_19⟩, ⟨_, h_20⟩, ⟨_, h_21, hN21⟩, ⟨_, h_22⟩, ⟨_, h_23⟩, ⟨_, h_24⟩⟩, h_22, hN2, Nat.lt_of_lt_of_le (Nat.mul_lt_mul_of_lt_of_le hvka (Nat.le_of_lt hvkb) (pw_pos 256)) (by rw [← Nat.pow_add]; exact pw_le (by decide)), by rw [if_neg hc]⟩
