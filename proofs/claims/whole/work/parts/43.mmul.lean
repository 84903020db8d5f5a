-- contracts of the reference: negate, multiply
set_option maxHeartbeats 4000000 in
set_option maxRecDepth 100000 in
theorem m_negate (l : Launch) (D : va_G) (cJ cI cQ cR : ClassId) (o z vz : Nat) (fl : Int32) (fz fn : Nat → Int32) (hz21 : z ≠ o + 21) (hvz : vz < 2 ^ 256) (hNz : NI fz 8 vz) (hNn : NI fn 8 0) : Met l y_M_negate w_M_negate { frames := 1, cells := 0, slots := 0, locals := 25 } (xP D vwCl (TY cJ cI cQ cR) [.ref o, .ref z] (fun H => MB D cR o fl H ∧ hI H cI z 8 fz ∧ hI H cI (o + 21) 8 fn)) (xQv (fun H0 H => XF (fun q => q = z) H0 H ∧ ∃ f : Nat → Int32, hI H cI z 8 f ∧ NI f 8 ((2 ^ 256 - vz) % 2 ^ 256))) 0 0 (fun q => q = z) := by
  refine Met.ofW (cc := b_M_negate) (maxL := 2) (ret := none) (by decide) rfl ?_
  intro p e s m args below meth c s₁ B hml hv
  obtain ⟨rfl, hK, ⟨hO, hz, hn⟩⟩ := hv
  have hx := B.exec
  have hb := B.bytes
  have hr := B.returns
  have hts := atoms_spec (ws := w_M_negate) B.pre
  have htw : ∀ w ∈ WT, w.before _ s = true := fun w h => hts w (List.mem_cons_of_mem _ h)
  have hown : s.vm.findClass "WideNumbersModel" = some m.cls := findClass_of_methodNamed B.named
  have hlocks := B.notSynchronized
  have hJ : ArrOfT s cJ .long := (hK.2 0 _ rfl).1
  have hI9 : ArrOfT s cI .int := (hK.2 1 _ rfl).1
  have hl := lv_entry ([.ref o, .ref z]) (n := 2) (Nat.le_of_ble_eq_true rfl)
  rw [lg_entry_eq]
  generalize (lg_sl ([.ref o, .ref z]) ++ List.replicate (2 - (lg_sl ([.ref o, .ref z])).length) Slot.unset).toArray = ls at hl ⊢
  have hl : lv_has ls 2 [(0, .ref o), (1, .ref z)] := hl
  have hlo : ∀ q ∈ ([] : List Loc), (fun q => q = z) q.base := fun _ h => nomatch h
  refine lv_aload_n hx hb d_M_negate_0 rfl (lv_at hl 1 rfl) ?_
  refine lv_aload_n hx hb d_M_negate_1 rfl (lv_at hl 0 rfl) ?_
  refine va_get (D := D) (ci := 1) (v := .ref (o + 21)) (C := "WideNumbersModel") (T := F_M) (N := 9) hx hb htw inM hown hK hO.1 0 rfl rfl 5 (by decide) (htw _ kw_281) (fun _ h9 => h9) rfl d_M_negate_2 ?_
  refine lv_aload_n hx hb d_M_negate_5 rfl (lv_at hl 1 rfl) ?_
  refine x_callv (A := fun q => q = z) (va_runS (As := [.ref z, .ref (o + 21), .ref z]) (rest := []) ⟨hx, hb, hml, hown, htw⟩ (m_subtract l D cJ cI cQ cR z (o + 21) z 0 vz fz fn fz (fun e => hz21 e.symm) (pw_pos 256) hvz hNn hNz) (xcS 3 htw kw_348 kw_2 kw_346 kw_347 rfl rfl ⟨by decide, by decide, by decide +kernel⟩ ⟨Nat.le_of_ble_eq_true rfl, Nat.le_of_ble_eq_true rfl⟩) (xPre hK ⟨hz, hn, hz⟩) rfl rfl hl.1 rfl (lv_room (Nat.le_of_ble_eq_true rfl)) d_M_negate_6 ⟨Nat.le_of_ble_eq_true rfl, Nat.le_of_ble_eq_true rfl⟩) hlo (fun _ h => h) (fun H1 locs1 hB1 hlo => ?_)
  obtain ⟨hF1, v1, b1, f1, hf1, hN1, hv1, he1, hb1⟩ := hB1
  have hv : v1 = (2 ^ 256 - vz) % 2 ^ 256 := by omega
  rw [hv] at hN1
  exact W.vret hx hb hr (fun t ht hW => ⟨rfl, by rw [ht]; exact hF1, f1, by rw [ht]; exact hf1, hN1⟩) hlo d_M_negate_9
set_option maxHeartbeats 4000000 in
set_option maxRecDepth 100000 in
theorem m_multiply (l : Launch) (D : va_G) (cJ cI cQ cR : ClassId) (o x y vx vy : Nat) (fl : Int32) (fw fx fy : Nat → Int32) (hxz : x ≠ o + 22) (hyz : y ≠ o + 22) (hvx : vx < 2 ^ 256) (hvy : vy < 2 ^ 256) (hNx : NI fx 8 vx) (hNy : NI fy 8 vy) : Met l y_M_multiply w_M_multiply { frames := 0, cells := 0, slots := 0, locals := 0 } (xP D vwCl (TY cJ cI cQ cR) [.ref o, .ref x, .ref y] (fun H => MB D cR o fl H ∧ hI H cI (o + 22) 17 fw ∧ hI H cI x 8 fx ∧ hI H cI y 8 fy)) (xQv (fun H0 H => XF (fun q => q = o + 22) H0 H ∧ ∃ f : Nat → Int32, hI H cI (o + 22) 17 f ∧ NI f 17 (vx * vy))) 0 0 (fun q => q = o + 22) := by
  refine Met.ofW (cc := b_M_multiply) (maxL := 7) (ret := none) (by decide) rfl ?_
  intro p e s m args below meth c s₁ B hml hv
  obtain ⟨rfl, hK, ⟨hO, hz, hX, hY⟩⟩ := hv
  have hx := B.exec
  have hb := B.bytes
  have hr := B.returns
  have hts := atoms_spec (ws := w_M_multiply) B.pre
  have htw : ∀ w ∈ WT, w.before _ s = true := fun w h => hts w (List.mem_cons_of_mem _ h)
  have hown : s.vm.findClass "WideNumbersModel" = some m.cls := findClass_of_methodNamed B.named
  have hlocks := B.notSynchronized
  have hJ : ArrOfT s cJ .long := (hK.2 0 _ rfl).1
  have hI9 : ArrOfT s cI .int := (hK.2 1 _ rfl).1
  have hl := lv_entry ([.ref o, .ref x, .ref y]) (n := 7) (Nat.le_of_ble_eq_true rfl)
  rw [lg_entry_eq]
  generalize (lg_sl ([.ref o, .ref x, .ref y]) ++ List.replicate (7 - (lg_sl ([.ref o, .ref x, .ref y])).length) Slot.unset).toArray = ls at hl ⊢
  have hl : lv_has ls 7 [(0, .ref o), (1, .ref x), (2, .ref y)] := hl
  have hlo : ∀ q ∈ ([] : List Loc), (fun q => q = o + 22) q.base := fun _ h => nomatch h
  obtain ⟨G0, hG0⟩ : ∃ G0, G0 = s.heap := ⟨_, rfl⟩
  rw [← hG0] at hO hz hX hY ⊢
  refine lv_iconst (v := nI 0) hx hb d_M_multiply_0 (by decide) ?_
  refine lv_istore_n hx hb d_M_multiply_1 rfl hl (by decide) rfl (fun ls hl => ?_)
  have hl : lv_has ls 7 [(3, .int (nI 0)), (0, .ref o), (1, .ref x), (2, .ref y)] := hl
  have hl : lv_has ls 7 [(3, .int (nI 0)), (0, .ref o), (1, .ref x), (2, .ref y)] := lv_sub hl [0, 1, 2, 3] rfl
  refine x_loop 2 (fun i H locs ls => ∃ f : Nat → Int32, lv_has ls 7 [(3, .int (nI i)), (0, .ref o), (1, .ref x), (2, .ref y)] ∧ (∀ q ∈ locs, q.base = o + 22) ∧ XF (fun q => q = o + 22) G0 H ∧ hI H cI (o + 22) 17 f ∧ NI f i 0) 17 ?_ ?_ 0 _ _ _ (by omega) ?_
  · intro i H locs ls hi ⟨f, hl, hlo, hF, hf, hN⟩ ih
    refine lv_iload_n hx hb d_M_multiply_2 rfl (lv_at hl 0 rfl) ?_
    refine lv_bipush (v := nI 17) hx hb d_M_multiply_3 (by decide) ?_
    refine lv_icmp_ge (tgt := 21) hx hb d_M_multiply_5 (by decide) (fun hc => absurd hc (nI_ge (by omega) (by omega))) (fun _ => ?_)
    have hO := hO.f1 hF (by omega)
    refine lv_aload_n hx hb d_M_multiply_8 rfl (lv_at hl 1 rfl) ?_
    refine va_get (D := D) (ci := 1) (v := .ref (o + 22)) (C := "WideNumbersModel") (T := F_M) (N := 9) hx hb htw inM hown hK hO.1 0 rfl rfl 6 (by decide) (htw _ kw_282) (fun _ h9 => h9) rfl d_M_multiply_9 ?_
    refine lv_iload_n hx hb d_M_multiply_12 rfl (lv_at hl 0 rfl) ?_
    refine lv_iconst (v := nI 0) hx hb d_M_multiply_13 (by decide) ?_
    refine x_iast (A := fun q => q = o + 22) hx hb hI9 hf hlo (rfl) (i) (rfl) (by omega) (by omega) d_M_multiply_14 (fun H1 locs1 h1 hF1 hlo1 => ?_)
    refine lv_iinc (v := nI (i + 1)) (k := 0) hx hb d_M_multiply_15 hl rfl (nI_1 i) (by decide) rfl (fun ls hl => ?_)
    have hl : lv_has ls 7 [(3, .int (nI (i + 1))), (0, .ref o), (1, .ref x), (2, .ref y)] := hl
    refine lv_goto (tgt := 2) hx hb d_M_multiply_18 (by decide) ?_
    have hl : lv_has ls 7 [(3, .int (nI (i + 1))), (0, .ref o), (1, .ref x), (2, .ref y)] := lv_sub hl [0, 1, 2, 3] rfl
    exact ih H1 locs1 ls ⟨_, hl, hlo1, hF.tr hF1 (fun _ h => h), h1, NI_m0 hN⟩
  · intro H locs ls ⟨f, hl, hlo, hF, hf, hN⟩
    refine lv_iload_n hx hb d_M_multiply_2 rfl (lv_at hl 0 rfl) ?_
    refine lv_bipush (v := nI 17) hx hb d_M_multiply_3 (by decide) ?_
    refine lv_icmp_ge (tgt := 21) hx hb d_M_multiply_5 (by decide) (fun _ => ?_) (fun hc => absurd (nI_le (Nat.le_refl _) (by omega)) hc)
    have hO1 := hO.f1 hF (by omega)
    refine lv_iconst (v := nI 0) hx hb d_M_multiply_21 (by decide) ?_
    refine lv_istore_n hx hb d_M_multiply_22 rfl hl (by decide) rfl (fun ls hl => ?_)
    have hl : lv_has ls 7 [(3, .int (nI 0)), (0, .ref o), (1, .ref x), (2, .ref y)] := hl
    have hl : lv_has ls 7 [(3, .int (nI 0)), (0, .ref o), (1, .ref x), (2, .ref y)] := lv_sub hl [0, 1, 2, 3] rfl
    refine x_loop 23 (fun i H locs ls => ∃ f : Nat → Int32, lv_has ls 7 [(3, .int (nI i)), (0, .ref o), (1, .ref x), (2, .ref y)] ∧ (∀ q ∈ locs, q.base = o + 22) ∧ XF (fun q => q = o + 22) G0 H ∧ hI H cI (o + 22) 17 f ∧ NI f 17 (vx % 2 ^ (32 * i) * vy)) 8 ?_ ?_ 0 _ _ _ (by omega) ?_
    · intro i H locs ls hi ⟨f, hl, hlo, hF, hf, hN⟩ ih
      refine lv_iload_n hx hb d_M_multiply_23 rfl (lv_at hl 0 rfl) ?_
      refine lv_bipush (v := nI 8) hx hb d_M_multiply_24 (by decide) ?_
      refine lv_icmp_ge (tgt := 123) hx hb d_M_multiply_26 (by decide) (fun hc => absurd hc (nI_ge (by omega) (by omega))) (fun _ => ?_)
      refine lv_lconst (v := lN 0) hx hb d_M_multiply_29 (by decide) ?_
      refine lv_lstore hx hb d_M_multiply_30 hl (by decide) rfl (fun ls hl => ?_)
      have hl : lv_has ls 7 [(4, .long (lN 0)), (3, .int (nI i)), (0, .ref o), (1, .ref x), (2, .ref y)] := hl
      refine lv_iconst (v := nI 0) hx hb d_M_multiply_32 (by decide) ?_
      refine lv_istore hx hb d_M_multiply_33 hl (by decide) rfl (fun ls hl => ?_)
      have hl : lv_has ls 7 [(6, .int (nI 0)), (4, .long (lN 0)), (3, .int (nI i)), (0, .ref o), (1, .ref x), (2, .ref y)] := hl
      have hl : lv_has ls 7 [(6, .int (nI 0)), (4, .long (lN 0)), (3, .int (nI i)), (0, .ref o), (1, .ref x), (2, .ref y)] := lv_sub hl [0, 1, 2, 3, 4, 5] rfl
      have hd1 := dg_lt vx i
      have hVlt := mo_lt (vx := vx) (i := i) hvy
      have hVs := mo_s vx vy i
      obtain ⟨U, hU⟩ : ∃ U, U = vx % 2 ^ (32 * i) * vy := ⟨_, rfl⟩
      rw [← hU] at hN hVlt hVs
      refine x_loop 35 (fun j H locs ls => ∃ (c9 r : Nat) (f : Nat → Int32), lv_has ls 7 [(6, .int (nI j)), (4, .long (lN c9)), (3, .int (nI i)), (0, .ref o), (1, .ref x), (2, .ref y)] ∧ (∀ q ∈ locs, q.base = o + 22) ∧ XF (fun q => q = o + 22) G0 H ∧ hI H cI (o + 22) 17 f ∧ NI f (i + j) r ∧ (∀ k, i + j ≤ k → k < 17 → f k = nI (dg U k)) ∧ r < 2 ^ (32 * (i + j)) ∧ r + 2 ^ (32 * (i + j)) * c9 = U % 2 ^ (32 * (i + j)) + 2 ^ (32 * i) * (dg vx i * (vy % 2 ^ (32 * j))) ∧ c9 < 4294967296) 8 ?_ ?_ 0 _ _ _ (by omega) ?_
      · intro j H locs ls hj ⟨c9, r, f, hl, hlo, hF, hf, hN, hhi, hr9, he, hc9⟩ ih2
        have hO := hO.f1 hF (by omega)
        refine lv_iload hx hb d_M_multiply_35 (lv_at hl 0 rfl) ?_
        refine lv_bipush (v := nI 8) hx hb d_M_multiply_37 (by decide) ?_
        refine lv_icmp_ge (tgt := 105) hx hb d_M_multiply_39 (by decide) (fun hc => absurd hc (nI_ge (by omega) (by omega))) (fun _ => ?_)
        refine lv_lload hx hb d_M_multiply_42 (lv_at hl 1 rfl) ?_
        refine lv_aload_n hx hb d_M_multiply_44 rfl (lv_at hl 4 rfl) ?_
        refine lv_iload_n hx hb d_M_multiply_45 rfl (lv_at hl 2 rfl) ?_
        refine x_iald hx hb hI9 (hI_f hX hF hxz) (i) (rfl) (by omega) (by omega) (v := nI (dg vx i)) (hNx i hi) d_M_multiply_46 ?_
        refine lv_i2l (v := (nI (dg vx i)).toInt64) hx hb d_M_multiply_47 (rfl) ?_
        refine lv_ldc2 (v := (4294967295 : Int64)) hx hb hown (htw _ kw_328) d_M_multiply_48 ?_
        refine lv_land hx hb d_M_multiply_51 ?_
        refine x_topl (v := lN (dg vx i)) (il_m (dg_lt _ _)) ?_
        refine lv_aload_n hx hb d_M_multiply_52 rfl (lv_at hl 5 rfl) ?_
        refine lv_iload hx hb d_M_multiply_53 (lv_at hl 0 rfl) ?_
        refine x_iald hx hb hI9 (hI_f hY hF hyz) (j) (rfl) (by omega) (by omega) (v := nI (dg vy j)) (hNy j (by omega)) d_M_multiply_55 ?_
        refine lv_i2l (v := (nI (dg vy j)).toInt64) hx hb d_M_multiply_56 (rfl) ?_
        refine lv_ldc2 (v := (4294967295 : Int64)) hx hb hown (htw _ kw_328) d_M_multiply_57 ?_
        refine lv_land hx hb d_M_multiply_60 ?_
        refine x_topl (v := lN (dg vy j)) (il_m (dg_lt _ _)) ?_
        refine lv_lmul hx hb d_M_multiply_61 ?_
        refine x_topl (v := lN (dg vx i * dg vy j)) (lN_mul _ _) ?_
        refine lv_aload_n hx hb d_M_multiply_62 rfl (lv_at hl 3 rfl) ?_
        refine va_get (D := D) (ci := 1) (v := .ref (o + 22)) (C := "WideNumbersModel") (T := F_M) (N := 9) hx hb htw inM hown hK hO.1 0 rfl rfl 6 (by decide) (htw _ kw_282) (fun _ h9 => h9) rfl d_M_multiply_63 ?_
        refine lv_iload_n hx hb d_M_multiply_66 rfl (lv_at hl 2 rfl) ?_
        refine lv_iload hx hb d_M_multiply_67 (lv_at hl 0 rfl) ?_
        refine lv_iadd hx hb d_M_multiply_69 ?_
        refine x_topi (v := nI (i + j)) (nI_add _ _) ?_
        refine x_iald hx hb hI9 hf (i + j) (rfl) (by omega) (by omega) (v := nI (dg U (i + j))) (hhi _ (Nat.le_refl _) (by omega)) d_M_multiply_70 ?_
        refine lv_i2l (v := (nI (dg U (i + j))).toInt64) hx hb d_M_multiply_71 (rfl) ?_
        refine lv_ldc2 (v := (4294967295 : Int64)) hx hb hown (htw _ kw_328) d_M_multiply_72 ?_
        refine lv_land hx hb d_M_multiply_75 ?_
        refine x_topl (v := lN (dg U (i + j))) (il_m (dg_lt _ _)) ?_
        refine lv_ladd hx hb d_M_multiply_76 ?_
        refine lv_ladd hx hb d_M_multiply_77 ?_
        refine x_topl (v := lN (dg vx i * dg vy j + dg U (i + j) + c9)) (by rw [lN_add, lN_add, Nat.add_comm c9]) ?_
        have hd2 := dg_lt vy j
        have hd3 := dg_lt U (i + j)
        have hm : dg vx i * dg vy j ≤ 4294967295 * 4294967295 := Nat.mul_le_mul (by omega) (by omega)
        obtain ⟨S, hS⟩ : ∃ S, S = dg vx i * dg vy j + dg U (i + j) + c9 := ⟨_, rfl⟩
        rw [← hS]
        have hS64 : S < 18446744073709551616 := by omega
        refine lv_lstore hx hb d_M_multiply_78 hl (by decide) rfl (fun ls hl => ?_)
        have hl : lv_has ls 7 [(4, .long (lN S)), (6, .int (nI j)), (3, .int (nI i)), (0, .ref o), (1, .ref x), (2, .ref y)] := hl
        refine lv_aload_n hx hb d_M_multiply_80 rfl (lv_at hl 3 rfl) ?_
        refine va_get (D := D) (ci := 1) (v := .ref (o + 22)) (C := "WideNumbersModel") (T := F_M) (N := 9) hx hb htw inM hown hK hO.1 0 rfl rfl 6 (by decide) (htw _ kw_282) (fun _ h9 => h9) rfl d_M_multiply_81 ?_
        refine lv_iload_n hx hb d_M_multiply_84 rfl (lv_at hl 2 rfl) ?_
        refine lv_iload hx hb d_M_multiply_85 (lv_at hl 1 rfl) ?_
        refine lv_iadd hx hb d_M_multiply_87 ?_
        refine x_topi (v := nI (i + j)) (nI_add _ _) ?_
        refine lv_lload hx hb d_M_multiply_88 (lv_at hl 0 rfl) ?_
        refine lv_l2i (v := nI S) hx hb d_M_multiply_90 (lN_i _) ?_
        refine x_topi (v := nI (S % 4294967296)) ((iN_mod S).symm) ?_
        refine x_iast (A := fun q => q = o + 22) hx hb hI9 hf hlo (rfl) (i + j) (rfl) (by omega) (by omega) d_M_multiply_91 (fun H1 locs1 h1 hF1 hlo1 => ?_)
        refine lv_lload hx hb d_M_multiply_92 (lv_at hl 0 rfl) ?_
        refine lv_bipush (v := nI 32) hx hb d_M_multiply_94 (by decide) ?_
        refine lv_lushr (v := lN (S / 4294967296)) hx hb d_M_multiply_96 (jN_shr (k := 32) hS64 (by decide)) ?_
        refine lv_lstore hx hb d_M_multiply_97 hl (by decide) rfl (fun ls hl => ?_)
        have hl : lv_has ls 7 [(4, .long (lN (S / 4294967296))), (6, .int (nI j)), (3, .int (nI i)), (0, .ref o), (1, .ref x), (2, .ref y)] := hl
        refine lv_iinc (v := nI (j + 1)) (k := 1) hx hb d_M_multiply_99 hl rfl (nI_1 j) (by decide) rfl (fun ls hl => ?_)
        have hl : lv_has ls 7 [(6, .int (nI (j + 1))), (4, .long (lN (S / 4294967296))), (3, .int (nI i)), (0, .ref o), (1, .ref x), (2, .ref y)] := hl
        refine lv_goto (tgt := 35) hx hb d_M_multiply_102 (by decide) ?_
        have hl : lv_has ls 7 [(6, .int (nI (j + 1))), (4, .long (lN (S / 4294967296))), (3, .int (nI i)), (0, .ref o), (1, .ref x), (2, .ref y)] := lv_sub hl [0, 1, 2, 3, 4, 5] rfl
        refine ih2 H1 locs1 ls ⟨S / 4294967296, r + 2 ^ (32 * (i + j)) * (S % 4294967296), _, hl, hlo1, hF.tr hF1 (fun _ h => h), h1, NI_put hN hr9 (Nat.mod_lt _ (by decide)), fun k hk hkn => by rw [pk_un (by omega)]; exact hhi k (by omega) hkn, dg_alt hr9 (Nat.mod_lt _ (by decide)), ?_, by omega⟩
        rw [show i + (j + 1) = (i + j) + 1 from rfl, dg_mods, dg_mods vy j, pw_s]
        exact st_mul (show 2 ^ (32 * (i + j)) = 2 ^ (32 * i) * 2 ^ (32 * j) by rw [← Nat.pow_add]; congr 1; omega) he (by rw [← hS]; exact Nat.mod_add_div S 4294967296)
      · intro H locs ls ⟨c9, r, f, hl, hlo, hF, hf, hN, hhi, hr9, he, hc9⟩
        have hO := hO.f1 hF (by omega)
        refine lv_iload hx hb d_M_multiply_35 (lv_at hl 0 rfl) ?_
        refine lv_bipush (v := nI 8) hx hb d_M_multiply_37 (by decide) ?_
        refine lv_icmp_ge (tgt := 105) hx hb d_M_multiply_39 (by decide) (fun _ => ?_) (fun hc => absurd (nI_le (Nat.le_refl _) (by omega)) hc)
        have hrr := mo_16 hVlt hvy he
        rw [← hVs] at hrr
        refine lv_aload_n hx hb d_M_multiply_105 rfl (lv_at hl 3 rfl) ?_
        refine va_get (D := D) (ci := 1) (v := .ref (o + 22)) (C := "WideNumbersModel") (T := F_M) (N := 9) hx hb htw inM hown hK hO.1 0 rfl rfl 6 (by decide) (htw _ kw_282) (fun _ h9 => h9) rfl d_M_multiply_106 ?_
        refine lv_iload_n hx hb d_M_multiply_109 rfl (lv_at hl 2 rfl) ?_
        refine lv_bipush (v := nI 8) hx hb d_M_multiply_110 (by decide) ?_
        refine lv_iadd hx hb d_M_multiply_112 ?_
        refine x_topi (v := nI (i + 8)) (nI_add _ _) ?_
        refine lv_lload hx hb d_M_multiply_113 (lv_at hl 1 rfl) ?_
        refine lv_l2i (v := nI c9) hx hb d_M_multiply_115 (lN_i _) ?_
        refine x_iast (A := fun q => q = o + 22) hx hb hI9 hf hlo (rfl) (i + 8) (rfl) (by omega) (by omega) d_M_multiply_116 (fun H1 locs1 h1 hF1 hlo1 => ?_)
        refine lv_iinc (v := nI (i + 1)) (k := 2) hx hb d_M_multiply_117 hl rfl (nI_1 i) (by decide) rfl (fun ls hl => ?_)
        have hl : lv_has ls 7 [(3, .int (nI (i + 1))), (6, .int (nI 8)), (4, .long (lN c9)), (0, .ref o), (1, .ref x), (2, .ref y)] := hl
        refine lv_goto (tgt := 23) hx hb d_M_multiply_120 (by decide) ?_
        have hl : lv_has ls 7 [(3, .int (nI (i + 1))), (0, .ref o), (1, .ref x), (2, .ref y)] := lv_sub hl [0, 3, 4, 5] rfl
        have hN1 := NI_put hN hr9 hc9
        rw [hrr] at hN1
        refine ih _ _ ls ⟨_, hl, hlo1, hF.tr hF1 (fun _ h => h), h1, fun q hq => ?_⟩
        by_cases hq8 : q < i + 8 + 1
        · exact hN1 q hq8
        · rw [pk_un (by omega), hhi q (by omega) hq, dg_big (Nat.lt_of_lt_of_le hVlt (pw_le (by omega))), dg_big (Nat.lt_of_lt_of_le (mo_lt hvy) (pw_le (by omega)))]
      · exact ⟨0, U % 2 ^ (32 * i), f, hl, hlo, hF, hf, NI_cut hN (by omega), fun k hk hkn => hN k hkn, Nat.mod_lt _ (pw_pos _), by simp [Nat.mod_one], by decide⟩
    · intro H locs ls ⟨f, hl, hlo, hF, hf, hN⟩
      refine lv_iload_n hx hb d_M_multiply_23 rfl (lv_at hl 0 rfl) ?_
      refine lv_bipush (v := nI 8) hx hb d_M_multiply_24 (by decide) ?_
      refine lv_icmp_ge (tgt := 123) hx hb d_M_multiply_26 (by decide) (fun _ => ?_) (fun hc => absurd (nI_le (Nat.le_refl _) (by omega)) hc)
      rw [Nat.mod_eq_of_lt (show vx < 2 ^ (32 * 8) from hvx)] at hN
      exact W.vret hx hb hr (fun t ht hW => ⟨rfl, by rw [ht, ← hG0]; exact hF, f, by rw [ht]; exact hf, hN⟩) hlo d_M_multiply_123
    · exact ⟨f, hl, hlo, hF, hf, fun j hj => by rw [hN j hj, show 2 ^ (32 * 0) = 1 from rfl, Nat.mod_one, Nat.zero_mul]⟩
  · exact ⟨fw, hl, hlo, XF.rf, hz, NI_0⟩
