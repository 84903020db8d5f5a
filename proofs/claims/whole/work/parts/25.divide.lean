-- contract of divide
set_option maxHeartbeats 4000000 in
set_option maxRecDepth 100000 in
theorem c_divide (l : Launch) (D : va_G) (cJ cI cQ cR : ClassId) (o x y n vx vy : Nat) (fq fr fx fy : Nat → Int64) (hn : n = 8 ∨ n = 16) (hxn : ¬ DA o x) (hyn : ¬ DA o y) (hvx : vx < 2 ^ (32 * n)) (hvy : vy < 2 ^ 256) (hNx : NL fx n vx) (hNy : NL fy 8 vy) : Met l y_C_divide w_C_divide { frames := 2, cells := 0, slots := 0, locals := 42 } (xP D vwCl (TY cJ cI cQ cR) [.ref o, .ref x, .ref y] (fun H => CB D cQ o H ∧ hL H cJ (o + 22) 16 fq ∧ hL H cJ (o + 23) 8 fr ∧ hL H cJ x n fx ∧ hL H cJ y 8 fy)) (xQv (fun H0 H => XF (DA o) H0 H ∧ ∃ (f g : Nat → Int64), hL H cJ (o + 22) 16 f ∧ NL f 16 (vx / vy) ∧ hL H cJ (o + 23) 8 g ∧ NL g 8 (if vy = 0 then 0 else vx % vy))) 0 0 (DA o) := by
  refine Met.ofW (cc := b_C_divide) (maxL := 6) (ret := none) (by decide) rfl ?_
  intro p e s m args below meth c s₁ B hml hv
  obtain ⟨rfl, hK, ⟨hO0, hq0, hr0, hX0, hY0⟩⟩ := hv
  have hx := B.exec
  have hb := B.bytes
  have hr := B.returns
  have hts := atoms_spec (ws := w_C_divide) B.pre
  have htw : ∀ w ∈ WT, w.before _ s = true := fun w h => hts w (List.mem_cons_of_mem _ h)
  have hown : s.vm.findClass "WideNumbers" = some m.cls := findClass_of_methodNamed B.named
  have hlocks := B.notSynchronized
  have hJ : ArrOfT s cJ .long := (hK.2 0 _ rfl).1
  have hI9 : ArrOfT s cI .int := (hK.2 1 _ rfl).1
  have hl := lv_entry ([.ref o, .ref x, .ref y]) (n := 6) (Nat.le_of_ble_eq_true rfl)
  rw [lg_entry_eq]
  generalize (lg_sl ([.ref o, .ref x, .ref y]) ++ List.replicate (6 - (lg_sl ([.ref o, .ref x, .ref y])).length) Slot.unset).toArray = ls at hl ⊢
  have hl : lv_has ls 6 [(0, .ref o), (1, .ref x), (2, .ref y)] := hl
  have hn16 : n ≤ 16 := by omega
  have hlo : ∀ q ∈ ([] : List Loc), DA o q.base := fun _ h => nomatch h
  refine lv_aload_n hx hb d_C_divide_0 rfl (lv_at hl 0 rfl) ?_
  refine va_get (D := D) (ci := 0) (v := .ref (o + 22)) (C := "WideNumbers") (T := F_C) (N := 7) hx hb htw inC hown hK hO0.1 0 rfl rfl 5 (by decide) (htw _ kw_25) (fun _ h9 => h9) rfl d_C_divide_1 ?_
  refine lv_lconst (v := lN 0) hx hb d_C_divide_4 (by decide) ?_
  refine x_callv (A := DA o) (va_runS (As := [.ref (o + 22), .long (lN 0)]) (rest := []) ⟨hx, hb, hml, hown, htw⟩ (c_fill l D cJ cI cQ cR (o + 22) 16 (lN 0) fq (by decide)) (xcS 2 htw kw_156 kw_7 kw_154 kw_155 rfl rfl ⟨by decide, by decide, by decide +kernel⟩ ⟨Nat.le_of_ble_eq_true rfl, Nat.le_of_ble_eq_true rfl⟩) (xPre hK hq0) rfl rfl hl.1 rfl (lv_room (Nat.le_of_ble_eq_true rfl)) d_C_divide_5 ⟨Nat.le_of_ble_eq_true rfl, Nat.le_of_ble_eq_true rfl⟩) hlo (fun _ h => Or.inl h) (fun H1 locs1 hB1 hlo => ?_)
  obtain ⟨hF1, f1, hf1, hN1⟩ := hB1
  have hO1 := hO0.f1 hF1 (by omega)
  have hr1 := hL_f hr0 hF1 (show o + 23 ≠ o + 22 by omega)
  refine lv_aload_n hx hb d_C_divide_8 rfl (lv_at hl 0 rfl) ?_
  refine va_get (D := D) (ci := 0) (v := .ref (o + 23)) (C := "WideNumbers") (T := F_C) (N := 7) hx hb htw inC hown hK hO1.1 0 rfl rfl 6 (by decide) (htw _ kw_26) (fun _ h9 => h9) rfl d_C_divide_9 ?_
  refine lv_lconst (v := lN 0) hx hb d_C_divide_12 (by decide) ?_
  refine x_callv (A := DA o) (va_runS (As := [.ref (o + 23), .long (lN 0)]) (rest := []) ⟨hx, hb, hml, hown, htw⟩ (c_fill l D cJ cI cQ cR (o + 23) 8 (lN 0) fr (by decide)) (xcS 2 htw kw_156 kw_7 kw_154 kw_155 rfl rfl ⟨by decide, by decide, by decide +kernel⟩ ⟨Nat.le_of_ble_eq_true rfl, Nat.le_of_ble_eq_true rfl⟩) (xPre hK hr1) rfl rfl hl.1 rfl (lv_room (Nat.le_of_ble_eq_true rfl)) d_C_divide_13 ⟨Nat.le_of_ble_eq_true rfl, Nat.le_of_ble_eq_true rfl⟩) hlo (fun _ h => Or.inr h) (fun H2 locs2 hB2 hlo => ?_)
  obtain ⟨hF2, f2, hf2, hN2⟩ := hB2
  have hq2 := hL_f hf1 hF2 (show o + 22 ≠ o + 23 by omega)
  have hFF : XF (DA o) s.heap H2 := (hF1.wk (fun _ h => Or.inl h)).tr (hF2.wk (B := DA o) (fun _ h => Or.inr h)) (fun _ h => h)
  have hNz1 : NL f1 16 0 := fun j hj => by rw [hN1 j hj, dg_0]
  have hNz2 : NL f2 8 0 := fun j hj => by rw [hN2 j hj, dg_0]
  refine lv_aload_n hx hb d_C_divide_16 rfl (lv_at hl 2 rfl) ?_
  refine x_calli (A := DA o) (va_runS (As := [.ref y]) (rest := []) ⟨hx, hb, hml, hown, htw⟩ (c_usedBits l D cJ cI cQ cR y 8 vy fy (by decide) hvy hNy) (xcS 1 htw kw_163 kw_1 kw_161 kw_162 rfl rfl ⟨by decide, by decide, by decide +kernel⟩ ⟨Nat.le_of_ble_eq_true rfl, Nat.le_of_ble_eq_true rfl⟩) (xPre hK (hL_f hY0 hFF hyn)) rfl rfl hl.1 rfl (lv_room (Nat.le_of_ble_eq_true rfl)) d_C_divide_17 ⟨Nat.le_of_ble_eq_true rfl, Nat.le_of_ble_eq_true rfl⟩) hlo (fun _ h => h.elim) (fun r3 H3 locs3 hB3 hlo => ?_)
  obtain ⟨rfl, k, rfl, ⟨hk, hk2⟩, hk3⟩ := hB3
  refine lv_if_ne (tgt := 24) hx hb d_C_divide_20 (by decide) (fun hc => ?_) (fun hc => ?_)
  · have hkp : k ≠ 0 := fun h => hc (by rw [h]; rfl)
    have hvp : 0 < vy := Nat.lt_of_lt_of_le (pw_pos (k - 1)) (hk2.resolve_left hkp)
    refine lv_aload_n hx hb d_C_divide_24 rfl (lv_at hl 1 rfl) ?_
    refine x_calli (A := DA o) (va_runS (As := [.ref x]) (rest := []) ⟨hx, hb, hml, hown, htw⟩ (c_usedBits l D cJ cI cQ cR x n vx fx hn16 hvx hNx) (xcS 1 htw kw_163 kw_1 kw_161 kw_162 rfl rfl ⟨by decide, by decide, by decide +kernel⟩ ⟨Nat.le_of_ble_eq_true rfl, Nat.le_of_ble_eq_true rfl⟩) (xPre hK (hL_f hX0 hFF hxn)) rfl rfl hl.1 rfl (lv_room (Nat.le_of_ble_eq_true rfl)) d_C_divide_25 ⟨Nat.le_of_ble_eq_true rfl, Nat.le_of_ble_eq_true rfl⟩) hlo (fun _ h => h.elim) (fun r4 H4 locs4 hB4 hlo => ?_)
    obtain ⟨rfl, kx, rfl, ⟨hkx, hkx2⟩, hkx3⟩ := hB4
    refine lv_iconst (v := nI 1) hx hb d_C_divide_28 (by decide) ?_
    refine lv_isub hx hb d_C_divide_29 ?_
    refine x_topi (v := nI kx - 1) (rfl) ?_
    refine lv_istore_n hx hb d_C_divide_30 rfl hl (by decide) rfl (fun ls hl => ?_)
    have hl : lv_has ls 6 [(3, .int (nI kx - 1)), (0, .ref o), (1, .ref x), (2, .ref y)] := hl
    have hl : lv_has ls 6 [(3, .int (nI kx - 1)), (0, .ref o), (1, .ref x), (2, .ref y)] := lv_sub hl [0, 1, 2, 3] rfl
    refine x_loopD 31 (fun i H locs ls => i ≤ kx ∧ ∃ (fq fr : Nat → Int64), lv_has ls 6 [(3, .int (nI i - 1)), (0, .ref o), (1, .ref x), (2, .ref y)] ∧ (∀ q ∈ locs, DA o q.base) ∧ XF (DA o) s.heap H ∧ hL H cJ (o + 22) 16 fq ∧ NL fq 16 (vx / 2 ^ i / vy * 2 ^ i) ∧ hL H cJ (o + 23) 8 fr ∧ NL fr 8 (vx / 2 ^ i % vy)) ?_ ?_ kx _ _ _ ?_
    · intro i H locs ls ⟨hi, fq, fr, hl, hlo, hF, hq, hNq, hrm, hNr⟩ ih
      have hO := hO0.fD hF
      have hb := hb
      have hbit : vx / 2 ^ i % 2 ≤ 1 := by omega
      have hT := dv_b vx i
      generalize hbb : vx / 2 ^ i % 2 = b0 at hbit hT
      have hRlt := Nat.mod_lt (vx / 2 ^ (i + 1)) hvp
      refine lv_iload_n hx hb d_C_divide_31 rfl (lv_at hl 0 rfl) ?_
      refine x_topi (v := nI i) (nI_pred i) ?_
      refine lv_if_lt (tgt := 103) hx hb d_C_divide_32 (by decide) (fun hc => absurd hc (nI_pos (by omega))) (fun _ => ?_)
      refine lv_aload_n hx hb d_C_divide_35 rfl (lv_at hl 1 rfl) ?_
      refine va_get (D := D) (ci := 0) (v := .ref (o + 23)) (C := "WideNumbers") (T := F_C) (N := 7) hx hb htw inC hown hK hO.1 0 rfl rfl 6 (by decide) (htw _ kw_26) (fun _ h9 => h9) rfl d_C_divide_36 ?_
      refine lv_aload_n hx hb d_C_divide_39 rfl (lv_at hl 2 rfl) ?_
      refine lv_iload_n hx hb d_C_divide_40 rfl (lv_at hl 0 rfl) ?_
      refine x_topi (v := nI i) (nI_pred i) ?_
      refine x_calll (A := DA o) (va_runS (As := [.ref x, .int (nI i)]) (rest := [.ref (o + 23)]) ⟨hx, hb, hml, hown, htw⟩ (c_bitAt l D cJ cI cQ cR x n i vx fx hn16 (by omega) hNx) (xcS 2 htw kw_170 kw_1 kw_168 kw_169 rfl rfl ⟨by decide, by decide, by decide +kernel⟩ ⟨Nat.le_of_ble_eq_true rfl, Nat.le_of_ble_eq_true rfl⟩) (xPre hK (hL_f hX0 hF hxn)) rfl rfl hl.1 rfl (lv_room (Nat.le_of_ble_eq_true rfl)) d_C_divide_41 ⟨Nat.le_of_ble_eq_true rfl, Nat.le_of_ble_eq_true rfl⟩) hlo (fun _ h => h.elim) (fun r5 H5 locs5 hB5 hlo => ?_)
      obtain ⟨rfl, rfl⟩ := hB5
      rw [hbb]
      refine x_calll (A := DA o) (va_runS (As := [.ref (o + 23), .long (lN b0)]) (rest := []) ⟨hx, hb, hml, hown, htw⟩ (c_dbl l D cJ cI cQ cR (o + 23) (vx / 2 ^ (i + 1) % vy) b0 fr (by omega) hbit hNr) (xcS 2 htw kw_173 kw_1 kw_171 kw_172 rfl rfl ⟨by decide, by decide, by decide +kernel⟩ ⟨Nat.le_of_ble_eq_true rfl, Nat.le_of_ble_eq_true rfl⟩) (xPre hK hrm) rfl rfl hl.1 rfl (lv_room (Nat.le_of_ble_eq_true rfl)) d_C_divide_44 ⟨Nat.le_of_ble_eq_true rfl, Nat.le_of_ble_eq_true rfl⟩) hlo (fun _ h => Or.inr h) (fun r6 H6 locs6 hB6 hlo => ?_)
      obtain ⟨hF6, c6, v6, f6, rfl, hf6, hN6, hv6, he6, hc6⟩ := hB6
      have hO6 := hO.f1 hF6 (by omega)
      have hq6 := hL_f hq hF6 (show o + 22 ≠ o + 23 by omega)
      have hFF6 := hF.tr (hF6.wk (B := DA o) (fun _ h => Or.inr h)) (fun _ h => h)
      refine lv_lstore hx hb d_C_divide_47 hl (by decide) rfl (fun ls hl => ?_)
      have hl : lv_has ls 6 [(4, .long (lN c6)), (3, .int (nI (i + 1) - 1)), (0, .ref o), (1, .ref x), (2, .ref y)] := hl
      refine x_cut 67 (fun H0 locs0 ls0 => H0 = H6 ∧ (∀ q ∈ locs0, DA o q.base) ∧ lv_has ls0 6 [(4, .long (lN c6)), (3, .int (nI (i + 1) - 1)), (0, .ref o), (1, .ref x), (2, .ref y)] ∧ vy ≤ v6 + 2 ^ 256 * c6) ?_ (fun J => ?_)
      · rintro H0 locs0 ls ⟨rfl, hlo, hl, hge⟩
        refine lv_aload_n hx hb d_C_divide_67 rfl (lv_at hl 2 rfl) ?_
        refine va_get (D := D) (ci := 0) (v := .ref (o + 23)) (C := "WideNumbers") (T := F_C) (N := 7) hx hb htw inC hown hK hO6.1 0 rfl rfl 6 (by decide) (htw _ kw_26) (fun _ h9 => h9) rfl d_C_divide_68 ?_
        refine lv_aload_n hx hb d_C_divide_71 rfl (lv_at hl 2 rfl) ?_
        refine va_get (D := D) (ci := 0) (v := .ref (o + 23)) (C := "WideNumbers") (T := F_C) (N := 7) hx hb htw inC hown hK hO6.1 0 rfl rfl 6 (by decide) (htw _ kw_26) (fun _ h9 => h9) rfl d_C_divide_72 ?_
        refine lv_aload_n hx hb d_C_divide_75 rfl (lv_at hl 4 rfl) ?_
        refine x_callv (A := DA o) (va_runS (As := [.ref (o + 23), .ref (o + 23), .ref y]) (rest := []) ⟨hx, hb, hml, hown, htw⟩ (c_subtract l D cJ cI cQ cR (o + 23) (o + 23) y v6 vy f6 f6 fy (fun e => hyn (Or.inr e)) hv6 hvy hN6 hNy) (xcS 3 htw kw_150 kw_1 kw_148 kw_149 rfl rfl ⟨by decide, by decide, by decide +kernel⟩ ⟨Nat.le_of_ble_eq_true rfl, Nat.le_of_ble_eq_true rfl⟩) (xPre hK ⟨hf6, hf6, hL_f hY0 hFF6 hyn⟩) rfl rfl hl.1 rfl (lv_room (Nat.le_of_ble_eq_true rfl)) d_C_divide_76 ⟨Nat.le_of_ble_eq_true rfl, Nat.le_of_ble_eq_true rfl⟩) hlo (fun _ h => Or.inr h) (fun H7 locs7 hB7 hlo => ?_)
        obtain ⟨hF7, v7, b7, f7, hf7, hN7, hv7, he7, hb7⟩ := hB7
        have hO7 := hO6.f1 hF7 (by omega)
        have hq7 := hL_f hq6 hF7 (show o + 22 ≠ o + 23 by omega)
        have hFF7 := hFF6.tr (hF7.wk (B := DA o) (fun _ h => Or.inr h)) (fun _ h => h)
        have hdv := dv_ge hbit (show vy ≤ 2 * (vx / 2 ^ (i + 1) % vy) + b0 by omega) hvp
        rw [← hT] at hdv
        have hv7e : v7 = vx / 2 ^ i % vy := by omega
        rw [q_tw] at hNq
        refine lv_aload_n hx hb d_C_divide_79 rfl (lv_at hl 2 rfl) ?_
        refine va_get (D := D) (ci := 0) (v := .ref (o + 22)) (C := "WideNumbers") (T := F_C) (N := 7) hx hb htw inC hown hK hO7.1 0 rfl rfl 5 (by decide) (htw _ kw_25) (fun _ h9 => h9) rfl d_C_divide_80 ?_
        refine lv_iload_n hx hb d_C_divide_83 rfl (lv_at hl 1 rfl) ?_
        refine x_topi (v := nI i) (nI_pred i) ?_
        refine lv_bipush (v := nI 32) hx hb d_C_divide_84 (by decide) ?_
        refine lv_idiv hx hb d_C_divide_86 (by decide) ?_
        refine x_topi (v := nI (i / 32)) (pk_div (by omega) (by decide) (by decide)) ?_
        refine lv_dup2_11 hx hb d_C_divide_87 rfl rfl ?_
        refine x_lald hx hb hJ hq7 (i / 32) (rfl) (by omega) (by omega) (v := lN (dg (2 * (vx / 2 ^ (i + 1) / vy) * 2 ^ i) (i / 32))) (hNq _ (by omega)) d_C_divide_88 ?_
        refine lv_lconst (v := lN 1) hx hb d_C_divide_89 (by decide) ?_
        refine lv_iload_n hx hb d_C_divide_90 rfl (lv_at hl 1 rfl) ?_
        refine x_topi (v := nI i) (nI_pred i) ?_
        refine lv_bipush (v := nI 32) hx hb d_C_divide_91 (by decide) ?_
        refine lv_irem hx hb d_C_divide_93 (by decide) ?_
        refine x_topi (v := nI (i % 32)) (pk_rem (by omega) (by decide) (by decide)) ?_
        refine lv_lshl (v := lN (2 ^ (i % 32))) hx hb d_C_divide_94 (by rw [jN_shl 1 (by omega), Nat.one_mul]) ?_
        refine lv_lor hx hb d_C_divide_95 ?_
        refine x_topl (v := lN (dg (2 * (vx / 2 ^ (i + 1) / vy) * 2 ^ i) (i / 32) ||| 2 ^ (i % 32))) (jN_or _ _) ?_
        refine x_last (A := DA o) hx hb hJ hq7 hlo (Or.inl rfl) (i / 32) (rfl) (by omega) (by omega) d_C_divide_96 (fun H8 locs8 h8 hF8 hlo => ?_)
        refine lv_iinc (v := nI i - 1) (k := 1) hx hb d_C_divide_97 hl rfl (i_dec i) (by decide) rfl (fun ls hl => ?_)
        have hl : lv_has ls 6 [(3, .int (nI i - 1)), (4, .long (lN c6)), (0, .ref o), (1, .ref x), (2, .ref y)] := hl
        refine lv_goto (tgt := 31) hx hb d_C_divide_100 (by decide) ?_
        have hl : lv_has ls 6 [(3, .int (nI i - 1)), (0, .ref o), (1, .ref x), (2, .ref y)] := lv_sub hl [0, 2, 3, 4] rfl
        refine ih _ _ ls ⟨by omega, _, f7, hl, hlo, hFF7.tr (hF8.wk (B := DA o) (fun _ h => Or.inl h)) (fun _ h => h), h8, fun j hj => ?_, hL_f hf7 hF8 (show o + 23 ≠ o + 22 by omega), by rw [← hv7e]; exact hN7⟩
        rw [hdv.1, q_bit]
        by_cases hj2 : j = i / 32
        · rw [if_pos hj2, hj2, pk_uLs]
        · rw [if_neg hj2, pk_uLn hj2]; exact hNq j hj
      · refine lv_lload hx hb d_C_divide_49 (lv_at hl 0 rfl) ?_
        refine lv_lconst (v := lN 0) hx hb d_C_divide_51 (by decide) ?_
        refine W.lcmp hx hb d_C_divide_52 ?_
        refine lv_if_ne (tgt := 67) hx hb d_C_divide_53 (by decide) (fun hc => ?_) (fun hc => ?_)
        · have hc1 : c6 ≠ 0 := fun h => hc ((cmp_eq _ _).mpr (by rw [h]))
          exact J _ _ ls ⟨rfl, hlo, hl, by omega⟩
        · have hc0 : c6 = 0 := (jN_eq (by omega) (by decide)).mp ((cmp_eq _ _).mp hc)
          refine lv_aload_n hx hb d_C_divide_56 rfl (lv_at hl 2 rfl) ?_
          refine va_get (D := D) (ci := 0) (v := .ref (o + 23)) (C := "WideNumbers") (T := F_C) (N := 7) hx hb htw inC hown hK hO6.1 0 rfl rfl 6 (by decide) (htw _ kw_26) (fun _ h9 => h9) rfl d_C_divide_57 ?_
          refine lv_aload_n hx hb d_C_divide_60 rfl (lv_at hl 4 rfl) ?_
          refine x_calli (A := DA o) (va_runS (As := [.ref (o + 23), .ref y]) (rest := []) ⟨hx, hb, hml, hown, htw⟩ (c_order l D cJ cI cQ cR (o + 23) y v6 vy f6 fy hv6 hvy hN6 hNy) (xcS 2 htw kw_176 kw_1 kw_174 kw_175 rfl rfl ⟨by decide, by decide, by decide +kernel⟩ ⟨Nat.le_of_ble_eq_true rfl, Nat.le_of_ble_eq_true rfl⟩) (xPre hK ⟨hf6, hL_f hY0 hFF6 hyn⟩) rfl rfl hl.1 rfl (lv_room (Nat.le_of_ble_eq_true rfl)) d_C_divide_61 ⟨Nat.le_of_ble_eq_true rfl, Nat.le_of_ble_eq_true rfl⟩) hlo (fun _ h => h.elim) (fun r9 H9 locs9 hB9 hlo9 => ?_)
          obtain ⟨rfl, rfl⟩ := hB9
          refine lv_if_lt (tgt := 97) hx hb d_C_divide_64 (by decide) (fun hc2 => ?_) (fun hc2 => ?_)
          · have hlt : v6 < vy := Nat.lt_of_not_le (fun h => by
              unfold ordv at hc2
              rw [if_neg (by omega)] at hc2
              split at hc2 <;> exact absurd hc2 (by decide))
            have hdv := dv_lt (T := vx / 2 ^ (i + 1)) (b := b0) (d := vy) (by omega)
            rw [← hT] at hdv
            rw [q_tw] at hNq
            refine lv_iinc (v := nI i - 1) (k := 1) hx hb d_C_divide_97 hl rfl (i_dec i) (by decide) rfl (fun ls hl => ?_)
            have hl : lv_has ls 6 [(3, .int (nI i - 1)), (4, .long (lN c6)), (0, .ref o), (1, .ref x), (2, .ref y)] := hl
            refine lv_goto (tgt := 31) hx hb d_C_divide_100 (by decide) ?_
            have hl : lv_has ls 6 [(3, .int (nI i - 1)), (0, .ref o), (1, .ref x), (2, .ref y)] := lv_sub hl [0, 2, 3, 4] rfl
            exact ih _ _ ls ⟨by omega, fq, f6, hl, hlo9, hFF6, hq6, by rw [hdv.1]; exact hNq, hf6, by rw [hdv.2, show 2 * (vx / 2 ^ (i + 1) % vy) + b0 = v6 by omega]; exact hN6⟩
          · have hge : vy ≤ v6 := Nat.le_of_not_lt (fun h => hc2 (by unfold ordv; rw [if_pos h]; decide))
            exact J _ _ ls ⟨rfl, hlo9, hl, by omega⟩
    · intro H locs ls ⟨hi, fq, fr, hl, hlo, hF, hq, hNq, hrm, hNr⟩
      refine lv_iload_n hx hb d_C_divide_31 rfl (lv_at hl 0 rfl) ?_
      refine lv_if_lt (tgt := 103) hx hb d_C_divide_32 (by decide) (fun _ => ?_) (fun hc => absurd (by decide) hc)
      rw [Nat.pow_zero, Nat.div_one, Nat.mul_one] at hNq
      rw [Nat.pow_zero, Nat.div_one] at hNr
      exact W.vret hx hb hr (fun t ht hW => ⟨rfl, by rw [ht]; exact hF, fq, fr, by rw [ht]; exact hq, hNq, by rw [ht]; exact hrm, by rw [if_neg (by omega)]; exact hNr⟩) hlo d_C_divide_103
    · exact ⟨Nat.le_refl _, f1, f2, hl, hlo, hFF, hq2, by rw [Nat.div_eq_of_lt hkx, Nat.zero_div, Nat.zero_mul]; exact hNz1, hf2, by rw [Nat.div_eq_of_lt hkx, Nat.zero_mod]; exact hNz2⟩
  · have hk0 : k = 0 := (nI_eq (by omega) (by decide)).mp (hc.trans nI_0.symm)
    have hv0 : vy = 0 := by subst hk0; simpa using hk
    exact W.vret hx hb hr (fun t ht hW => ⟨rfl, by rw [ht]; exact hFF, f1, f2, by rw [ht]; exact hq2, by rw [hv0, Nat.div_zero]; exact hNz1, by rw [ht]; exact hf2, by rw [if_pos hv0]; exact hNz2⟩) hlo d_C_divide_23
