-- contracts of the reference: divideWide, divide
set_option maxHeartbeats 4000000 in
set_option maxRecDepth 100000 in
theorem m_divideWide (l : Launch) (D : va_G) (cJ cI cQ cR : ClassId) (o y u vy nb : Nat) (fl : Int32) (fw fq fr fy : Nat → Int32) (hnb : nb ≤ 512) (hyn : ¬ WA o y) (hu : u < 2 ^ nb) (hvy : vy < 2 ^ 256) (hvp : 0 < vy) (hNw : NI fw 17 u) (hNy : NI fy 8 vy) : Met l y_M_divideWide w_M_divideWide { frames := 0, cells := 0, slots := 0, locals := 0 } (xP D vwCl (TY cJ cI cQ cR) [.ref o, .ref y, .int (nI nb)] (fun H => MB D cR o fl H ∧ hI H cI (o + 22) 17 fw ∧ hI H cI (o + 23) 16 fq ∧ hI H cI (o + 24) 9 fr ∧ hI H cI y 8 fy)) (xQv (fun H0 H => XF (WA o) H0 H ∧ ∃ (f g : Nat → Int32), hI H cI (o + 23) 16 f ∧ NI f 16 (u / vy) ∧ hI H cI (o + 24) 9 g ∧ NI g 9 (u % vy))) 0 0 (WA o) := by
  refine Met.ofW (cc := b_M_divideWide) (maxL := 9) (ret := none) (by decide) rfl ?_
  intro p e s m args below meth c s₁ B hml hv
  obtain ⟨rfl, hK, ⟨hO0, hw0, hq0, hr0, hY0⟩⟩ := hv
  have hx := B.exec
  have hb := B.bytes
  have hr := B.returns
  have hts := atoms_spec (ws := w_M_divideWide) B.pre
  have htw : ∀ w ∈ WT, w.before _ s = true := fun w h => hts w (List.mem_cons_of_mem _ h)
  have hown : s.vm.findClass "WideNumbersModel" = some m.cls := findClass_of_methodNamed B.named
  have hlocks := B.notSynchronized
  have hJ : ArrOfT s cJ .long := (hK.2 0 _ rfl).1
  have hI9 : ArrOfT s cI .int := (hK.2 1 _ rfl).1
  have hl := lv_entry ([.ref o, .ref y, .int (nI nb)]) (n := 9) (Nat.le_of_ble_eq_true rfl)
  rw [lg_entry_eq]
  generalize (lg_sl ([.ref o, .ref y, .int (nI nb)]) ++ List.replicate (9 - (lg_sl ([.ref o, .ref y, .int (nI nb)])).length) Slot.unset).toArray = ls at hl ⊢
  have hl : lv_has ls 9 [(0, .ref o), (1, .ref y), (2, .int (nI nb))] := hl
  have hlo : ∀ q ∈ ([] : List Loc), WA o q.base := fun _ h => nomatch h
  obtain ⟨G0, hG0⟩ : ∃ G0, G0 = s.heap := ⟨_, rfl⟩
  have hO := hO0
  rw [← hG0] at hO ⊢
  have hz := hq0
  rw [← hG0] at hz
  refine lv_iconst (v := nI 0) hx hb d_M_divideWide_0 (by decide) ?_
  refine lv_istore_n hx hb d_M_divideWide_1 rfl hl (by decide) rfl (fun ls hl => ?_)
  have hl : lv_has ls 9 [(3, .int (nI 0)), (0, .ref o), (1, .ref y), (2, .int (nI nb))] := hl
  have hl : lv_has ls 9 [(3, .int (nI 0)), (0, .ref o), (1, .ref y), (2, .int (nI nb))] := lv_sub hl [0, 1, 2, 3] rfl
  refine x_loop 2 (fun i H locs ls => ∃ f : Nat → Int32, lv_has ls 9 [(3, .int (nI i)), (0, .ref o), (1, .ref y), (2, .int (nI nb))] ∧ (∀ q ∈ locs, WA o q.base) ∧ XF (fun q => q = o + 23) G0 H ∧ hI H cI (o + 23) 16 f ∧ NI f i 0) 16 ?_ ?_ 0 _ _ _ (by omega) ?_
  · intro i H locs ls hi ⟨f, hl, hlo, hF, hf, hN⟩ ih
    refine lv_iload_n hx hb d_M_divideWide_2 rfl (lv_at hl 0 rfl) ?_
    refine lv_bipush (v := nI 16) hx hb d_M_divideWide_3 (by decide) ?_
    refine lv_icmp_ge (tgt := 21) hx hb d_M_divideWide_5 (by decide) (fun hc => absurd hc (nI_ge (by omega) (by omega))) (fun _ => ?_)
    have hO := hO.f1 hF (by omega)
    refine lv_aload_n hx hb d_M_divideWide_8 rfl (lv_at hl 1 rfl) ?_
    refine va_get (D := D) (ci := 1) (v := .ref (o + 23)) (C := "WideNumbersModel") (T := F_M) (N := 9) hx hb htw inM hown hK hO.1 0 rfl rfl 7 (by decide) (htw _ kw_283) (fun _ h9 => h9) rfl d_M_divideWide_9 ?_
    refine lv_iload_n hx hb d_M_divideWide_12 rfl (lv_at hl 0 rfl) ?_
    refine lv_iconst (v := nI 0) hx hb d_M_divideWide_13 (by decide) ?_
    refine x_iast (A := WA o) hx hb hI9 hf hlo (Or.inl rfl) (i) (rfl) (by omega) (by omega) d_M_divideWide_14 (fun H1 locs1 h1 hF1 hlo1 => ?_)
    refine lv_iinc (v := nI (i + 1)) (k := 0) hx hb d_M_divideWide_15 hl rfl (nI_1 i) (by decide) rfl (fun ls hl => ?_)
    have hl : lv_has ls 9 [(3, .int (nI (i + 1))), (0, .ref o), (1, .ref y), (2, .int (nI nb))] := hl
    refine lv_goto (tgt := 2) hx hb d_M_divideWide_18 (by decide) ?_
    have hl : lv_has ls 9 [(3, .int (nI (i + 1))), (0, .ref o), (1, .ref y), (2, .int (nI nb))] := lv_sub hl [0, 1, 2, 3] rfl
    exact ih H1 locs1 ls ⟨_, hl, hlo1, hF.tr hF1 (fun _ h => h), h1, NI_m0 hN⟩
  · intro G1 locs ls ⟨f1, hl, hlo, hF1, hf1, hN1⟩
    refine lv_iload_n hx hb d_M_divideWide_2 rfl (lv_at hl 0 rfl) ?_
    refine lv_bipush (v := nI 16) hx hb d_M_divideWide_3 (by decide) ?_
    refine lv_icmp_ge (tgt := 21) hx hb d_M_divideWide_5 (by decide) (fun _ => ?_) (fun hc => absurd (nI_le (Nat.le_refl _) (by omega)) hc)
    have hO1 := hO.f1 hF1 (by omega)
    have hr1 := hI_f (hG0 ▸ hr0 : hI G0 cI (o + 24) 9 fr) hF1 (show o + 24 ≠ o + 23 by omega)
    refine lv_iconst (v := nI 0) hx hb d_M_divideWide_21 (by decide) ?_
    refine lv_istore_n hx hb d_M_divideWide_22 rfl hl (by decide) rfl (fun ls hl => ?_)
    have hl : lv_has ls 9 [(3, .int (nI 0)), (0, .ref o), (1, .ref y), (2, .int (nI nb))] := hl
    have hl : lv_has ls 9 [(3, .int (nI 0)), (0, .ref o), (1, .ref y), (2, .int (nI nb))] := lv_sub hl [0, 1, 2, 3] rfl
    refine x_loop 23 (fun i H locs ls => ∃ f : Nat → Int32, lv_has ls 9 [(3, .int (nI i)), (0, .ref o), (1, .ref y), (2, .int (nI nb))] ∧ (∀ q ∈ locs, WA o q.base) ∧ XF (fun q => q = o + 24) G1 H ∧ hI H cI (o + 24) 9 f ∧ NI f i 0) 9 ?_ ?_ 0 _ _ _ (by omega) ?_
    · intro i H locs ls hi ⟨f, hl, hlo, hF, hf, hN⟩ ih
      refine lv_iload_n hx hb d_M_divideWide_23 rfl (lv_at hl 0 rfl) ?_
      refine lv_bipush (v := nI 9) hx hb d_M_divideWide_24 (by decide) ?_
      refine lv_icmp_ge (tgt := 42) hx hb d_M_divideWide_26 (by decide) (fun hc => absurd hc (nI_ge (by omega) (by omega))) (fun _ => ?_)
      have hO := hO1.f1 hF (by omega)
      refine lv_aload_n hx hb d_M_divideWide_29 rfl (lv_at hl 1 rfl) ?_
      refine va_get (D := D) (ci := 1) (v := .ref (o + 24)) (C := "WideNumbersModel") (T := F_M) (N := 9) hx hb htw inM hown hK hO.1 0 rfl rfl 8 (by decide) (htw _ kw_284) (fun _ h9 => h9) rfl d_M_divideWide_30 ?_
      refine lv_iload_n hx hb d_M_divideWide_33 rfl (lv_at hl 0 rfl) ?_
      refine lv_iconst (v := nI 0) hx hb d_M_divideWide_34 (by decide) ?_
      refine x_iast (A := WA o) hx hb hI9 hf hlo (Or.inr rfl) (i) (rfl) (by omega) (by omega) d_M_divideWide_35 (fun H1 locs1 h1 hF1 hlo1 => ?_)
      refine lv_iinc (v := nI (i + 1)) (k := 0) hx hb d_M_divideWide_36 hl rfl (nI_1 i) (by decide) rfl (fun ls hl => ?_)
      have hl : lv_has ls 9 [(3, .int (nI (i + 1))), (0, .ref o), (1, .ref y), (2, .int (nI nb))] := hl
      refine lv_goto (tgt := 23) hx hb d_M_divideWide_39 (by decide) ?_
      have hl : lv_has ls 9 [(3, .int (nI (i + 1))), (0, .ref o), (1, .ref y), (2, .int (nI nb))] := lv_sub hl [0, 1, 2, 3] rfl
      exact ih H1 locs1 ls ⟨_, hl, hlo1, hF.tr hF1 (fun _ h => h), h1, NI_m0 hN⟩
    · intro G2 locs ls ⟨f2, hl, hlo, hF2, hf2, hN2⟩
      refine lv_iload_n hx hb d_M_divideWide_23 rfl (lv_at hl 0 rfl) ?_
      refine lv_bipush (v := nI 9) hx hb d_M_divideWide_24 (by decide) ?_
      refine lv_icmp_ge (tgt := 42) hx hb d_M_divideWide_26 (by decide) (fun _ => ?_) (fun hc => absurd (nI_le (Nat.le_refl _) (by omega)) hc)
      have hO2 := hO1.f1 hF2 (by omega)
      have hq2 := hI_f hf1 hF2 (show o + 23 ≠ o + 24 by omega)
      have hFF : XF (WA o) s.heap G2 := by
        rw [← hG0]
        exact (hF1.wk (B := WA o) (fun _ h => Or.inl h)).tr (hF2.wk (B := WA o) (fun _ h => Or.inr h)) (fun _ h => h)
      refine lv_iload_n hx hb d_M_divideWide_42 rfl (lv_at hl 3 rfl) ?_
      refine lv_iconst (v := nI 1) hx hb d_M_divideWide_43 (by decide) ?_
      refine lv_isub hx hb d_M_divideWide_44 ?_
      refine x_topi (v := nI nb - 1) (rfl) ?_
      refine lv_istore_n hx hb d_M_divideWide_45 rfl hl (by decide) rfl (fun ls hl => ?_)
      have hl : lv_has ls 9 [(3, .int (nI nb - 1)), (0, .ref o), (1, .ref y), (2, .int (nI nb))] := hl
      have hl : lv_has ls 9 [(3, .int (nI nb - 1)), (0, .ref o), (1, .ref y)] := lv_sub hl [0, 1, 2] rfl
      refine x_loopD 46 (fun i H locs ls => i ≤ nb ∧ ∃ (fq fr : Nat → Int32), lv_has ls 9 [(3, .int (nI i - 1)), (0, .ref o), (1, .ref y)] ∧ (∀ q ∈ locs, WA o q.base) ∧ XF (WA o) s.heap H ∧ hI H cI (o + 23) 16 fq ∧ NI fq 16 (u / 2 ^ i / vy * 2 ^ i) ∧ hI H cI (o + 24) 9 fr ∧ NI fr 9 (u / 2 ^ i % vy)) ?_ ?_ nb _ _ _ ?_
      · intro i H locs ls ⟨hi, fq, fr, hl, hlo, hF, hq, hNq, hrm, hNr⟩ ih
        have hO := hO0.fW hF
        have hw := hI_f hw0 hF (nWA (by omega))
        have hY := hI_f hY0 hF hyn
        have hbit : u / 2 ^ i % 2 ≤ 1 := by omega
        have hT := dv_b u i
        have hRlt := Nat.mod_lt (u / 2 ^ (i + 1)) hvp
        have hdw := dg_lt u (i / 32)
        have hdw2 : dg u (i / 32) / 2 ^ (i % 32) < 4294967296 := Nat.lt_of_le_of_lt (Nat.div_le_self _ _) hdw
        refine lv_iload_n hx hb d_M_divideWide_46 rfl (lv_at hl 0 rfl) ?_
        refine x_topi (v := nI i) (nI_pred i) ?_
        refine lv_if_lt (tgt := 315) hx hb d_M_divideWide_47 (by decide) (fun hc => absurd hc (nI_pos (by omega))) (fun _ => ?_)
        rw [nI_pred] at hl
        have hl : lv_has ls 9 [(3, .int (nI i)), (0, .ref o), (1, .ref y)] := hl
        refine lv_aload_n hx hb d_M_divideWide_50 rfl (lv_at hl 1 rfl) ?_
        refine va_get (D := D) (ci := 1) (v := .ref (o + 22)) (C := "WideNumbersModel") (T := F_M) (N := 9) hx hb htw inM hown hK hO.1 0 rfl rfl 6 (by decide) (htw _ kw_282) (fun _ h9 => h9) rfl d_M_divideWide_51 ?_
        refine lv_iload_n hx hb d_M_divideWide_54 rfl (lv_at hl 0 rfl) ?_
        refine lv_iconst (v := nI 5) hx hb d_M_divideWide_55 (by decide) ?_
        refine lv_ishr hx hb d_M_divideWide_56 ?_
        refine x_topi (v := nI (i / 32)) (iN_shr5 (by omega)) ?_
        refine x_iald hx hb hI9 hw (i / 32) (rfl) (by omega) (by omega) (v := nI (dg u (i / 32))) (hNw _ (by omega)) d_M_divideWide_57 ?_
        refine lv_iload_n hx hb d_M_divideWide_58 rfl (lv_at hl 0 rfl) ?_
        refine lv_bipush (v := nI 31) hx hb d_M_divideWide_59 (by decide) ?_
        refine lv_iand hx hb d_M_divideWide_61 ?_
        refine x_topi (v := nI (i % 32)) (iN_and31 (by omega)) ?_
        refine lv_iushr (v := nI (dg u (i / 32) / 2 ^ (i % 32))) hx hb d_M_divideWide_62 (iN_ushr hdw (by omega)) ?_
        refine lv_iconst (v := nI 1) hx hb d_M_divideWide_63 (by decide) ?_
        refine lv_iand hx hb d_M_divideWide_64 ?_
        refine x_topi (v := nI (u / 2 ^ i % 2)) (by rw [iN_and1 hdw2, dg_bit]) ?_
        generalize hbb : u / 2 ^ i % 2 = b0 at hbit hT ⊢
        obtain ⟨R0, hR0⟩ : ∃ R0, R0 = u / 2 ^ (i + 1) % vy := ⟨_, rfl⟩
        rw [← hR0] at hNr hRlt
        refine lv_istore hx hb d_M_divideWide_65 hl (by decide) rfl (fun ls hl => ?_)
        have hl : lv_has ls 9 [(4, .int (nI b0)), (3, .int (nI i)), (0, .ref o), (1, .ref y)] := hl
        refine lv_iconst (v := nI 0) hx hb d_M_divideWide_67 (by decide) ?_
        refine lv_istore hx hb d_M_divideWide_68 hl (by decide) rfl (fun ls hl => ?_)
        have hl : lv_has ls 9 [(5, .int (nI 0)), (4, .int (nI b0)), (3, .int (nI i)), (0, .ref o), (1, .ref y)] := hl
        have hl : lv_has ls 9 [(5, .int (nI 0)), (4, .int (nI b0)), (3, .int (nI i)), (0, .ref o), (1, .ref y)] := lv_sub hl [0, 1, 2, 3, 4] rfl
        refine x_loop 70 (fun j H1 locs ls => ∃ (c9 r : Nat) (f : Nat → Int32), lv_has ls 9 [(5, .int (nI j)), (4, .int (nI c9)), (3, .int (nI i)), (0, .ref o), (1, .ref y)] ∧ (∀ q ∈ locs, WA o q.base) ∧ XF (fun q => q = o + 24) H H1 ∧ hI H1 cI (o + 24) 9 f ∧ (∀ k, j ≤ k → k < 9 → f k = nI (dg R0 k)) ∧ NI f j r ∧ r < 2 ^ (32 * j) ∧ r + 2 ^ (32 * j) * c9 = 2 * (R0 % 2 ^ (32 * j)) + b0 ∧ c9 ≤ 1) 9 ?_ ?_ 0 _ _ _ (by omega) ?_
        · intro j H1 locs ls hj ⟨c9, r, f, hl, hlo, hF1, hf, hhi, hN, hr9, he, hc9⟩ ih2
          have hO := hO.f1 hF1 (by omega)
          have hd := dg_lt R0 j
          refine lv_iload hx hb d_M_divideWide_70 (lv_at hl 0 rfl) ?_
          refine lv_bipush (v := nI 9) hx hb d_M_divideWide_72 (by decide) ?_
          refine lv_icmp_ge (tgt := 118) hx hb d_M_divideWide_74 (by decide) (fun hc => absurd hc (nI_ge (by omega) (by omega))) (fun _ => ?_)
          refine lv_aload_n hx hb d_M_divideWide_77 rfl (lv_at hl 3 rfl) ?_
          refine va_get (D := D) (ci := 1) (v := .ref (o + 24)) (C := "WideNumbersModel") (T := F_M) (N := 9) hx hb htw inM hown hK hO.1 0 rfl rfl 8 (by decide) (htw _ kw_284) (fun _ h9 => h9) rfl d_M_divideWide_78 ?_
          refine lv_iload hx hb d_M_divideWide_81 (lv_at hl 0 rfl) ?_
          refine x_iald hx hb hI9 hf (j) (rfl) (by omega) (by omega) (v := nI (dg R0 j)) (hhi j (Nat.le_refl j) hj) d_M_divideWide_83 ?_
          refine lv_bipush (v := nI 31) hx hb d_M_divideWide_84 (by decide) ?_
          refine lv_iushr (v := nI (dg R0 j / 2 ^ 31)) hx hb d_M_divideWide_86 (iN_ushr hd (by decide)) ?_
          refine lv_istore hx hb d_M_divideWide_87 hl (by decide) rfl (fun ls hl => ?_)
          have hl : lv_has ls 9 [(6, .int (nI (dg R0 j / 2 ^ 31))), (5, .int (nI j)), (4, .int (nI c9)), (3, .int (nI i)), (0, .ref o), (1, .ref y)] := hl
          refine lv_aload_n hx hb d_M_divideWide_89 rfl (lv_at hl 4 rfl) ?_
          refine va_get (D := D) (ci := 1) (v := .ref (o + 24)) (C := "WideNumbersModel") (T := F_M) (N := 9) hx hb htw inM hown hK hO.1 0 rfl rfl 8 (by decide) (htw _ kw_284) (fun _ h9 => h9) rfl d_M_divideWide_90 ?_
          refine lv_iload hx hb d_M_divideWide_93 (lv_at hl 1 rfl) ?_
          refine lv_aload_n hx hb d_M_divideWide_95 rfl (lv_at hl 4 rfl) ?_
          refine va_get (D := D) (ci := 1) (v := .ref (o + 24)) (C := "WideNumbersModel") (T := F_M) (N := 9) hx hb htw inM hown hK hO.1 0 rfl rfl 8 (by decide) (htw _ kw_284) (fun _ h9 => h9) rfl d_M_divideWide_96 ?_
          refine lv_iload hx hb d_M_divideWide_99 (lv_at hl 1 rfl) ?_
          refine x_iald hx hb hI9 hf (j) (rfl) (by omega) (by omega) (v := nI (dg R0 j)) (hhi j (Nat.le_refl j) hj) d_M_divideWide_101 ?_
          refine lv_iconst (v := nI 1) hx hb d_M_divideWide_102 (by decide) ?_
          refine lv_ishl hx hb d_M_divideWide_103 ?_
          refine x_topi (v := nI (dg R0 j * 2 ^ 1)) (iN_shl _ (by decide)) ?_
          refine lv_iload hx hb d_M_divideWide_104 (lv_at hl 2 rfl) ?_
          refine lv_ior hx hb d_M_divideWide_106 ?_
          refine x_topi (v := nI ((2 * dg R0 j + c9) % 4294967296)) (by rw [iN_or, or_add (show c9 < 2 ^ 1 by omega), iN_mod]; exact congrArg nI (by omega)) ?_
          refine x_iast (A := WA o) hx hb hI9 hf hlo (Or.inr rfl) (j) (rfl) (by omega) (by omega) d_M_divideWide_107 (fun H2 locs2 h2 hF2 hlo2 => ?_)
          refine lv_iload hx hb d_M_divideWide_108 (lv_at hl 0 rfl) ?_
          refine lv_istore hx hb d_M_divideWide_110 hl (by decide) rfl (fun ls hl => ?_)
          have hl : lv_has ls 9 [(4, .int (nI (dg R0 j / 2 ^ 31))), (6, .int (nI (dg R0 j / 2 ^ 31))), (5, .int (nI j)), (3, .int (nI i)), (0, .ref o), (1, .ref y)] := hl
          refine lv_iinc (v := nI (j + 1)) (k := 2) hx hb d_M_divideWide_112 hl rfl (nI_1 j) (by decide) rfl (fun ls hl => ?_)
          have hl : lv_has ls 9 [(5, .int (nI (j + 1))), (4, .int (nI (dg R0 j / 2 ^ 31))), (6, .int (nI (dg R0 j / 2 ^ 31))), (3, .int (nI i)), (0, .ref o), (1, .ref y)] := hl
          refine lv_goto (tgt := 70) hx hb d_M_divideWide_115 (by decide) ?_
          have hl : lv_has ls 9 [(5, .int (nI (j + 1))), (4, .int (nI (dg R0 j / 2 ^ 31))), (3, .int (nI i)), (0, .ref o), (1, .ref y)] := lv_sub hl [0, 1, 3, 4, 5] rfl
          have hdd := div2_31 hd hc9
          refine ih2 H2 locs2 ls ⟨dg R0 j / 2 ^ 31, r + 2 ^ (32 * j) * ((2 * dg R0 j + c9) % 4294967296), _, hl, hlo2, hF1.tr hF2 (fun _ h => h), h2, fun k hk hkn => by rw [pk_un (by omega)]; exact hhi k (by omega) hkn, NI_put hN hr9 (Nat.mod_lt _ (by decide)), dg_alt hr9 (Nat.mod_lt _ (by decide)), ?_, by omega⟩
          rw [dg_mods, pw_s]
          refine st_dbl he ?_
          rw [show dg R0 j / 2 ^ 31 = dg R0 j / 2147483648 from rfl, ← hdd]
          exact Nat.mod_add_div _ _
        · intro H1 locs ls ⟨c9, S, f, hl, hlo, hF1, hf, _, hN, hS9, he, hc9⟩
          have hO1 := hO.f1 hF1 (by omega)
          have hY1 := hI_f hY hF1 (show y ≠ o + 24 from fun e => hyn (Or.inr e))
          have hq1 := hI_f hq hF1 (show o + 23 ≠ o + 24 by omega)
          have hFF1 := hF.tr (hF1.wk (B := WA o) (fun _ h => Or.inr h)) (fun _ h => h)
          rw [Nat.mod_eq_of_lt (show R0 < 2 ^ (32 * 9) from Nat.lt_of_lt_of_le (show R0 < 2 ^ 256 by omega) (pw_le (by decide)))] at he
          have hSe : S = 2 * R0 + b0 := by omega
          have hS257 : S < 2 ^ 257 := by omega
          have hSv : S < 2 * vy := by omega
          refine lv_iload hx hb d_M_divideWide_70 (lv_at hl 0 rfl) ?_
          refine lv_bipush (v := nI 9) hx hb d_M_divideWide_72 (by decide) ?_
          refine lv_icmp_ge (tgt := 118) hx hb d_M_divideWide_74 (by decide) (fun _ => ?_) (fun hc => absurd (nI_le (Nat.le_refl _) (by omega)) hc)
          have hl : lv_has ls 9 [(3, .int (nI i)), (0, .ref o), (1, .ref y)] := lv_sub hl [2, 3, 4] rfl
          refine x_cut 210 (fun H2 locs2 ls2 => H2 = H1 ∧ locs2 = locs ∧ ∃ fb : Int32, lv_has ls2 9 [(5, .int fb), (3, .int (nI i)), (0, .ref o), (1, .ref y)] ∧ (fb = nI 1 ∧ vy ≤ S ∨ fb = nI 0 ∧ S < vy)) ?_ (fun J => ?_)
          · rintro H2 locs2 ls ⟨rfl, rfl, fb, hl, hfb⟩
            refine lv_iload hx hb d_M_divideWide_210 (lv_at hl 0 rfl) ?_
            refine lv_if_ne (tgt := 218) hx hb d_M_divideWide_212 (by decide) (fun hc => ?_) (fun hc => ?_)
            · have hge : vy ≤ S := by
                rcases hfb with ⟨-, h2⟩ | ⟨h1, -⟩
                · exact h2
                · rw [h1] at hc
                  exact absurd (by decide) hc
              have hdv := dv_ge hbit (show vy ≤ 2 * (u / 2 ^ (i + 1) % vy) + b0 by rw [← hR0]; omega) hvp
              rw [← hT, ← hR0] at hdv
              rw [q_tw] at hNq
              refine lv_lconst (v := lN 0) hx hb d_M_divideWide_218 (by decide) ?_
              refine x_topl (v := lN (18446744073709551615 * 0)) (rfl) ?_
              refine lv_lstore hx hb d_M_divideWide_219 hl (by decide) rfl (fun ls hl => ?_)
              have hl : lv_has ls 9 [(6, .long (lN (18446744073709551615 * 0))), (5, .int fb), (3, .int (nI i)), (0, .ref o), (1, .ref y)] := hl
              refine lv_iconst (v := nI 0) hx hb d_M_divideWide_221 (by decide) ?_
              refine lv_istore hx hb d_M_divideWide_222 hl (by decide) rfl (fun ls hl => ?_)
              have hl : lv_has ls 9 [(8, .int (nI 0)), (6, .long (lN (18446744073709551615 * 0))), (5, .int fb), (3, .int (nI i)), (0, .ref o), (1, .ref y)] := hl
              have hl : lv_has ls 9 [(8, .int (nI 0)), (6, .long (lN (18446744073709551615 * 0))), (3, .int (nI i)), (0, .ref o), (1, .ref y)] := lv_sub hl [0, 1, 3, 4, 5] rfl
              refine x_loop 224 (fun j H3 locs ls => ∃ (b9 r : Nat) (f3 : Nat → Int32), lv_has ls 9 [(8, .int (nI j)), (6, .long (lN (18446744073709551615 * b9))), (3, .int (nI i)), (0, .ref o), (1, .ref y)] ∧ (∀ q ∈ locs, WA o q.base) ∧ XF (fun q => q = o + 24) H2 H3 ∧ hI H3 cI (o + 24) 9 f3 ∧ (∀ k, j ≤ k → k < 9 → f3 k = nI (dg S k)) ∧ NI f3 j r ∧ r < 2 ^ (32 * j) ∧ S % 2 ^ (32 * j) + 2 ^ (32 * j) * b9 = r + vy % 2 ^ (32 * j) ∧ b9 ≤ 1) 9 ?_ ?_ 0 _ _ _ (by omega) ?_
              · intro j H3 locs ls hj ⟨b9, r, f3, hl, hlo, hF3, hf3, hhi, hN3, hr9, he3, hb9⟩ ih2
                have hO := hO1.f1 hF3 (by omega)
                have hY3 := hI_f hY1 hF3 (show y ≠ o + 24 from fun e => hyn (Or.inr e))
                have hd1 := dg_lt S j
                have hd2 := dg_lt vy j
                refine lv_iload hx hb d_M_divideWide_224 (lv_at hl 0 rfl) ?_
                refine lv_bipush (v := nI 9) hx hb d_M_divideWide_226 (by decide) ?_
                refine lv_icmp_ge (tgt := 292) hx hb d_M_divideWide_228 (by decide) (fun hc => absurd hc (nI_ge (by omega) (by omega))) (fun _ => ?_)
                refine lv_lload hx hb d_M_divideWide_231 (lv_at hl 1 rfl) ?_
                refine lv_aload_n hx hb d_M_divideWide_233 rfl (lv_at hl 3 rfl) ?_
                refine va_get (D := D) (ci := 1) (v := .ref (o + 24)) (C := "WideNumbersModel") (T := F_M) (N := 9) hx hb htw inM hown hK hO.1 0 rfl rfl 8 (by decide) (htw _ kw_284) (fun _ h9 => h9) rfl d_M_divideWide_234 ?_
                refine lv_iload hx hb d_M_divideWide_237 (lv_at hl 0 rfl) ?_
                refine x_iald hx hb hI9 hf3 (j) (rfl) (by omega) (by omega) (v := nI (dg S j)) (hhi j (Nat.le_refl j) hj) d_M_divideWide_239 ?_
                refine lv_i2l (v := (nI (dg S j)).toInt64) hx hb d_M_divideWide_240 (rfl) ?_
                refine lv_ldc2 (v := (4294967295 : Int64)) hx hb hown (htw _ kw_328) d_M_divideWide_241 ?_
                refine lv_land hx hb d_M_divideWide_244 ?_
                refine x_topl (v := lN (dg S j)) (il_m (dg_lt _ _)) ?_
                refine lv_iload hx hb d_M_divideWide_245 (lv_at hl 0 rfl) ?_
                refine lv_bipush (v := nI 8) hx hb d_M_divideWide_247 (by decide) ?_
                refine lv_icmp_ge (tgt := 264) hx hb d_M_divideWide_249 (by decide) (fun hc8 => ?_) (fun hc8 => ?_)
                · have hj8 : j = 8 := by
                    by_cases h : j < 8
                    · exact absurd hc8 (nI_ge h (by omega))
                    · omega
                  refine lv_lconst (v := lN 0) hx hb d_M_divideWide_264 (by decide) ?_
                  refine x_topl (v := lN (dg vy j)) (by rw [hj8, dg_big (show vy < 2 ^ (32 * 8) from hvy)]) ?_
                  refine lv_lsub hx hb d_M_divideWide_265 ?_
                  refine lv_ladd hx hb d_M_divideWide_266 ?_
                  refine x_topl (v := lN ((18446744073709551615 * b9 + (dg S j + 18446744073709551616 - dg vy j)) % 18446744073709551616)) (by rw [jN_sub (by omega), lN_add, jN_mod]) ?_
                  obtain ⟨S3, hS3⟩ : ∃ S3, S3 = (18446744073709551615 * b9 + (dg S j + 18446744073709551616 - dg vy j)) % 18446744073709551616 := ⟨_, rfl⟩
                  rw [← hS3]
                  have hSS := sb_S hd1 hd2 hb9 hS3
                  refine lv_lstore hx hb d_M_divideWide_267 hl (by decide) rfl (fun ls hl => ?_)
                  have hl : lv_has ls 9 [(6, .long (lN S3)), (8, .int (nI j)), (3, .int (nI i)), (0, .ref o), (1, .ref y)] := hl
                  refine lv_aload_n hx hb d_M_divideWide_269 rfl (lv_at hl 3 rfl) ?_
                  refine va_get (D := D) (ci := 1) (v := .ref (o + 24)) (C := "WideNumbersModel") (T := F_M) (N := 9) hx hb htw inM hown hK hO.1 0 rfl rfl 8 (by decide) (htw _ kw_284) (fun _ h9 => h9) rfl d_M_divideWide_270 ?_
                  refine lv_iload hx hb d_M_divideWide_273 (lv_at hl 1 rfl) ?_
                  refine lv_lload hx hb d_M_divideWide_275 (lv_at hl 0 rfl) ?_
                  refine lv_l2i (v := nI S3) hx hb d_M_divideWide_277 (lN_i _) ?_
                  refine x_topi (v := nI (S3 % 4294967296)) ((iN_mod S3).symm) ?_
                  refine x_iast (A := WA o) hx hb hI9 hf3 hlo (Or.inr rfl) (j) (rfl) (by omega) (by omega) d_M_divideWide_278 (fun H4 locs4 h4 hF4 hlo4 => ?_)
                  refine lv_lload hx hb d_M_divideWide_279 (lv_at hl 0 rfl) ?_
                  refine lv_bipush (v := nI 32) hx hb d_M_divideWide_281 (by decide) ?_
                  refine lv_lshr (v := lN (18446744073709551615 * (if S3 < 4294967296 then 0 else 1))) hx hb d_M_divideWide_283 (jN_sar32 hSS.1) ?_
                  obtain ⟨b8, hb8⟩ : ∃ b8, b8 = (if S3 < 4294967296 then 0 else 1) := ⟨_, rfl⟩
                  rw [← hb8]
                  have hb8c : S3 < 4294967296 ∧ b8 = 0 ∨ ¬ S3 < 4294967296 ∧ b8 = 1 := by
                    by_cases h : S3 < 4294967296
                    · exact Or.inl ⟨h, by rw [hb8, if_pos h]⟩
                    · exact Or.inr ⟨h, by rw [hb8, if_neg h]⟩
                  refine lv_lstore hx hb d_M_divideWide_284 hl (by decide) rfl (fun ls hl => ?_)
                  have hl : lv_has ls 9 [(6, .long (lN (18446744073709551615 * b8))), (8, .int (nI j)), (3, .int (nI i)), (0, .ref o), (1, .ref y)] := hl
                  refine lv_iinc (v := nI (j + 1)) (k := 1) hx hb d_M_divideWide_286 hl rfl (nI_1 j) (by decide) rfl (fun ls hl => ?_)
                  have hl : lv_has ls 9 [(8, .int (nI (j + 1))), (6, .long (lN (18446744073709551615 * b8))), (3, .int (nI i)), (0, .ref o), (1, .ref y)] := hl
                  refine lv_goto (tgt := 224) hx hb d_M_divideWide_289 (by decide) ?_
                  have hl : lv_has ls 9 [(8, .int (nI (j + 1))), (6, .long (lN (18446744073709551615 * b8))), (3, .int (nI i)), (0, .ref o), (1, .ref y)] := lv_sub hl [0, 1, 2, 3, 4] rfl
                  refine ih2 H4 locs4 ls ⟨b8, r + 2 ^ (32 * j) * (S3 % 4294967296), _, hl, hlo4, hF3.tr hF4 (fun _ h => h), h4, fun k hk hkn => by rw [pk_un (by omega)]; exact hhi k (by omega) hkn, NI_put hN3 hr9 (Nat.mod_lt _ (by decide)), dg_alt hr9 (Nat.mod_lt _ (by decide)), ?_, by omega⟩
                  rw [dg_mods, dg_mods, pw_s]
                  rcases hb8c with ⟨q1, q2⟩ | ⟨q1, q2⟩
                  · rw [q2]; exact st_sub he3 (hSS.2.1 q1)
                  · rw [q2]; exact st_sub he3 (hSS.2.2 q1)
                · have hj8 : j < 8 := Nat.lt_of_not_le (fun h => hc8 (nI_le h (by omega)))
                  refine lv_aload_n hx hb d_M_divideWide_252 rfl (lv_at hl 4 rfl) ?_
                  refine lv_iload hx hb d_M_divideWide_253 (lv_at hl 0 rfl) ?_
                  refine x_iald hx hb hI9 hY3 (j) (rfl) (by omega) (by omega) (v := nI (dg vy j)) (hNy j hj8) d_M_divideWide_255 ?_
                  refine lv_i2l (v := (nI (dg vy j)).toInt64) hx hb d_M_divideWide_256 (rfl) ?_
                  refine lv_ldc2 (v := (4294967295 : Int64)) hx hb hown (htw _ kw_328) d_M_divideWide_257 ?_
                  refine lv_land hx hb d_M_divideWide_260 ?_
                  refine x_topl (v := lN (dg vy j)) (il_m (dg_lt _ _)) ?_
                  refine lv_goto (tgt := 265) hx hb d_M_divideWide_261 (by decide) ?_
                  refine lv_lsub hx hb d_M_divideWide_265 ?_
                  refine lv_ladd hx hb d_M_divideWide_266 ?_
                  refine x_topl (v := lN ((18446744073709551615 * b9 + (dg S j + 18446744073709551616 - dg vy j)) % 18446744073709551616)) (by rw [jN_sub (by omega), lN_add, jN_mod]) ?_
                  obtain ⟨S3, hS3⟩ : ∃ S3, S3 = (18446744073709551615 * b9 + (dg S j + 18446744073709551616 - dg vy j)) % 18446744073709551616 := ⟨_, rfl⟩
                  rw [← hS3]
                  have hSS := sb_S hd1 hd2 hb9 hS3
                  refine lv_lstore hx hb d_M_divideWide_267 hl (by decide) rfl (fun ls hl => ?_)
                  have hl : lv_has ls 9 [(6, .long (lN S3)), (8, .int (nI j)), (3, .int (nI i)), (0, .ref o), (1, .ref y)] := hl
                  refine lv_aload_n hx hb d_M_divideWide_269 rfl (lv_at hl 3 rfl) ?_
                  refine va_get (D := D) (ci := 1) (v := .ref (o + 24)) (C := "WideNumbersModel") (T := F_M) (N := 9) hx hb htw inM hown hK hO.1 0 rfl rfl 8 (by decide) (htw _ kw_284) (fun _ h9 => h9) rfl d_M_divideWide_270 ?_
                  refine lv_iload hx hb d_M_divideWide_273 (lv_at hl 1 rfl) ?_
                  refine lv_lload hx hb d_M_divideWide_275 (lv_at hl 0 rfl) ?_
                  refine lv_l2i (v := nI S3) hx hb d_M_divideWide_277 (lN_i _) ?_
                  refine x_topi (v := nI (S3 % 4294967296)) ((iN_mod S3).symm) ?_
                  refine x_iast (A := WA o) hx hb hI9 hf3 hlo (Or.inr rfl) (j) (rfl) (by omega) (by omega) d_M_divideWide_278 (fun H4 locs4 h4 hF4 hlo4 => ?_)
                  refine lv_lload hx hb d_M_divideWide_279 (lv_at hl 0 rfl) ?_
                  refine lv_bipush (v := nI 32) hx hb d_M_divideWide_281 (by decide) ?_
                  refine lv_lshr (v := lN (18446744073709551615 * (if S3 < 4294967296 then 0 else 1))) hx hb d_M_divideWide_283 (jN_sar32 hSS.1) ?_
                  obtain ⟨b8, hb8⟩ : ∃ b8, b8 = (if S3 < 4294967296 then 0 else 1) := ⟨_, rfl⟩
                  rw [← hb8]
                  have hb8c : S3 < 4294967296 ∧ b8 = 0 ∨ ¬ S3 < 4294967296 ∧ b8 = 1 := by
                    by_cases h : S3 < 4294967296
                    · exact Or.inl ⟨h, by rw [hb8, if_pos h]⟩
                    · exact Or.inr ⟨h, by rw [hb8, if_neg h]⟩
                  refine lv_lstore hx hb d_M_divideWide_284 hl (by decide) rfl (fun ls hl => ?_)
                  have hl : lv_has ls 9 [(6, .long (lN (18446744073709551615 * b8))), (8, .int (nI j)), (3, .int (nI i)), (0, .ref o), (1, .ref y)] := hl
                  refine lv_iinc (v := nI (j + 1)) (k := 1) hx hb d_M_divideWide_286 hl rfl (nI_1 j) (by decide) rfl (fun ls hl => ?_)
                  have hl : lv_has ls 9 [(8, .int (nI (j + 1))), (6, .long (lN (18446744073709551615 * b8))), (3, .int (nI i)), (0, .ref o), (1, .ref y)] := hl
                  refine lv_goto (tgt := 224) hx hb d_M_divideWide_289 (by decide) ?_
                  have hl : lv_has ls 9 [(8, .int (nI (j + 1))), (6, .long (lN (18446744073709551615 * b8))), (3, .int (nI i)), (0, .ref o), (1, .ref y)] := lv_sub hl [0, 1, 2, 3, 4] rfl
                  refine ih2 H4 locs4 ls ⟨b8, r + 2 ^ (32 * j) * (S3 % 4294967296), _, hl, hlo4, hF3.tr hF4 (fun _ h => h), h4, fun k hk hkn => by rw [pk_un (by omega)]; exact hhi k (by omega) hkn, NI_put hN3 hr9 (Nat.mod_lt _ (by decide)), dg_alt hr9 (Nat.mod_lt _ (by decide)), ?_, by omega⟩
                  rw [dg_mods, dg_mods, pw_s]
                  rcases hb8c with ⟨q1, q2⟩ | ⟨q1, q2⟩
                  · rw [q2]; exact st_sub he3 (hSS.2.1 q1)
                  · rw [q2]; exact st_sub he3 (hSS.2.2 q1)
              · intro H3 locs ls ⟨b9, r, f3, hl, hlo, hF3, hf3, _, hN3, hr9, he3, hb9⟩
                have hO3 := hO1.f1 hF3 (by omega)
                have hq3 := hI_f hq1 hF3 (show o + 23 ≠ o + 24 by omega)
                have hFF3 := hFF1.tr (hF3.wk (B := WA o) (fun _ h => Or.inr h)) (fun _ h => h)
                rw [Nat.mod_eq_of_lt (show S < 2 ^ (32 * 9) from Nat.lt_of_lt_of_le hS257 (pw_le (by decide))), Nat.mod_eq_of_lt (show vy < 2 ^ (32 * 9) from Nat.lt_of_lt_of_le hvy (pw_le (by decide)))] at he3
                have hre : r = u / 2 ^ i % vy := by
                  rw [hdv.2, ← hSe]
                  omega
                refine lv_iload hx hb d_M_divideWide_224 (lv_at hl 0 rfl) ?_
                refine lv_bipush (v := nI 9) hx hb d_M_divideWide_226 (by decide) ?_
                refine lv_icmp_ge (tgt := 292) hx hb d_M_divideWide_228 (by decide) (fun _ => ?_) (fun hc => absurd (nI_le (Nat.le_refl _) (by omega)) hc)
                refine lv_aload_n hx hb d_M_divideWide_292 rfl (lv_at hl 3 rfl) ?_
                refine va_get (D := D) (ci := 1) (v := .ref (o + 23)) (C := "WideNumbersModel") (T := F_M) (N := 9) hx hb htw inM hown hK hO3.1 0 rfl rfl 7 (by decide) (htw _ kw_283) (fun _ h9 => h9) rfl d_M_divideWide_293 ?_
                refine lv_iload_n hx hb d_M_divideWide_296 rfl (lv_at hl 2 rfl) ?_
                refine lv_iconst (v := nI 5) hx hb d_M_divideWide_297 (by decide) ?_
                refine lv_ishr hx hb d_M_divideWide_298 ?_
                refine x_topi (v := nI (i / 32)) (iN_shr5 (by omega)) ?_
                refine lv_dup2_11 hx hb d_M_divideWide_299 rfl rfl ?_
                refine x_iald hx hb hI9 hq3 (i / 32) (rfl) (by omega) (by omega) (v := nI (dg (2 * (u / 2 ^ (i + 1) / vy) * 2 ^ i) (i / 32))) (hNq _ (by omega)) d_M_divideWide_300 ?_
                refine lv_iconst (v := nI 1) hx hb d_M_divideWide_301 (by decide) ?_
                refine lv_iload_n hx hb d_M_divideWide_302 rfl (lv_at hl 2 rfl) ?_
                refine lv_bipush (v := nI 31) hx hb d_M_divideWide_303 (by decide) ?_
                refine lv_iand hx hb d_M_divideWide_305 ?_
                refine x_topi (v := nI (i % 32)) (iN_and31 (by omega)) ?_
                refine lv_ishl hx hb d_M_divideWide_306 ?_
                refine x_topi (v := nI (2 ^ (i % 32))) (by rw [iN_shl 1 (by omega), Nat.one_mul]) ?_
                refine lv_ior hx hb d_M_divideWide_307 ?_
                refine x_topi (v := nI (dg (2 * (u / 2 ^ (i + 1) / vy) * 2 ^ i) (i / 32) ||| 2 ^ (i % 32))) (iN_or _ _) ?_
                refine x_iast (A := WA o) hx hb hI9 hq3 hlo (Or.inl rfl) (i / 32) (rfl) (by omega) (by omega) d_M_divideWide_308 (fun H8 locs8 h8 hF8 hlo => ?_)
                refine lv_iinc (v := nI i - 1) (k := 2) hx hb d_M_divideWide_309 hl rfl (by rw [Int32.sub_eq_add_neg]; rfl) (by decide) rfl (fun ls hl => ?_)
                have hl : lv_has ls 9 [(3, .int (nI i - 1)), (8, .int (nI 9)), (6, .long (lN (18446744073709551615 * b9))), (0, .ref o), (1, .ref y)] := hl
                refine lv_goto (tgt := 46) hx hb d_M_divideWide_312 (by decide) ?_
                have hl : lv_has ls 9 [(3, .int (nI i - 1)), (0, .ref o), (1, .ref y)] := lv_sub hl [0, 3, 4] rfl
                refine ih _ _ ls ⟨by omega, _, f3, hl, hlo, hFF3.tr (hF8.wk (B := WA o) (fun _ h => Or.inl h)) (fun _ h => h), h8, fun j hj => ?_, hI_f hf3 hF8 (show o + 24 ≠ o + 23 by omega), by rw [← hre]; exact hN3⟩
                rw [hdv.1, q_bit]
                by_cases hj2 : j = i / 32
                · rw [if_pos hj2, hj2, pk_us]
                · rw [if_neg hj2, pk_un hj2]; exact hNq j hj
              · exact ⟨0, 0, f, hl, hlo, XF.rf, hf, fun k _ hk => hN k hk, NI_0, by decide, by simp [Nat.mod_one], by decide⟩
            · have hlt : S < vy := by
                rcases hfb with ⟨h1, -⟩ | ⟨-, h2⟩
                · rw [h1] at hc
                  exact absurd hc (by decide)
                · exact h2
              have hdv := dv_lt (T := u / 2 ^ (i + 1)) (b := b0) (d := vy) (by rw [← hR0]; omega)
              rw [← hT, ← hR0] at hdv
              rw [q_tw] at hNq
              refine lv_goto (tgt := 309) hx hb d_M_divideWide_215 (by decide) ?_
              refine lv_iinc (v := nI i - 1) (k := 1) hx hb d_M_divideWide_309 hl rfl (by rw [Int32.sub_eq_add_neg]; rfl) (by decide) rfl (fun ls hl => ?_)
              have hl : lv_has ls 9 [(3, .int (nI i - 1)), (5, .int fb), (0, .ref o), (1, .ref y)] := hl
              refine lv_goto (tgt := 46) hx hb d_M_divideWide_312 (by decide) ?_
              have hl : lv_has ls 9 [(3, .int (nI i - 1)), (0, .ref o), (1, .ref y)] := lv_sub hl [0, 2, 3] rfl
              exact ih _ _ ls ⟨by omega, fq, f, hl, hlo, hFF1, hq1, by rw [hdv.1]; exact hNq, hf, by rw [hdv.2, ← hSe]; exact hN⟩
          · have hd8 := dg_lt S 8
            refine lv_aload_n hx hb d_M_divideWide_118 rfl (lv_at hl 1 rfl) ?_
            refine va_get (D := D) (ci := 1) (v := .ref (o + 24)) (C := "WideNumbersModel") (T := F_M) (N := 9) hx hb htw inM hown hK hO1.1 0 rfl rfl 8 (by decide) (htw _ kw_284) (fun _ h9 => h9) rfl d_M_divideWide_119 ?_
            refine lv_bipush (v := nI 8) hx hb d_M_divideWide_122 (by decide) ?_
            refine x_iald hx hb hI9 hf (8) (rfl) (by omega) (by omega) (v := nI (dg S 8)) (hN 8 (by decide)) d_M_divideWide_124 ?_
            refine lv_if_eq (tgt := 132) hx hb d_M_divideWide_125 (by decide) (fun hc => ?_) (fun hc => ?_)
            · have hS256 : S < 2 ^ 256 := top8 hS9 ((iN_eq hd8 (by decide)).mp (hc.trans nI_0.symm))
              refine lv_iconst (v := nI 0) hx hb d_M_divideWide_132 (by decide) ?_
              refine lv_istore hx hb d_M_divideWide_133 hl (by decide) rfl (fun ls hl => ?_)
              have hl : lv_has ls 9 [(5, .int (nI 0)), (3, .int (nI i)), (0, .ref o), (1, .ref y)] := hl
              refine lv_iload hx hb d_M_divideWide_135 (lv_at hl 0 rfl) ?_
              refine lv_if_ne (tgt := 210) hx hb d_M_divideWide_137 (by decide) (fun h => absurd rfl h) (fun _ => ?_)
              refine lv_iconst (v := nI 1) hx hb d_M_divideWide_140 (by decide) ?_
              refine lv_istore hx hb d_M_divideWide_141 hl (by decide) rfl (fun ls hl => ?_)
              have hl : lv_has ls 9 [(5, .int (nI 1)), (3, .int (nI i)), (0, .ref o), (1, .ref y)] := hl
              refine lv_bipush (v := nI 8 - 1) hx hb d_M_divideWide_143 (by decide) ?_
              refine lv_istore hx hb d_M_divideWide_145 hl (by decide) rfl (fun ls hl => ?_)
              have hl : lv_has ls 9 [(6, .int (nI 8 - 1)), (5, .int (nI 1)), (3, .int (nI i)), (0, .ref o), (1, .ref y)] := hl
              have hl : lv_has ls 9 [(6, .int (nI 8 - 1)), (5, .int (nI 1)), (3, .int (nI i)), (0, .ref o), (1, .ref y)] := lv_sub hl [0, 1, 2, 3, 4] rfl
              refine x_loopD 147 (fun j H2 locs2 ls => j ≤ 8 ∧ H2 = H1 ∧ locs2 = locs ∧ lv_has ls 9 [(6, .int (nI j - 1)), (5, .int (nI 1)), (3, .int (nI i)), (0, .ref o), (1, .ref y)] ∧ S / 2 ^ (32 * j) = vy / 2 ^ (32 * j)) ?_ ?_ 8 _ _ _ ?_
              · rintro j H2 locs2 ls ⟨hj, rfl, rfl, hl, hdj⟩ ih2
                rw [nI_pred] at hl
                have hd1 := dg_lt S j
                have hd2 := dg_lt vy j
                have e1 := dg_divs S j
                have e2 := dg_divs vy j
                have hl : lv_has ls 9 [(6, .int (nI j)), (5, .int (nI 1)), (3, .int (nI i)), (0, .ref o), (1, .ref y)] := hl
                refine lv_iload hx hb d_M_divideWide_147 (lv_at hl 0 rfl) ?_
                refine lv_if_lt (tgt := 210) hx hb d_M_divideWide_149 (by decide) (fun hc => absurd hc (nI_pos (by omega))) (fun _ => ?_)
                refine lv_aload_n hx hb d_M_divideWide_152 rfl (lv_at hl 3 rfl) ?_
                refine va_get (D := D) (ci := 1) (v := .ref (o + 24)) (C := "WideNumbersModel") (T := F_M) (N := 9) hx hb htw inM hown hK hO1.1 0 rfl rfl 8 (by decide) (htw _ kw_284) (fun _ h9 => h9) rfl d_M_divideWide_153 ?_
                refine lv_iload hx hb d_M_divideWide_156 (lv_at hl 0 rfl) ?_
                refine x_iald hx hb hI9 hf (j) (rfl) (by omega) (by omega) (v := nI (dg S j)) (hN j (by omega)) d_M_divideWide_158 ?_
                refine lv_aload_n hx hb d_M_divideWide_159 rfl (lv_at hl 4 rfl) ?_
                refine lv_iload hx hb d_M_divideWide_160 (lv_at hl 0 rfl) ?_
                refine x_iald hx hb hI9 hY1 (j) (rfl) (by omega) (by omega) (v := nI (dg vy j)) (hNy j (by omega)) d_M_divideWide_162 ?_
                refine lv_icmp_ne (tgt := 169) hx hb d_M_divideWide_163 (by decide) (fun hc2 => ?_) (fun hc2 => ?_)
                · have hd : dg S j ≠ dg vy j := fun h => hc2 (by rw [h])
                  refine lv_aload_n hx hb d_M_divideWide_169 rfl (lv_at hl 3 rfl) ?_
                  refine va_get (D := D) (ci := 1) (v := .ref (o + 24)) (C := "WideNumbersModel") (T := F_M) (N := 9) hx hb htw inM hown hK hO1.1 0 rfl rfl 8 (by decide) (htw _ kw_284) (fun _ h9 => h9) rfl d_M_divideWide_170 ?_
                  refine lv_iload hx hb d_M_divideWide_173 (lv_at hl 0 rfl) ?_
                  refine x_iald hx hb hI9 hf (j) (rfl) (by omega) (by omega) (v := nI (dg S j)) (hN j (by omega)) d_M_divideWide_175 ?_
                  refine lv_i2l (v := (nI (dg S j)).toInt64) hx hb d_M_divideWide_176 (rfl) ?_
                  refine lv_ldc2 (v := (4294967295 : Int64)) hx hb hown (htw _ kw_328) d_M_divideWide_177 ?_
                  refine lv_land hx hb d_M_divideWide_180 ?_
                  refine x_topl (v := lN (dg S j)) (il_m (dg_lt _ _)) ?_
                  refine lv_aload_n hx hb d_M_divideWide_181 rfl (lv_at hl 4 rfl) ?_
                  refine lv_iload hx hb d_M_divideWide_182 (lv_at hl 0 rfl) ?_
                  refine x_iald hx hb hI9 hY1 (j) (rfl) (by omega) (by omega) (v := nI (dg vy j)) (hNy j (by omega)) d_M_divideWide_184 ?_
                  refine lv_i2l (v := (nI (dg vy j)).toInt64) hx hb d_M_divideWide_185 (rfl) ?_
                  refine lv_ldc2 (v := (4294967295 : Int64)) hx hb hown (htw _ kw_328) d_M_divideWide_186 ?_
                  refine lv_land hx hb d_M_divideWide_189 ?_
                  refine x_topl (v := lN (dg vy j)) (il_m (dg_lt _ _)) ?_
                  refine W.lcmp hx hb d_M_divideWide_190 ?_
                  refine lv_if_le (tgt := 198) hx hb d_M_divideWide_191 (by decide) (fun hc3 => ?_) (fun hc3 => ?_)
                  · have hlt : dg S j < dg vy j := Nat.lt_of_le_of_ne (Nat.le_of_not_lt (fun h => absurd ((lg_cmp_le _ _).mp hc3) (Int64.not_le.mpr ((jN_lt (by omega) (by omega)).mpr h)))) hd
                    have hv : S < vy := Nat.lt_of_not_le (fun h => by have := Nat.div_le_div_right (c := 2 ^ (32 * j)) h; omega)
                    refine lv_iconst (v := nI 0) hx hb d_M_divideWide_198 (by decide) ?_
                    refine lv_istore hx hb d_M_divideWide_199 hl (by decide) rfl (fun ls hl => ?_)
                    have hl : lv_has ls 9 [(5, .int (nI 0)), (6, .int (nI j)), (3, .int (nI i)), (0, .ref o), (1, .ref y)] := hl
                    refine lv_goto (tgt := 210) hx hb d_M_divideWide_201 (by decide) ?_
                    have hl : lv_has ls 9 [(5, .int (nI 0)), (3, .int (nI i)), (0, .ref o), (1, .ref y)] := lv_sub hl [0, 2, 3, 4] rfl
                    exact J _ _ ls ⟨rfl, rfl, _, hl, Or.inr ⟨rfl, hv⟩⟩
                  · have hlt : dg vy j < dg S j := Nat.lt_of_not_le (fun h => hc3 ((lg_cmp_le _ _).mpr (Int64.not_lt.mp (fun z => absurd ((jN_lt (by omega) (by omega)).mp z) (by omega)))))
                    have hv : vy < S := Nat.lt_of_not_le (fun h => by have := Nat.div_le_div_right (c := 2 ^ (32 * j)) h; omega)
                    refine lv_iconst (v := nI 1) hx hb d_M_divideWide_194 (by decide) ?_
                    refine lv_goto (tgt := 199) hx hb d_M_divideWide_195 (by decide) ?_
                    refine lv_istore hx hb d_M_divideWide_199 hl (by decide) rfl (fun ls hl => ?_)
                    have hl : lv_has ls 9 [(5, .int (nI 1)), (6, .int (nI j)), (3, .int (nI i)), (0, .ref o), (1, .ref y)] := hl
                    refine lv_goto (tgt := 210) hx hb d_M_divideWide_201 (by decide) ?_
                    have hl : lv_has ls 9 [(5, .int (nI 1)), (3, .int (nI i)), (0, .ref o), (1, .ref y)] := lv_sub hl [0, 2, 3, 4] rfl
                    exact J _ _ ls ⟨rfl, rfl, _, hl, Or.inl ⟨rfl, by omega⟩⟩
                · have hd := (iN_eq hd1 hd2).mp hc2
                  refine lv_goto (tgt := 204) hx hb d_M_divideWide_166 (by decide) ?_
                  refine lv_iinc (v := nI j - 1) (k := 0) hx hb d_M_divideWide_204 hl rfl (by rw [Int32.sub_eq_add_neg]; rfl) (by decide) rfl (fun ls hl => ?_)
                  have hl : lv_has ls 9 [(6, .int (nI j - 1)), (5, .int (nI 1)), (3, .int (nI i)), (0, .ref o), (1, .ref y)] := hl
                  refine lv_goto (tgt := 147) hx hb d_M_divideWide_207 (by decide) ?_
                  have hl : lv_has ls 9 [(6, .int (nI j - 1)), (5, .int (nI 1)), (3, .int (nI i)), (0, .ref o), (1, .ref y)] := lv_sub hl [0, 1, 2, 3, 4] rfl
                  exact ih2 _ _ ls ⟨by omega, rfl, rfl, hl, by rw [e1, e2, hdj, hd]⟩
              · rintro H2 locs2 ls ⟨hj, rfl, rfl, hl, hdj⟩
                have hv : S = vy := by simpa using hdj
                refine lv_iload hx hb d_M_divideWide_147 (lv_at hl 0 rfl) ?_
                refine lv_if_lt (tgt := 210) hx hb d_M_divideWide_149 (by decide) (fun _ => ?_) (fun hc => absurd (by decide) hc)
                have hl : lv_has ls 9 [(5, .int (nI 1)), (3, .int (nI i)), (0, .ref o), (1, .ref y)] := lv_sub hl [1, 2, 3, 4] rfl
                exact J _ _ ls ⟨rfl, rfl, _, hl, Or.inl ⟨rfl, by omega⟩⟩
              · exact ⟨by decide, rfl, rfl, hl, by rw [Nat.div_eq_of_lt hS256, Nat.div_eq_of_lt (show vy < 2 ^ (32 * 8) from hvy)]⟩
            · have hbig : dg S 8 ≠ 0 := fun h => hc (by rw [h]; rfl)
              have hge : vy ≤ S := Nat.le_of_not_lt (fun h => hbig (dg_big (Nat.lt_trans h hvy)))
              refine lv_iconst (v := nI 1) hx hb d_M_divideWide_128 (by decide) ?_
              refine lv_goto (tgt := 133) hx hb d_M_divideWide_129 (by decide) ?_
              refine lv_istore hx hb d_M_divideWide_133 hl (by decide) rfl (fun ls hl => ?_)
              have hl : lv_has ls 9 [(5, .int (nI 1)), (3, .int (nI i)), (0, .ref o), (1, .ref y)] := hl
              refine lv_iload hx hb d_M_divideWide_135 (lv_at hl 0 rfl) ?_
              refine lv_if_ne (tgt := 210) hx hb d_M_divideWide_137 (by decide) (fun _ => ?_) (fun h => absurd h (by decide))
              have hl : lv_has ls 9 [(5, .int (nI 1)), (3, .int (nI i)), (0, .ref o), (1, .ref y)] := lv_sub hl [0, 1, 2, 3] rfl
              exact J _ _ ls ⟨rfl, rfl, _, hl, Or.inl ⟨rfl, hge⟩⟩
        · exact ⟨b0, 0, fr, hl, hlo, XF.rf, hrm, fun k _ hk => hNr k hk, NI_0, by decide, by simp [Nat.mod_one], hbit⟩
      · intro H locs ls ⟨hi, fq, fr, hl, hlo, hF, hq, hNq, hrm, hNr⟩
        refine lv_iload_n hx hb d_M_divideWide_46 rfl (lv_at hl 0 rfl) ?_
        refine lv_if_lt (tgt := 315) hx hb d_M_divideWide_47 (by decide) (fun _ => ?_) (fun hc => absurd (by decide) hc)
        rw [Nat.pow_zero, Nat.div_one, Nat.mul_one] at hNq
        rw [Nat.pow_zero, Nat.div_one] at hNr
        exact W.vret hx hb hr (fun t ht hW => ⟨rfl, by rw [ht]; exact hF, fq, fr, by rw [ht]; exact hq, hNq, by rw [ht]; exact hrm, hNr⟩) hlo d_M_divideWide_315
      · exact ⟨Nat.le_refl _, f1, f2, hl, hlo, hFF, hq2, by rw [Nat.div_eq_of_lt hu, Nat.zero_div, Nat.zero_mul]; exact hN1, hf2, by rw [Nat.div_eq_of_lt hu, Nat.zero_mod]; exact hN2⟩
    · exact ⟨fr, hl, hlo, XF.rf, hr1, NI_0⟩
  · exact ⟨fq, hl, hlo, XF.rf, hz, NI_0⟩
set_option maxHeartbeats 4000000 in
set_option maxRecDepth 100000 in
theorem m_divide (l : Launch) (D : va_G) (cJ cI cQ cR : ClassId) (o x y vx vy : Nat) (fl : Int32) (fw fq fr fx fy : Nat → Int32) (hxn : x < o + 22 ∨ o + 25 ≤ x) (hyn : y < o + 22 ∨ o + 25 ≤ y) (hvx : vx < 2 ^ 256) (hvy : vy < 2 ^ 256) (hvp : 0 < vy) (hNx : NI fx 8 vx) (hNy : NI fy 8 vy) : Met l y_M_divide w_M_divide { frames := 1, cells := 0, slots := 0, locals := 28 } (xP D vwCl (TY cJ cI cQ cR) [.ref o, .ref x, .ref y] (fun H => MB D cR o fl H ∧ hI H cI (o + 22) 17 fw ∧ hI H cI (o + 23) 16 fq ∧ hI H cI (o + 24) 9 fr ∧ hI H cI x 8 fx ∧ hI H cI y 8 fy)) (xQv (fun H0 H => XF (fun q => q = o + 22 ∨ WA o q) H0 H ∧ (∃ f : Nat → Int32, hI H cI (o + 22) 17 f) ∧ ∃ (f g : Nat → Int32), hI H cI (o + 23) 16 f ∧ NI f 16 (vx / vy) ∧ hI H cI (o + 24) 9 g ∧ NI g 9 (vx % vy))) 0 0 (fun q => q = o + 22 ∨ WA o q) := by
  refine Met.ofW (cc := b_M_divide) (maxL := 4) (ret := none) (by decide) rfl ?_
  intro p e s m args below meth c s₁ B hml hv
  obtain ⟨rfl, hK, ⟨hO, hw, hq, hrm, hX, hY⟩⟩ := hv
  have hx := B.exec
  have hb := B.bytes
  have hr := B.returns
  have hts := atoms_spec (ws := w_M_divide) B.pre
  have htw : ∀ w ∈ WT, w.before _ s = true := fun w h => hts w (List.mem_cons_of_mem _ h)
  have hown : s.vm.findClass "WideNumbersModel" = some m.cls := findClass_of_methodNamed B.named
  have hlocks := B.notSynchronized
  have hJ : ArrOfT s cJ .long := (hK.2 0 _ rfl).1
  have hI9 : ArrOfT s cI .int := (hK.2 1 _ rfl).1
  have hl := lv_entry ([.ref o, .ref x, .ref y]) (n := 4) (Nat.le_of_ble_eq_true rfl)
  rw [lg_entry_eq]
  generalize (lg_sl ([.ref o, .ref x, .ref y]) ++ List.replicate (4 - (lg_sl ([.ref o, .ref x, .ref y])).length) Slot.unset).toArray = ls at hl ⊢
  have hl : lv_has ls 4 [(0, .ref o), (1, .ref x), (2, .ref y)] := hl
  have hlo : ∀ q ∈ ([] : List Loc), (fun q => q = o + 22 ∨ WA o q) q.base := fun _ h => nomatch h
  refine lv_iconst (v := nI 0) hx hb d_M_divide_0 (by decide) ?_
  refine lv_istore_n hx hb d_M_divide_1 rfl hl (by decide) rfl (fun ls hl => ?_)
  have hl : lv_has ls 4 [(3, .int (nI 0)), (0, .ref o), (1, .ref x), (2, .ref y)] := hl
  have hl : lv_has ls 4 [(3, .int (nI 0)), (0, .ref o), (1, .ref x), (2, .ref y)] := lv_sub hl [0, 1, 2, 3] rfl
  refine x_loop 2 (fun i H locs ls => ∃ f : Nat → Int32, lv_has ls 4 [(3, .int (nI i)), (0, .ref o), (1, .ref x), (2, .ref y)] ∧ (∀ q ∈ locs, q.base = o + 22 ∨ WA o q.base) ∧ XF (fun q => q = o + 22) s.heap H ∧ hI H cI (o + 22) 17 f ∧ NI f i vx) 17 ?_ ?_ 0 _ _ _ (by omega) ?_
  · intro i H locs ls hi ⟨f, hl, hlo, hF, hf, hN⟩ ih
    refine lv_iload_n hx hb d_M_divide_2 rfl (lv_at hl 0 rfl) ?_
    refine lv_bipush (v := nI 17) hx hb d_M_divide_3 (by decide) ?_
    refine lv_icmp_ge (tgt := 33) hx hb d_M_divide_5 (by decide) (fun hc => absurd hc (nI_ge (by omega) (by omega))) (fun _ => ?_)
    have hO := hO.f1 hF (by omega)
    refine lv_aload_n hx hb d_M_divide_8 rfl (lv_at hl 1 rfl) ?_
    refine va_get (D := D) (ci := 1) (v := .ref (o + 22)) (C := "WideNumbersModel") (T := F_M) (N := 9) hx hb htw inM hown hK hO.1 0 rfl rfl 6 (by decide) (htw _ kw_282) (fun _ h9 => h9) rfl d_M_divide_9 ?_
    refine lv_iload_n hx hb d_M_divide_12 rfl (lv_at hl 0 rfl) ?_
    refine lv_iload_n hx hb d_M_divide_13 rfl (lv_at hl 0 rfl) ?_
    refine lv_bipush (v := nI 8) hx hb d_M_divide_14 (by decide) ?_
    refine lv_icmp_ge (tgt := 25) hx hb d_M_divide_16 (by decide) (fun hc => ?_) (fun hc => ?_)
    · have hi8 : 8 ≤ i := Nat.le_of_not_lt (fun h => absurd hc (nI_ge h (by omega)))
      refine lv_iconst (v := nI 0) hx hb d_M_divide_25 (by decide) ?_
      refine x_topi (v := nI (dg vx i)) (by rw [dg_le (show vx < 2 ^ (32 * 8) from hvx) hi8]) ?_
      refine x_iast (A := fun q => q = o + 22 ∨ WA o q) hx hb hI9 hf hlo (Or.inl rfl) (i) (rfl) (by omega) (by omega) d_M_divide_26 (fun H1 locs1 h1 hF1 hlo1 => ?_)
      refine lv_iinc (v := nI (i + 1)) (k := 0) hx hb d_M_divide_27 hl rfl (nI_1 i) (by decide) rfl (fun ls hl => ?_)
      have hl : lv_has ls 4 [(3, .int (nI (i + 1))), (0, .ref o), (1, .ref x), (2, .ref y)] := hl
      refine lv_goto (tgt := 2) hx hb d_M_divide_30 (by decide) ?_
      have hl : lv_has ls 4 [(3, .int (nI (i + 1))), (0, .ref o), (1, .ref x), (2, .ref y)] := lv_sub hl [0, 1, 2, 3] rfl
      exact ih H1 locs1 ls ⟨_, hl, hlo1, hF.tr hF1 (fun _ h => h), h1, NI_up hN⟩
    · have hi8 : i < 8 := Nat.lt_of_not_le (fun h => hc (nI_le h (by omega)))
      refine lv_aload_n hx hb d_M_divide_19 rfl (lv_at hl 2 rfl) ?_
      refine lv_iload_n hx hb d_M_divide_20 rfl (lv_at hl 0 rfl) ?_
      refine x_iald hx hb hI9 (hI_f hX hF (show x ≠ o + 22 by omega)) (i) (rfl) (by omega) (by omega) (v := nI (dg vx i)) (hNx i hi8) d_M_divide_21 ?_
      refine lv_goto (tgt := 26) hx hb d_M_divide_22 (by decide) ?_
      refine x_iast (A := fun q => q = o + 22 ∨ WA o q) hx hb hI9 hf hlo (Or.inl rfl) (i) (rfl) (by omega) (by omega) d_M_divide_26 (fun H1 locs1 h1 hF1 hlo1 => ?_)
      refine lv_iinc (v := nI (i + 1)) (k := 0) hx hb d_M_divide_27 hl rfl (nI_1 i) (by decide) rfl (fun ls hl => ?_)
      have hl : lv_has ls 4 [(3, .int (nI (i + 1))), (0, .ref o), (1, .ref x), (2, .ref y)] := hl
      refine lv_goto (tgt := 2) hx hb d_M_divide_30 (by decide) ?_
      have hl : lv_has ls 4 [(3, .int (nI (i + 1))), (0, .ref o), (1, .ref x), (2, .ref y)] := lv_sub hl [0, 1, 2, 3] rfl
      exact ih H1 locs1 ls ⟨_, hl, hlo1, hF.tr hF1 (fun _ h => h), h1, NI_up hN⟩
  · intro H locs ls ⟨f, hl, hlo, hF, hf, hN⟩
    refine lv_iload_n hx hb d_M_divide_2 rfl (lv_at hl 0 rfl) ?_
    refine lv_bipush (v := nI 17) hx hb d_M_divide_3 (by decide) ?_
    refine lv_icmp_ge (tgt := 33) hx hb d_M_divide_5 (by decide) (fun _ => ?_) (fun hc => absurd (nI_le (Nat.le_refl _) (by omega)) hc)
    have hO := hO.f1 hF (by omega)
    have hq := hI_f hq hF (show o + 23 ≠ o + 22 by omega)
    have hrm := hI_f hrm hF (show o + 24 ≠ o + 22 by omega)
    have hY := hI_f hY hF (show y ≠ o + 22 by omega)
    refine lv_aload_n hx hb d_M_divide_33 rfl (lv_at hl 1 rfl) ?_
    refine lv_aload_n hx hb d_M_divide_34 rfl (lv_at hl 3 rfl) ?_
    refine lv_sipush (v := nI 256) hx hb d_M_divide_35 (by decide) ?_
    refine x_callv (A := fun q => q = o + 22 ∨ WA o q) (va_runV (As := [.ref y, .int (nI 256)]) (rest := []) ⟨hx, hb, hml, hown, htw⟩ (m_divideWide l D cJ cI cQ cR o y vx vy 256 fl f fq fr fy (by decide) (nWA (by omega)) hvx hvy hvp hN hNy) (xcV 2 htw kw_363 kw_2 kw_360 kw_362 ks_M_divideWide rfl rfl ⟨by decide, by decide, by decide +kernel⟩ ⟨Nat.le_of_ble_eq_true rfl, Nat.le_of_ble_eq_true rfl⟩) (xPreV hK (hO.rv hK) ⟨hO, hf, hq, hrm, hY⟩) rfl rfl hl.1 rfl (lv_room (Nat.le_of_ble_eq_true rfl)) d_M_divide_38 ⟨Nat.le_of_ble_eq_true rfl, Nat.le_of_ble_eq_true rfl⟩) hlo (fun _ h => Or.inr h) (fun H2 locs2 hB2 hlo => ?_)
    obtain ⟨hF2, f2, g2, hf2, hN2, hg2, hM2⟩ := hB2
    exact W.vret hx hb hr (fun t ht hW => ⟨rfl, by rw [ht]; exact (hF.wk (fun _ h => Or.inl h)).tr hF2 (fun _ h => Or.inr h), ⟨f, by rw [ht]; exact hI_f hf hF2 (nWA (by omega))⟩, f2, g2, by rw [ht]; exact hf2, hN2, by rw [ht]; exact hg2, hM2⟩) hlo d_M_divide_41
  · exact ⟨fw, hl, hlo, XF.rf, hw, NI_0⟩
