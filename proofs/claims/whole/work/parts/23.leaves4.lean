-- contracts
set_option maxHeartbeats 4000000 in
set_option maxRecDepth 100000 in
theorem c_nlz (l : Launch) (D : va_G) (cJ cI cQ cR : ClassId) (d : Nat) (hd : 0 < d) (hd2 : d < 4294967296) : Met l y_J_numberOfLeadingZeros_Integer w_J_numberOfLeadingZeros_Integer { frames := 0, cells := 0, slots := 0, locals := 0 } (xP D vwCl (TY cJ cI cQ cR) [.int (nI d)] (fun H => True)) (xQi (fun r H0 H => H = H0 ∧ ∃ k : Nat, r = nI k ∧ k ≤ 31 ∧ 2 ^ (31 - k) ≤ d ∧ d < 2 ^ (32 - k))) 0 0 (fun _ => False) := by
  refine Met.ofW (cc := b_J_numberOfLeadingZeros_Integer) (maxL := 2) (ret := some .int) (by decide) rfl ?_
  intro p e s m args below meth c s₁ B hml hv
  obtain ⟨rfl, hK, hB⟩ := hv
  have hx := B.exec
  have hb := B.bytes
  have hr := B.returns
  have hts := atoms_spec (ws := w_J_numberOfLeadingZeros_Integer) B.pre
  have htw : ∀ w ∈ WT, w.before _ s = true := fun w h => hts w (List.mem_cons_of_mem _ h)
  have hown : s.vm.findClass "java/lang/Integer" = some m.cls := findClass_of_methodNamed B.named
  have hlocks := B.notSynchronized
  have hJ : ArrOfT s cJ .long := (hK.2 0 _ rfl).1
  have hI9 : ArrOfT s cI .int := (hK.2 1 _ rfl).1
  have hl := lv_entry ([.int (nI d)]) (n := 2) (Nat.le_of_ble_eq_true rfl)
  rw [lg_entry_eq]
  generalize (lg_sl ([.int (nI d)]) ++ List.replicate (2 - (lg_sl ([.int (nI d)])).length) Slot.unset).toArray = ls at hl ⊢
  have hl : lv_has ls 2 [(0, .int (nI d))] := hl
  refine lv_iload_n hx hb d_J_numberOfLeadingZeros_Integer_0 rfl (lv_at hl 0 rfl) ?_
  refine lv_if_gt (tgt := 15) hx hb d_J_numberOfLeadingZeros_Integer_1 (by decide) (fun hc => ?_) (fun hc => ?_)
  · have hsm : d < 2147483648 := Nat.lt_of_not_le (fun h => by
      have h1 := Int32.lt_iff_toInt_lt.mp hc
      rw [iN_toInt hd2, if_neg (by omega)] at h1
      have h2 : (0 : Int32).toInt = 0 := rfl
      omega)
    refine lv_bipush (v := nI 31) hx hb d_J_numberOfLeadingZeros_Integer_15 (by decide) ?_
    refine lv_istore_n hx hb d_J_numberOfLeadingZeros_Integer_17 rfl hl (by decide) rfl (fun ls hl => ?_)
    have hl : lv_has ls 2 [(1, .int (nI 31)), (0, .int (nI d))] := hl
    have hl : lv_has ls 2 [(1, .int (nI 31)), (0, .int (nI d))] := lv_sub hl [0, 1] rfl
    refine x_cut 33 (fun H locs ls => H = s.heap ∧ locs = [] ∧ ∃ (sh d1 : Nat), lv_has ls 2 [(1, .int (nI (31 - sh))), (0, .int (nI d1))] ∧ d1 = d / 2 ^ sh ∧ 1 ≤ d1 ∧ d1 < 65536 ∧ sh ≤ 16) ?_ (fun J => ?_)
    · rintro H locs ls ⟨rfl, rfl, sh, d1, hl, he, h1, h2, hs⟩
      refine x_cut 48 (fun H locs ls => H = s.heap ∧ locs = [] ∧ ∃ (sh d1 : Nat), lv_has ls 2 [(1, .int (nI (31 - sh))), (0, .int (nI d1))] ∧ d1 = d / 2 ^ sh ∧ 1 ≤ d1 ∧ d1 < 256 ∧ sh ≤ 24) ?_ (fun J => ?_)
      · rintro H locs ls ⟨rfl, rfl, sh, d1, hl, he, h1, h2, hs⟩
        refine x_cut 61 (fun H locs ls => H = s.heap ∧ locs = [] ∧ ∃ (sh d1 : Nat), lv_has ls 2 [(1, .int (nI (31 - sh))), (0, .int (nI d1))] ∧ d1 = d / 2 ^ sh ∧ 1 ≤ d1 ∧ d1 < 16 ∧ sh ≤ 28) ?_ (fun J => ?_)
        · rintro H locs ls ⟨rfl, rfl, sh, d1, hl, he, h1, h2, hs⟩
          refine x_cut 73 (fun H locs ls => H = s.heap ∧ locs = [] ∧ ∃ (sh d1 : Nat), lv_has ls 2 [(1, .int (nI (31 - sh))), (0, .int (nI d1))] ∧ d1 = d / 2 ^ sh ∧ 1 ≤ d1 ∧ d1 < 4 ∧ sh ≤ 30) ?_ (fun J => ?_)
          · rintro H locs ls ⟨rfl, rfl, sh, d1, hl, he, h1, h2, hs⟩
            refine lv_iload_n hx hb d_J_numberOfLeadingZeros_Integer_73 rfl (lv_at hl 0 rfl) ?_
            refine lv_iload_n hx hb d_J_numberOfLeadingZeros_Integer_74 rfl (lv_at hl 1 rfl) ?_
            refine lv_iconst (v := nI 1) hx hb d_J_numberOfLeadingZeros_Integer_75 (by decide) ?_
            refine lv_iushr (v := nI (d1 / 2 ^ 1)) hx hb d_J_numberOfLeadingZeros_Integer_76 (pk_ushrN (by omega) (nI 1) 1 (by decide)) ?_
            refine lv_isub hx hb d_J_numberOfLeadingZeros_Integer_77 ?_
            refine x_topi (v := nI (31 - sh - d1 / 2)) (pk_sub (by omega)) ?_
            exact W.iret hx hb hr (fun t ht hW => ⟨_, rfl, ht, 31 - sh - d1 / 2, rfl, by omega, nlz_end he h1 h2 hs⟩) (fun _ h => nomatch h) d_J_numberOfLeadingZeros_Integer_78
          · refine lv_iload_n hx hb d_J_numberOfLeadingZeros_Integer_61 rfl (lv_at hl 1 rfl) ?_
            refine lv_iconst (v := nI 4) hx hb d_J_numberOfLeadingZeros_Integer_62 (by decide) ?_
            refine lv_icmp_lt (tgt := 73) hx hb d_J_numberOfLeadingZeros_Integer_63 (by decide) (fun hc => ?_) (fun hc => ?_)
            · have hlt := (nI_ltI (by omega) (by decide)).mp hc
              exact J _ _ ls ⟨rfl, rfl, sh, d1, hl, he, h1, hlt, by omega⟩
            · have hge : 4 ≤ d1 := Nat.le_of_not_lt (fun h => hc ((nI_ltI (by omega) (by decide)).mpr h))
              refine lv_iinc (v := nI (31 - sh - 2)) (k := 0) hx hb d_J_numberOfLeadingZeros_Integer_66 hl rfl (i_decn 2 (by decide) (by omega)) (by decide) rfl (fun ls hl => ?_)
              have hl : lv_has ls 2 [(1, .int (nI (31 - sh - 2))), (0, .int (nI d1))] := hl
              refine lv_iload_n hx hb d_J_numberOfLeadingZeros_Integer_69 rfl (lv_at hl 1 rfl) ?_
              refine lv_iconst (v := nI 2) hx hb d_J_numberOfLeadingZeros_Integer_70 (by decide) ?_
              refine lv_iushr (v := nI (d1 / 2 ^ 2)) hx hb d_J_numberOfLeadingZeros_Integer_71 (pk_ushrN (by omega) (nI 2) 2 (by decide)) ?_
              refine lv_istore_n hx hb d_J_numberOfLeadingZeros_Integer_72 rfl hl (by decide) rfl (fun ls hl => ?_)
              have hl : lv_has ls 2 [(0, .int (nI (d1 / 2 ^ 2))), (1, .int (nI (31 - sh - 2)))] := hl
              have hl : lv_has ls 2 [(1, .int (nI (31 - sh - 2))), (0, .int (nI (d1 / 2 ^ 2)))] := lv_sub hl [1, 0] rfl
              exact J _ _ ls ⟨rfl, rfl, sh + 2, d1 / 2 ^ 2, by rw [show 31 - (sh + 2) = 31 - sh - 2 by omega]; exact hl, by rw [he, sh_more], by omega, by omega, by omega⟩
        · refine lv_iload_n hx hb d_J_numberOfLeadingZeros_Integer_48 rfl (lv_at hl 1 rfl) ?_
          refine lv_bipush (v := nI 16) hx hb d_J_numberOfLeadingZeros_Integer_49 (by decide) ?_
          refine lv_icmp_lt (tgt := 61) hx hb d_J_numberOfLeadingZeros_Integer_51 (by decide) (fun hc => ?_) (fun hc => ?_)
          · have hlt := (nI_ltI (by omega) (by decide)).mp hc
            exact J _ _ ls ⟨rfl, rfl, sh, d1, hl, he, h1, hlt, by omega⟩
          · have hge : 16 ≤ d1 := Nat.le_of_not_lt (fun h => hc ((nI_ltI (by omega) (by decide)).mpr h))
            refine lv_iinc (v := nI (31 - sh - 4)) (k := 0) hx hb d_J_numberOfLeadingZeros_Integer_54 hl rfl (i_decn 4 (by decide) (by omega)) (by decide) rfl (fun ls hl => ?_)
            have hl : lv_has ls 2 [(1, .int (nI (31 - sh - 4))), (0, .int (nI d1))] := hl
            refine lv_iload_n hx hb d_J_numberOfLeadingZeros_Integer_57 rfl (lv_at hl 1 rfl) ?_
            refine lv_iconst (v := nI 4) hx hb d_J_numberOfLeadingZeros_Integer_58 (by decide) ?_
            refine lv_iushr (v := nI (d1 / 2 ^ 4)) hx hb d_J_numberOfLeadingZeros_Integer_59 (pk_ushrN (by omega) (nI 4) 4 (by decide)) ?_
            refine lv_istore_n hx hb d_J_numberOfLeadingZeros_Integer_60 rfl hl (by decide) rfl (fun ls hl => ?_)
            have hl : lv_has ls 2 [(0, .int (nI (d1 / 2 ^ 4))), (1, .int (nI (31 - sh - 4)))] := hl
            have hl : lv_has ls 2 [(1, .int (nI (31 - sh - 4))), (0, .int (nI (d1 / 2 ^ 4)))] := lv_sub hl [1, 0] rfl
            exact J _ _ ls ⟨rfl, rfl, sh + 4, d1 / 2 ^ 4, by rw [show 31 - (sh + 4) = 31 - sh - 4 by omega]; exact hl, by rw [he, sh_more], by omega, by omega, by omega⟩
      · refine lv_iload_n hx hb d_J_numberOfLeadingZeros_Integer_33 rfl (lv_at hl 1 rfl) ?_
        refine lv_sipush (v := nI 256) hx hb d_J_numberOfLeadingZeros_Integer_34 (by decide) ?_
        refine lv_icmp_lt (tgt := 48) hx hb d_J_numberOfLeadingZeros_Integer_37 (by decide) (fun hc => ?_) (fun hc => ?_)
        · have hlt := (nI_ltI (by omega) (by decide)).mp hc
          exact J _ _ ls ⟨rfl, rfl, sh, d1, hl, he, h1, hlt, by omega⟩
        · have hge : 256 ≤ d1 := Nat.le_of_not_lt (fun h => hc ((nI_ltI (by omega) (by decide)).mpr h))
          refine lv_iinc (v := nI (31 - sh - 8)) (k := 0) hx hb d_J_numberOfLeadingZeros_Integer_40 hl rfl (i_decn 8 (by decide) (by omega)) (by decide) rfl (fun ls hl => ?_)
          have hl : lv_has ls 2 [(1, .int (nI (31 - sh - 8))), (0, .int (nI d1))] := hl
          refine lv_iload_n hx hb d_J_numberOfLeadingZeros_Integer_43 rfl (lv_at hl 1 rfl) ?_
          refine lv_bipush (v := nI 8) hx hb d_J_numberOfLeadingZeros_Integer_44 (by decide) ?_
          refine lv_iushr (v := nI (d1 / 2 ^ 8)) hx hb d_J_numberOfLeadingZeros_Integer_46 (pk_ushrN (by omega) (nI 8) 8 (by decide)) ?_
          refine lv_istore_n hx hb d_J_numberOfLeadingZeros_Integer_47 rfl hl (by decide) rfl (fun ls hl => ?_)
          have hl : lv_has ls 2 [(0, .int (nI (d1 / 2 ^ 8))), (1, .int (nI (31 - sh - 8)))] := hl
          have hl : lv_has ls 2 [(1, .int (nI (31 - sh - 8))), (0, .int (nI (d1 / 2 ^ 8)))] := lv_sub hl [1, 0] rfl
          exact J _ _ ls ⟨rfl, rfl, sh + 8, d1 / 2 ^ 8, by rw [show 31 - (sh + 8) = 31 - sh - 8 by omega]; exact hl, by rw [he, sh_more], by omega, by omega, by omega⟩
    · obtain ⟨sh, d1, he, hs, h1, h2, es⟩ : ∃ sh d1, d1 = d / 2 ^ sh ∧ sh ≤ 0 ∧ 1 ≤ d1 ∧ d1 < 2147483648 ∧ sh = 0 := ⟨0, d, by simp, by decide, hd, hsm, rfl⟩
      have ed : d1 = d := by subst es; simpa using he
      rw [← ed] at hl
      have hl : lv_has ls 2 [(1, .int (nI (31 - sh))), (0, .int (nI d1))] := by rw [es]; exact hl
      refine lv_iload_n hx hb d_J_numberOfLeadingZeros_Integer_18 rfl (lv_at hl 1 rfl) ?_
      refine lv_ldcw (v := (65536 : Int32)) hx hb hown (htw _ kw_167) d_J_numberOfLeadingZeros_Integer_19 ?_
      refine x_topi (v := nI 65536) (rfl) ?_
      refine lv_icmp_lt (tgt := 33) hx hb d_J_numberOfLeadingZeros_Integer_22 (by decide) (fun hc => ?_) (fun hc => ?_)
      · have hlt := (nI_ltI (by omega) (by decide)).mp hc
        exact J _ _ ls ⟨rfl, rfl, sh, d1, hl, he, h1, hlt, by omega⟩
      · have hge : 65536 ≤ d1 := Nat.le_of_not_lt (fun h => hc ((nI_ltI (by omega) (by decide)).mpr h))
        refine lv_iinc (v := nI (31 - sh - 16)) (k := 0) hx hb d_J_numberOfLeadingZeros_Integer_25 hl rfl (i_decn 16 (by decide) (by omega)) (by decide) rfl (fun ls hl => ?_)
        have hl : lv_has ls 2 [(1, .int (nI (31 - sh - 16))), (0, .int (nI d1))] := hl
        refine lv_iload_n hx hb d_J_numberOfLeadingZeros_Integer_28 rfl (lv_at hl 1 rfl) ?_
        refine lv_bipush (v := nI 16) hx hb d_J_numberOfLeadingZeros_Integer_29 (by decide) ?_
        refine lv_iushr (v := nI (d1 / 2 ^ 16)) hx hb d_J_numberOfLeadingZeros_Integer_31 (pk_ushrN (by omega) (nI 16) 16 (by decide)) ?_
        refine lv_istore_n hx hb d_J_numberOfLeadingZeros_Integer_32 rfl hl (by decide) rfl (fun ls hl => ?_)
        have hl : lv_has ls 2 [(0, .int (nI (d1 / 2 ^ 16))), (1, .int (nI (31 - sh - 16)))] := hl
        have hl : lv_has ls 2 [(1, .int (nI (31 - sh - 16))), (0, .int (nI (d1 / 2 ^ 16)))] := lv_sub hl [1, 0] rfl
        exact J _ _ ls ⟨rfl, rfl, sh + 16, d1 / 2 ^ 16, by rw [show 31 - (sh + 16) = 31 - sh - 16 by omega]; exact hl, by rw [he, sh_more], by omega, by omega, by omega⟩
  · have hbig : 2147483648 ≤ d := Nat.le_of_not_lt (fun h => hc (by rw [← nI_0]; exact nI_lt hd h))
    refine lv_iload_n hx hb d_J_numberOfLeadingZeros_Integer_4 rfl (lv_at hl 0 rfl) ?_
    refine lv_if_ne (tgt := 13) hx hb d_J_numberOfLeadingZeros_Integer_5 (by decide) (fun _ => ?_) (fun hc2 => absurd ((iN_eq hd2 (by decide : 0 < 4294967296)).mp (hc2.trans nI_0.symm)) (by omega))
    refine lv_iconst (v := nI 0) hx hb d_J_numberOfLeadingZeros_Integer_13 (by decide) ?_
    exact W.iret hx hb hr (fun t ht hW => ⟨_, rfl, ht, 0, rfl, by decide, hbig, hd2⟩) (fun _ h => nomatch h) d_J_numberOfLeadingZeros_Integer_14
set_option maxHeartbeats 4000000 in
set_option maxRecDepth 100000 in
theorem c_usedBits (l : Launch) (D : va_G) (cJ cI cQ cR : ClassId) (x n vx : Nat) (fx : Nat → Int64) (hn : n ≤ 16) (hvx : vx < 2 ^ (32 * n)) (hNx : NL fx n vx) : Met l y_C_usedBits w_C_usedBits { frames := 1, cells := 0, slots := 0, locals := 21 } (xP D vwCl (TY cJ cI cQ cR) [.ref x] (fun H => hL H cJ x n fx)) (xQi (fun r H0 H => H = H0 ∧ ∃ k : Nat, r = nI k ∧ ub vx k ∧ k ≤ 32 * n)) 0 0 (fun _ => False) := by
  refine Met.ofW (cc := b_C_usedBits) (maxL := 2) (ret := some .int) (by decide) rfl ?_
  intro p e s m args below meth c s₁ B hml hv
  obtain ⟨rfl, hK, hX⟩ := hv
  have hx := B.exec
  have hb := B.bytes
  have hr := B.returns
  have hts := atoms_spec (ws := w_C_usedBits) B.pre
  have htw : ∀ w ∈ WT, w.before _ s = true := fun w h => hts w (List.mem_cons_of_mem _ h)
  have hown : s.vm.findClass "WideNumbers" = some m.cls := findClass_of_methodNamed B.named
  have hlocks := B.notSynchronized
  have hJ : ArrOfT s cJ .long := (hK.2 0 _ rfl).1
  have hI9 : ArrOfT s cI .int := (hK.2 1 _ rfl).1
  have hl := lv_entry ([.ref x]) (n := 2) (Nat.le_of_ble_eq_true rfl)
  rw [lg_entry_eq]
  generalize (lg_sl ([.ref x]) ++ List.replicate (2 - (lg_sl ([.ref x])).length) Slot.unset).toArray = ls at hl ⊢
  have hl : lv_has ls 2 [(0, .ref x)] := hl
  refine lv_aload_n hx hb d_C_usedBits_0 rfl (lv_at hl 0 rfl) ?_
  refine x_len hx hb hJ hX d_C_usedBits_1 ?_
  refine lv_iconst (v := nI 1) hx hb d_C_usedBits_2 (by decide) ?_
  refine lv_isub hx hb d_C_usedBits_3 ?_
  refine x_topi (v := nI n - 1) (rfl) ?_
  refine lv_istore_n hx hb d_C_usedBits_4 rfl hl (by decide) rfl (fun ls hl => ?_)
  have hl : lv_has ls 2 [(1, .int (nI n - 1)), (0, .ref x)] := hl
  refine x_loopD 5 (fun i H locs ls => i ≤ n ∧ lv_has ls 2 [(1, .int (nI i - 1)), (0, .ref x)] ∧ locs = [] ∧ H = s.heap ∧ vx / 2 ^ (32 * i) = 0) ?_ ?_ n _ _ _ ?_
  · rintro i H locs ls ⟨hi, hl, rfl, rfl, he⟩ ih
    have hlo : ∀ q ∈ ([] : List Loc), (fun _ => False) q.base := fun _ h => nomatch h
    refine lv_iload_n hx hb d_C_usedBits_5 rfl (lv_at hl 0 rfl) ?_
    refine x_topi (v := nI i) (nI_pred i) ?_
    refine lv_if_lt (tgt := 38) hx hb d_C_usedBits_6 (by decide) (fun hc => absurd hc (nI_pos (by omega))) (fun _ => ?_)
    have hd1 := dg_lt vx i
    have e1 := dg_divs vx i
    refine lv_aload_n hx hb d_C_usedBits_9 rfl (lv_at hl 1 rfl) ?_
    refine lv_iload_n hx hb d_C_usedBits_10 rfl (lv_at hl 0 rfl) ?_
    refine x_lald hx hb hJ hX (i) (nI_pred i) (by omega) (by omega) (v := lN (dg vx i)) (hNx i (by omega)) d_C_usedBits_11 ?_
    refine lv_lconst (v := lN 0) hx hb d_C_usedBits_12 (by decide) ?_
    refine W.lcmp hx hb d_C_usedBits_13 ?_
    refine lv_if_eq (tgt := 32) hx hb d_C_usedBits_14 (by decide) (fun hc => ?_) (fun hc => ?_)
    · have hd := (jN_eq (by omega) (by decide)).mp ((cmp_eq _ _).mp hc)
      refine lv_iinc (v := nI i - 1) (k := 0) hx hb d_C_usedBits_32 hl rfl (i_dec i) (by decide) rfl (fun ls hl => ?_)
      have hl : lv_has ls 2 [(1, .int (nI i - 1)), (0, .ref x)] := hl
      refine lv_goto (tgt := 5) hx hb d_C_usedBits_35 (by decide) ?_
      exact ih _ _ ls ⟨by omega, hl, rfl, rfl, by rw [e1, he, hd]⟩
    · have hd : 0 < dg vx i := Nat.pos_of_ne_zero (fun h => hc ((cmp_eq _ _).mpr (by rw [h])))
      refine lv_bipush (v := nI 32) hx hb d_C_usedBits_17 (by decide) ?_
      refine lv_iload_n hx hb d_C_usedBits_19 rfl (lv_at hl 0 rfl) ?_
      refine x_topi (v := nI i) (nI_pred i) ?_
      refine lv_iconst (v := nI 1) hx hb d_C_usedBits_20 (by decide) ?_
      refine lv_iadd hx hb d_C_usedBits_21 ?_
      refine x_topi (v := nI (i + 1)) (nI_1 i) ?_
      refine lv_imul hx hb d_C_usedBits_22 ?_
      refine x_topi (v := nI (32 * (i + 1))) (pk_mul _ _) ?_
      refine lv_aload_n hx hb d_C_usedBits_23 rfl (lv_at hl 1 rfl) ?_
      refine lv_iload_n hx hb d_C_usedBits_24 rfl (lv_at hl 0 rfl) ?_
      refine x_lald hx hb hJ hX (i) (nI_pred i) (by omega) (by omega) (v := lN (dg vx i)) (hNx i (by omega)) d_C_usedBits_25 ?_
      refine lv_l2i (v := nI (dg vx i)) hx hb d_C_usedBits_26 (lN_i _) ?_
      refine x_calli (A := fun _ => False) (va_runS (As := [.int (nI (dg vx i))]) (rest := [.int (nI (32 * (i + 1)))]) ⟨hx, hb, hml, hown, htw⟩ (c_nlz l D cJ cI cQ cR (dg vx i) hd hd1) (xcS 1 htw kw_166 kw_8 kw_164 kw_165 rfl rfl ⟨by decide, by decide, by decide +kernel⟩ ⟨Nat.le_of_ble_eq_true rfl, Nat.le_of_ble_eq_true rfl⟩) (xPre hK trivial) rfl rfl hl.1 rfl (lv_room (Nat.le_of_ble_eq_true rfl)) d_C_usedBits_27 ⟨Nat.le_of_ble_eq_true rfl, Nat.le_of_ble_eq_true rfl⟩) hlo (fun _ h => h) (fun r H1 locs1 hB1 hlo1 => ?_)
      obtain ⟨rfl, k, rfl, hk, h1, h2⟩ := hB1
      refine lv_isub hx hb d_C_usedBits_30 ?_
      refine x_topi (v := nI (32 * (i + 1) - k)) (pk_sub (by omega)) ?_
      exact W.iret hx hb hr (fun t ht hW => ⟨_, rfl, ht, 32 * (i + 1) - k, rfl, ub_of he rfl hk h1 h2, by omega⟩) hlo1 d_C_usedBits_31
  · rintro H locs ls ⟨hi, hl, rfl, rfl, he⟩
    refine lv_iload_n hx hb d_C_usedBits_5 rfl (lv_at hl 0 rfl) ?_
    refine lv_if_lt (tgt := 38) hx hb d_C_usedBits_6 (by decide) (fun _ => ?_) (fun hc => absurd (by decide) hc)
    refine lv_iconst (v := nI 0) hx hb d_C_usedBits_38 (by decide) ?_
    have hv : vx = 0 := by simpa using he
    exact W.iret hx hb hr (fun t ht hW => ⟨_, rfl, ht, 0, rfl, ⟨by rw [hv]; decide, Or.inl rfl⟩, Nat.zero_le _⟩) (fun _ h => nomatch h) d_C_usedBits_39
  · exact ⟨Nat.le_refl n, hl, rfl, rfl, Nat.div_eq_of_lt hvx⟩
set_option maxHeartbeats 4000000 in
set_option maxRecDepth 100000 in
theorem c_valueUpTo (l : Launch) (D : va_G) (cJ cI cQ cR : ClassId) (x vx b : Nat) (fx : Nat → Int64) (hvx : vx < 2 ^ 256) (hb9 : b ≤ 256) (hNx : NL fx 8 vx) : Met l y_C_valueUpTo w_C_valueUpTo { frames := 2, cells := 0, slots := 0, locals := 42 } (xP D vwCl (TY cJ cI cQ cR) [.ref x, .int (nI b)] (fun H => hL H cJ x 8 fx)) (xQi (fun r H0 H => H = H0 ∧ r = nI (min vx b))) 0 0 (fun _ => False) := by
  refine Met.ofW (cc := b_C_valueUpTo) (maxL := 2) (ret := some .int) (by decide) rfl ?_
  intro p e s m args below meth c s₁ B hml hv
  obtain ⟨rfl, hK, hX⟩ := hv
  have hx := B.exec
  have hb := B.bytes
  have hr := B.returns
  have hts := atoms_spec (ws := w_C_valueUpTo) B.pre
  have htw : ∀ w ∈ WT, w.before _ s = true := fun w h => hts w (List.mem_cons_of_mem _ h)
  have hown : s.vm.findClass "WideNumbers" = some m.cls := findClass_of_methodNamed B.named
  have hlocks := B.notSynchronized
  have hJ : ArrOfT s cJ .long := (hK.2 0 _ rfl).1
  have hI9 : ArrOfT s cI .int := (hK.2 1 _ rfl).1
  have hl := lv_entry ([.ref x, .int (nI b)]) (n := 2) (Nat.le_of_ble_eq_true rfl)
  rw [lg_entry_eq]
  generalize (lg_sl ([.ref x, .int (nI b)]) ++ List.replicate (2 - (lg_sl ([.ref x, .int (nI b)])).length) Slot.unset).toArray = ls at hl ⊢
  have hl : lv_has ls 2 [(0, .ref x), (1, .int (nI b))] := hl
  have hlo : ∀ q ∈ ([] : List Loc), (fun _ => False) q.base := fun _ h => nomatch h
  refine lv_aload_n hx hb d_C_valueUpTo_0 rfl (lv_at hl 0 rfl) ?_
  refine x_calli (A := fun _ => False) (va_runS (As := [.ref x]) (rest := []) ⟨hx, hb, hml, hown, htw⟩ (c_usedBits l D cJ cI cQ cR x 8 vx fx (by decide) hvx hNx) (xcS 1 htw kw_163 kw_1 kw_161 kw_162 rfl rfl ⟨by decide, by decide, by decide +kernel⟩ ⟨Nat.le_of_ble_eq_true rfl, Nat.le_of_ble_eq_true rfl⟩) (xPre hK hX) rfl rfl hl.1 rfl (lv_room (Nat.le_of_ble_eq_true rfl)) d_C_valueUpTo_1 ⟨Nat.le_of_ble_eq_true rfl, Nat.le_of_ble_eq_true rfl⟩) hlo (fun _ h => h) (fun r H1 locs1 hB1 hlo1 => ?_)
  obtain ⟨rfl, k, rfl, ⟨hk, hk2⟩, hk3⟩ := hB1
  refine lv_bipush (v := nI 32) hx hb d_C_valueUpTo_4 (by decide) ?_
  refine lv_icmp_gt (tgt := 18) hx hb d_C_valueUpTo_6 (by decide) (fun hc => ?_) (fun hc => ?_)
  · have h33 := (nI_ltI (by decide) (by omega)).mp hc
    have hbig : 2 ^ 32 ≤ vx := Nat.le_trans (pw_le (show 32 ≤ k - 1 by omega)) (hk2.resolve_left (by omega))
    refine lv_iload_n hx hb d_C_valueUpTo_18 rfl (lv_at hl 1 rfl) ?_
    refine lv_goto (tgt := 26) hx hb d_C_valueUpTo_19 (by decide) ?_
    exact W.iret hx hb hr (fun t ht hW => ⟨_, rfl, ht, congrArg nI (by omega)⟩) hlo1 d_C_valueUpTo_26
  · have h32 : k ≤ 32 := Nat.le_of_not_lt (fun h => hc (nI_lt h (by omega)))
    have hsm : vx < 4294967296 := Nat.lt_of_lt_of_le hk (pw_le h32)
    refine lv_aload_n hx hb d_C_valueUpTo_9 rfl (lv_at hl 0 rfl) ?_
    refine lv_iconst (v := nI 0) hx hb d_C_valueUpTo_10 (by decide) ?_
    refine x_lald hx hb hJ hX (0) (rfl) (by omega) (by omega) (v := lN vx) (by rw [hNx 0 (by decide), dg_z hsm]) d_C_valueUpTo_11 ?_
    refine lv_iload_n hx hb d_C_valueUpTo_12 rfl (lv_at hl 1 rfl) ?_
    refine lv_i2l (v := lN b) hx hb d_C_valueUpTo_13 (nI_l (by omega)) ?_
    refine W.lcmp hx hb d_C_valueUpTo_14 ?_
    refine lv_if_le (tgt := 22) hx hb d_C_valueUpTo_15 (by decide) (fun hc2 => ?_) (fun hc2 => ?_)
    · have hle : vx ≤ b := Nat.le_of_not_lt (fun h => absurd ((lg_cmp_le _ _).mp hc2) (Int64.not_le.mpr ((jN_lt (by omega) (by omega)).mpr h)))
      refine lv_aload_n hx hb d_C_valueUpTo_22 rfl (lv_at hl 0 rfl) ?_
      refine lv_iconst (v := nI 0) hx hb d_C_valueUpTo_23 (by decide) ?_
      refine x_lald hx hb hJ hX (0) (rfl) (by omega) (by omega) (v := lN vx) (by rw [hNx 0 (by decide), dg_z hsm]) d_C_valueUpTo_24 ?_
      refine lv_l2i (v := nI vx) hx hb d_C_valueUpTo_25 (lN_i _) ?_
      exact W.iret hx hb hr (fun t ht hW => ⟨_, rfl, ht, congrArg nI (by omega)⟩) hlo1 d_C_valueUpTo_26
    · have hgt : b < vx := Nat.lt_of_not_le (fun h => hc2 ((lg_cmp_le _ _).mpr (Int64.not_lt.mp (fun z => absurd ((jN_lt (by omega) (by omega)).mp z) (by omega)))))
      refine lv_iload_n hx hb d_C_valueUpTo_18 rfl (lv_at hl 1 rfl) ?_
      refine lv_goto (tgt := 26) hx hb d_C_valueUpTo_19 (by decide) ?_
      exact W.iret hx hb hr (fun t ht hW => ⟨_, rfl, ht, congrArg nI (by omega)⟩) hlo1 d_C_valueUpTo_26
set_option maxHeartbeats 4000000 in
set_option maxRecDepth 100000 in
theorem c_isNegative (l : Launch) (D : va_G) (cJ cI cQ cR : ClassId) (x vx : Nat) (fx : Nat → Int64) (hvx : vx < 2 ^ 256) (hNx : NL fx 8 vx) : Met l y_C_isNegative w_C_isNegative { frames := 1, cells := 0, slots := 0, locals := 21 } (xP D vwCl (TY cJ cI cQ cR) [.ref x] (fun H => hL H cJ x 8 fx)) (xQi (fun r H0 H => H = H0 ∧ r = if 2 ^ 255 ≤ vx then 1 else 0)) 0 0 (fun _ => False) := by
  refine Met.ofW (cc := b_C_isNegative) (maxL := 1) (ret := some .boolean) (by decide) rfl ?_
  intro p e s m args below meth c s₁ B hml hv
  obtain ⟨rfl, hK, hX⟩ := hv
  have hx := B.exec
  have hb := B.bytes
  have hr := B.returns
  have hts := atoms_spec (ws := w_C_isNegative) B.pre
  have htw : ∀ w ∈ WT, w.before _ s = true := fun w h => hts w (List.mem_cons_of_mem _ h)
  have hown : s.vm.findClass "WideNumbers" = some m.cls := findClass_of_methodNamed B.named
  have hlocks := B.notSynchronized
  have hJ : ArrOfT s cJ .long := (hK.2 0 _ rfl).1
  have hI9 : ArrOfT s cI .int := (hK.2 1 _ rfl).1
  have hl := lv_entry ([.ref x]) (n := 1) (Nat.le_of_ble_eq_true rfl)
  rw [lg_entry_eq]
  generalize (lg_sl ([.ref x]) ++ List.replicate (1 - (lg_sl ([.ref x])).length) Slot.unset).toArray = ls at hl ⊢
  have hl : lv_has ls 1 [(0, .ref x)] := hl
  have hlo : ∀ q ∈ ([] : List Loc), (fun _ => False) q.base := fun _ h => nomatch h
  refine lv_aload_n hx hb d_C_isNegative_0 rfl (lv_at hl 0 rfl) ?_
  refine lv_sipush (v := nI 255) hx hb d_C_isNegative_1 (by decide) ?_
  refine x_calll (A := fun _ => False) (va_runS (As := [.ref x, .int (nI 255)]) (rest := []) ⟨hx, hb, hml, hown, htw⟩ (c_bitAt l D cJ cI cQ cR x 8 255 vx fx (by decide) (by decide) hNx) (xcS 2 htw kw_170 kw_1 kw_168 kw_169 rfl rfl ⟨by decide, by decide, by decide +kernel⟩ ⟨Nat.le_of_ble_eq_true rfl, Nat.le_of_ble_eq_true rfl⟩) (xPre hK hX) rfl rfl hl.1 rfl (lv_room (Nat.le_of_ble_eq_true rfl)) d_C_isNegative_4 ⟨Nat.le_of_ble_eq_true rfl, Nat.le_of_ble_eq_true rfl⟩) hlo (fun _ h => h) (fun r H1 locs1 hB1 hlo1 => ?_)
  obtain ⟨rfl, rfl⟩ := hB1
  rw [bit255 hvx]
  refine lv_lconst (v := lN 0) hx hb d_C_isNegative_7 (by decide) ?_
  refine W.lcmp hx hb d_C_isNegative_8 ?_
  refine lv_if_eq (tgt := 16) hx hb d_C_isNegative_9 (by decide) (fun hc => ?_) (fun hc => ?_)
  · have hn : ¬ 2 ^ 255 ≤ vx := fun h => by
      rw [if_pos h] at hc
      exact absurd hc (by decide)
    refine lv_iconst (v := nI 0) hx hb d_C_isNegative_16 (by decide) ?_
    exact W.zret hx hb hr rfl (fun t ht hW => ⟨_, rfl, ht, by rw [if_neg hn]; rfl⟩) hlo1 d_C_isNegative_17
  · have hn : 2 ^ 255 ≤ vx := Decidable.byContradiction (fun h => hc (by rw [if_neg h]; decide))
    refine lv_iconst (v := nI 1) hx hb d_C_isNegative_12 (by decide) ?_
    refine lv_goto (tgt := 17) hx hb d_C_isNegative_13 (by decide) ?_
    exact W.zret hx hb hr rfl (fun t ht hW => ⟨_, rfl, ht, by rw [if_pos hn]; rfl⟩) hlo1 d_C_isNegative_17
set_option maxHeartbeats 4000000 in
set_option maxRecDepth 100000 in
theorem c_limbOfSign (l : Launch) (D : va_G) (cJ cI cQ cR : ClassId) (x vx : Nat) (fx : Nat → Int64) (hvx : vx < 2 ^ 256) (hNx : NL fx 8 vx) : Met l y_C_limbOfSign w_C_limbOfSign { frames := 2, cells := 0, slots := 0, locals := 41 } (xP D vwCl (TY cJ cI cQ cR) [.ref x] (fun H => hL H cJ x 8 fx)) (xQl (fun r H0 H => H = H0 ∧ r = lN (if 2 ^ 255 ≤ vx then 4294967295 else 0))) 0 0 (fun _ => False) := by
  refine Met.ofW (cc := b_C_limbOfSign) (maxL := 1) (ret := some .long) (by decide) rfl ?_
  intro p e s m args below meth c s₁ B hml hv
  obtain ⟨rfl, hK, hX⟩ := hv
  have hx := B.exec
  have hb := B.bytes
  have hr := B.returns
  have hts := atoms_spec (ws := w_C_limbOfSign) B.pre
  have htw : ∀ w ∈ WT, w.before _ s = true := fun w h => hts w (List.mem_cons_of_mem _ h)
  have hown : s.vm.findClass "WideNumbers" = some m.cls := findClass_of_methodNamed B.named
  have hlocks := B.notSynchronized
  have hJ : ArrOfT s cJ .long := (hK.2 0 _ rfl).1
  have hI9 : ArrOfT s cI .int := (hK.2 1 _ rfl).1
  have hl := lv_entry ([.ref x]) (n := 1) (Nat.le_of_ble_eq_true rfl)
  rw [lg_entry_eq]
  generalize (lg_sl ([.ref x]) ++ List.replicate (1 - (lg_sl ([.ref x])).length) Slot.unset).toArray = ls at hl ⊢
  have hl : lv_has ls 1 [(0, .ref x)] := hl
  have hlo : ∀ q ∈ ([] : List Loc), (fun _ => False) q.base := fun _ h => nomatch h
  refine lv_aload_n hx hb d_C_limbOfSign_0 rfl (lv_at hl 0 rfl) ?_
  refine x_calli (A := fun _ => False) (va_runS (As := [.ref x]) (rest := []) ⟨hx, hb, hml, hown, htw⟩ (c_isNegative l D cJ cI cQ cR x vx fx hvx hNx) (xcS 1 htw kw_189 kw_1 kw_187 kw_188 rfl rfl ⟨by decide, by decide, by decide +kernel⟩ ⟨Nat.le_of_ble_eq_true rfl, Nat.le_of_ble_eq_true rfl⟩) (xPre hK hX) rfl rfl hl.1 rfl (lv_room (Nat.le_of_ble_eq_true rfl)) d_C_limbOfSign_1 ⟨Nat.le_of_ble_eq_true rfl, Nat.le_of_ble_eq_true rfl⟩) hlo (fun _ h => h) (fun r H1 locs1 hB1 hlo1 => ?_)
  obtain ⟨rfl, rfl⟩ := hB1
  refine lv_if_eq (tgt := 13) hx hb d_C_limbOfSign_4 (by decide) (fun hc => ?_) (fun hc => ?_)
  · have hn : ¬ 2 ^ 255 ≤ vx := fun h => by
      rw [if_pos h] at hc
      exact absurd hc (by decide)
    refine lv_lconst (v := lN 0) hx hb d_C_limbOfSign_13 (by decide) ?_
    exact W.lret hx hb hr (fun t ht hW => ⟨_, rfl, ht, by rw [if_neg hn]⟩) hlo1 d_C_limbOfSign_14
  · have hn : 2 ^ 255 ≤ vx := Decidable.byContradiction (fun h => hc (by rw [if_neg h]))
    refine lv_ldc2 (v := (4294967295 : Int64)) hx hb hown (htw _ kw_126) d_C_limbOfSign_7 ?_
    refine lv_goto (tgt := 14) hx hb d_C_limbOfSign_10 (by decide) ?_
    exact W.lret hx hb hr (fun t ht hW => ⟨_, rfl, ht, by rw [if_pos hn]; rfl⟩) hlo1 d_C_limbOfSign_14
set_option maxHeartbeats 4000000 in
set_option maxRecDepth 100000 in
theorem c_copyWithSign (l : Launch) (D : va_G) (cJ cI cQ cR : ClassId) (z x n vx : Nat) (b : Int32) (fz fx : Nat → Int64) (hn : 8 ≤ n ∧ n ≤ 16) (hxz : x ≠ z) (hvx : vx < 2 ^ 256) (hNx : NL fx 8 vx) : Met l y_C_copyWithSign w_C_copyWithSign { frames := 2, cells := 0, slots := 0, locals := 85 } (xP D vwCl (TY cJ cI cQ cR) [.ref z, .ref x, .int b] (fun H => hL H cJ z 8 fz ∧ hL H cJ x n fx)) (xQv (fun H0 H => XF (fun q => q = z) H0 H ∧ ∃ (f : Nat → Int64), hL H cJ z 8 f ∧ NL f 8 (if b = 0 then vx else (2 ^ 256 - vx) % 2 ^ 256))) 0 0 (fun q => q = z ∨ q = x) := by
  refine Met.ofW (cc := b_C_copyWithSign) (maxL := 3) (ret := none) (by decide) rfl ?_
  intro p e s m args below meth c s₁ B hml hv
  obtain ⟨rfl, hK, ⟨hz, hX⟩⟩ := hv
  have hx := B.exec
  have hb := B.bytes
  have hr := B.returns
  have hts := atoms_spec (ws := w_C_copyWithSign) B.pre
  have htw : ∀ w ∈ WT, w.before _ s = true := fun w h => hts w (List.mem_cons_of_mem _ h)
  have hown : s.vm.findClass "WideNumbers" = some m.cls := findClass_of_methodNamed B.named
  have hlocks := B.notSynchronized
  have hJ : ArrOfT s cJ .long := (hK.2 0 _ rfl).1
  have hI9 : ArrOfT s cI .int := (hK.2 1 _ rfl).1
  have hl := lv_entry ([.ref z, .ref x, .int b]) (n := 3) (Nat.le_of_ble_eq_true rfl)
  rw [lg_entry_eq]
  generalize (lg_sl ([.ref z, .ref x, .int b]) ++ List.replicate (3 - (lg_sl ([.ref z, .ref x, .int b])).length) Slot.unset).toArray = ls at hl ⊢
  have hl : lv_has ls 3 [(0, .ref z), (1, .ref x), (2, .int b)] := hl
  have hlo : ∀ q ∈ ([] : List Loc), (fun q => q = z ∨ q = x) q.base := fun _ h => nomatch h
  refine lv_iload_n hx hb d_C_copyWithSign_0 rfl (lv_at hl 2 rfl) ?_
  refine lv_if_eq (tgt := 12) hx hb d_C_copyWithSign_1 (by decide) (fun hc => ?_) (fun hc => ?_)
  · refine lv_aload_n hx hb d_C_copyWithSign_12 rfl (lv_at hl 0 rfl) ?_
    refine lv_aload_n hx hb d_C_copyWithSign_13 rfl (lv_at hl 1 rfl) ?_
    refine x_callv (A := fun q => q = z ∨ q = x) (va_runS (As := [.ref z, .ref x]) (rest := []) ⟨hx, hb, hml, hown, htw⟩ (c_copy l D cJ cI cQ cR z x n vx fz fx hn hxz hNx) (xcS 2 htw kw_179 kw_1 kw_177 kw_178 rfl rfl ⟨by decide, by decide, by decide +kernel⟩ ⟨Nat.le_of_ble_eq_true rfl, Nat.le_of_ble_eq_true rfl⟩) (xPre hK ⟨hz, hX⟩) rfl rfl hl.1 rfl (lv_room (Nat.le_of_ble_eq_true rfl)) d_C_copyWithSign_14 ⟨Nat.le_of_ble_eq_true rfl, Nat.le_of_ble_eq_true rfl⟩) hlo (fun _ h => h) (fun H1 locs1 hB1 hlo1 => ?_)
    obtain ⟨hF, f, hf, hN⟩ := hB1
    exact W.vret hx hb hr (fun t ht hW => ⟨rfl, by rw [ht]; exact hF, f, by rw [ht]; exact hf, by rw [if_pos hc]; exact hN⟩) hlo1 d_C_copyWithSign_17
  · refine lv_aload_n hx hb d_C_copyWithSign_4 rfl (lv_at hl 0 rfl) ?_
    refine lv_aload_n hx hb d_C_copyWithSign_5 rfl (lv_at hl 1 rfl) ?_
    refine x_callv (A := fun q => q = z ∨ q = x) (va_runS (As := [.ref z, .ref x]) (rest := []) ⟨hx, hb, hml, hown, htw⟩ (c_negate l D cJ cI cQ cR z x n vx fz fx hn hxz hvx hNx) (xcS 2 htw kw_195 kw_1 kw_193 kw_194 rfl rfl ⟨by decide, by decide, by decide +kernel⟩ ⟨Nat.le_of_ble_eq_true rfl, Nat.le_of_ble_eq_true rfl⟩) (xPre hK ⟨hz, hX⟩) rfl rfl hl.1 rfl (lv_room (Nat.le_of_ble_eq_true rfl)) d_C_copyWithSign_6 ⟨Nat.le_of_ble_eq_true rfl, Nat.le_of_ble_eq_true rfl⟩) hlo (fun _ h => Or.inl h) (fun H1 locs1 hB1 hlo1 => ?_)
    refine lv_goto (tgt := 17) hx hb d_C_copyWithSign_9 (by decide) ?_
    obtain ⟨hF, f, hf, hN⟩ := hB1
    exact W.vret hx hb hr (fun t ht hW => ⟨rfl, by rw [ht]; exact hF, f, by rw [ht]; exact hf, by rw [if_neg hc]; exact hN⟩) hlo1 d_C_copyWithSign_17
set_option maxHeartbeats 4000000 in
set_option maxRecDepth 100000 in
theorem c_writePart (l : Launch) (D : va_G) (cJ cI cQ cR : ClassId) (z k p9 : Nat) (fz : Nat → Int64) (hk : k < 4) (hp9 : p9 < 18446744073709551616) : Met l y_C_writePart w_C_writePart { frames := 1, cells := 0, slots := 0, locals := 20 } (xP D vwCl (TY cJ cI cQ cR) [.ref z, .int (nI k), .long (lN p9)] (fun H => hL H cJ z 8 fz)) (xQv (fun H0 H => XF (fun q => q = z) H0 H ∧ hL H cJ z 8 (vp_updL (vp_updL fz (2 * (3 - k)) (lN (p9 % 4294967296))) (2 * (3 - k) + 1) (lN (p9 / 4294967296))))) 0 0 (fun q => q = z) := by
  refine Met.ofW (cc := b_C_writePart) (maxL := 5) (ret := none) (by decide) rfl ?_
  intro p e s m args below meth c s₁ B hml hv
  obtain ⟨rfl, hK, hz⟩ := hv
  have hx := B.exec
  have hb := B.bytes
  have hr := B.returns
  have hts := atoms_spec (ws := w_C_writePart) B.pre
  have htw : ∀ w ∈ WT, w.before _ s = true := fun w h => hts w (List.mem_cons_of_mem _ h)
  have hown : s.vm.findClass "WideNumbers" = some m.cls := findClass_of_methodNamed B.named
  have hlocks := B.notSynchronized
  have hJ : ArrOfT s cJ .long := (hK.2 0 _ rfl).1
  have hI9 : ArrOfT s cI .int := (hK.2 1 _ rfl).1
  have hl := lv_entry ([.ref z, .int (nI k), .long (lN p9)]) (n := 5) (Nat.le_of_ble_eq_true rfl)
  rw [lg_entry_eq]
  generalize (lg_sl ([.ref z, .int (nI k), .long (lN p9)]) ++ List.replicate (5 - (lg_sl ([.ref z, .int (nI k), .long (lN p9)])).length) Slot.unset).toArray = ls at hl ⊢
  have hl : lv_has ls 5 [(0, .ref z), (1, .int (nI k)), (2, .long (lN p9))] := hl
  have hlo : ∀ q ∈ ([] : List Loc), (fun q => q = z) q.base := fun _ h => nomatch h
  refine lv_iload_n hx hb d_C_writePart_0 rfl (lv_at hl 1 rfl) ?_
  refine x_calli (A := fun q => q = z) (va_runS (As := [.int (nI k)]) (rest := []) ⟨hx, hb, hml, hown, htw⟩ (c_lowLimb l D cJ cI cQ cR k hk) (xcS 1 htw kw_125 kw_1 kw_123 kw_124 rfl rfl ⟨by decide, by decide, by decide +kernel⟩ ⟨Nat.le_of_ble_eq_true rfl, Nat.le_of_ble_eq_true rfl⟩) (xPre hK trivial) rfl rfl hl.1 rfl (lv_room (Nat.le_of_ble_eq_true rfl)) d_C_writePart_1 ⟨Nat.le_of_ble_eq_true rfl, Nat.le_of_ble_eq_true rfl⟩) hlo (fun _ h => h.elim) (fun r H1 locs1 hB1 hlo => ?_)
  obtain ⟨rfl, rfl⟩ := hB1
  refine lv_istore hx hb d_C_writePart_4 hl (by decide) rfl (fun ls hl => ?_)
  have hl : lv_has ls 5 [(4, .int (nI (2 * (3 - k)))), (0, .ref z), (1, .int (nI k)), (2, .long (lN p9))] := hl
  refine lv_aload_n hx hb d_C_writePart_6 rfl (lv_at hl 1 rfl) ?_
  refine lv_iload hx hb d_C_writePart_7 (lv_at hl 0 rfl) ?_
  refine lv_lload_n hx hb d_C_writePart_9 rfl (lv_at hl 3 rfl) ?_
  refine lv_ldc2 (v := (4294967295 : Int64)) hx hb hown (htw _ kw_126) d_C_writePart_10 ?_
  refine lv_land hx hb d_C_writePart_13 ?_
  refine x_topl (v := lN (p9 % 4294967296)) (jN_lo p9) ?_
  refine x_last (A := fun q => q = z) hx hb hJ hz hlo (rfl) (2 * (3 - k)) (rfl) (by omega) (by omega) d_C_writePart_14 (fun H2 locs2 h2 hF2 hlo => ?_)
  refine lv_aload_n hx hb d_C_writePart_15 rfl (lv_at hl 1 rfl) ?_
  refine lv_iload hx hb d_C_writePart_16 (lv_at hl 0 rfl) ?_
  refine lv_iconst (v := nI 1) hx hb d_C_writePart_18 (by decide) ?_
  refine lv_iadd hx hb d_C_writePart_19 ?_
  refine x_topi (v := nI (2 * (3 - k) + 1)) (nI_1 _) ?_
  refine lv_lload_n hx hb d_C_writePart_20 rfl (lv_at hl 3 rfl) ?_
  refine lv_bipush (v := nI 32) hx hb d_C_writePart_21 (by decide) ?_
  refine lv_lushr (v := lN (p9 / 4294967296)) hx hb d_C_writePart_23 (jN_shr (k := 32) (by omega) (by decide)) ?_
  refine x_last (A := fun q => q = z) hx hb hJ h2 hlo (rfl) (2 * (3 - k) + 1) (rfl) (by omega) (by omega) d_C_writePart_24 (fun H3 locs3 h3 hF3 hlo => ?_)
  exact W.vret hx hb hr (fun t ht hW => ⟨rfl, by rw [ht]; exact hF2.tr hF3 (fun _ h => h), by rw [ht]; exact h3⟩) hlo d_C_writePart_25
