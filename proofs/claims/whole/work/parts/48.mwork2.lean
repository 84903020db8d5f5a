-- contract of the reference: work, operations 9 .. 15, and all
set_option maxHeartbeats 4000000 in
set_option maxRecDepth 100000 in
theorem m_work_9 (l : Launch) (D : va_G) (cJ cI cQ cR : ClassId) (o x y vx vy : Nat) (fl : Int32) (fx fy : Nat → Int32) (hxr : o + 2 ≤ x ∧ x < o + 18) (hyr : o + 2 ≤ y ∧ y < o + 18) (hvx : vx < 2 ^ 256) (hvy : vy < 2 ^ 256) (hNx : NI fx 8 vx) (hNy : NI fy 8 vy) : Met l y_M_work w_M_work { frames := 3, cells := 0, slots := 0, locals := 77 } (xP D vwCl (TY cJ cI cQ cR) [.ref o, .int (nI 9), .ref x, .ref y] (fun H => MB D cR o fl H ∧ SM cI o H ∧ hI H cI x 8 fx ∧ hI H cI y 8 fy)) (xQv (fun H0 H => XF (MS o) H0 H ∧ SM cI o H ∧ ∃ f : Nat → Int32, hI H cI (o + 20) 8 f ∧ NI f 8 (opv 9 vx vy))) 0 0 (MS o) := by
  refine Met.ofW (cc := b_M_work) (maxL := 12) (ret := none) (by decide) rfl ?_
  intro p e s m args below meth c s₁ B hml hv
  obtain ⟨rfl, hK, ⟨hO, hSM, h_X, h_Y⟩⟩ := hv
  have hx := B.exec
  have hb := B.bytes
  have hr := B.returns
  have hts := atoms_spec (ws := w_M_work) B.pre
  have htw : ∀ w ∈ WT, w.before _ s = true := fun w h => hts w (List.mem_cons_of_mem _ h)
  have hown : s.vm.findClass "WideNumbersModel" = some m.cls := findClass_of_methodNamed B.named
  have hlocks := B.notSynchronized
  have hJ : ArrOfT s cJ .long := (hK.2 0 _ rfl).1
  have hI9 : ArrOfT s cI .int := (hK.2 1 _ rfl).1
  have hl := lv_entry ([.ref o, .int (nI 9), .ref x, .ref y]) (n := 12) (Nat.le_of_ble_eq_true rfl)
  rw [lg_entry_eq]
  generalize (lg_sl ([.ref o, .int (nI 9), .ref x, .ref y]) ++ List.replicate (12 - (lg_sl ([.ref o, .int (nI 9), .ref x, .ref y])).length) Slot.unset).toArray = ls at hl ⊢
  have hl : lv_has ls 12 [(0, .ref o), (1, .int (nI 9)), (2, .ref x), (3, .ref y)] := hl
  obtain ⟨⟨f18, h_18⟩, ⟨f19, h_19⟩, ⟨f20, h_20⟩, ⟨f21, h_21, hN21⟩, ⟨f22, h_22⟩, ⟨f23, h_23⟩, ⟨f24, h_24⟩⟩ := hSM
  have hG : XF (MS o) s.heap s.heap := XF.rf
  have hlo : ∀ q ∈ ([] : List Loc), MS o q.base := fun _ h => nomatch h
  refine lv_iload_n hx hb d_M_work_0 rfl (lv_at hl 1 rfl) ?_
  refine lv_iconst (v := nI 2) hx hb d_M_work_1 (by decide) ?_
  refine lv_icmp_le (tgt := 22) hx hb d_M_work_2 (by decide) (fun h => absurd h (by decide)) (fun _ => ?_)
  refine lv_iload_n hx hb d_M_work_5 rfl (lv_at hl 1 rfl) ?_
  refine lv_bipush (v := nI 7) hx hb d_M_work_6 (by decide) ?_
  refine lv_icmp_ge (tgt := 22) hx hb d_M_work_8 (by decide) (fun _ => ?_) (fun h => absurd (by decide) h)
  refine lv_iconst (v := nI 0) hx hb d_M_work_22 (by decide) ?_
  refine lv_istore hx hb d_M_work_23 hl (by decide) rfl (fun ls hl => ?_)
  have hl : lv_has ls 12 [(4, .int (nI 0)), (0, .ref o), (1, .int (nI 9)), (2, .ref x), (3, .ref y)] := hl
  refine lv_iload hx hb d_M_work_25 (lv_at hl 0 rfl) ?_
  refine lv_if_eq (tgt := 40) hx hb d_M_work_27 (by decide) (fun _ => ?_) (fun h => absurd (by decide) h)
  refine lv_iload_n hx hb d_M_work_40 rfl (lv_at hl 2 rfl) ?_
  refine lv_if_ne (tgt := 58) hx hb d_M_work_41 (by decide) (fun _ => ?_) (fun h => absurd h (by decide))
  refine lv_iload_n hx hb d_M_work_58 rfl (lv_at hl 2 rfl) ?_
  refine lv_iconst (v := nI 1) hx hb d_M_work_59 (by decide) ?_
  refine lv_icmp_ne (tgt := 75) hx hb d_M_work_60 (by decide) (fun _ => ?_) (fun h => absurd h (by decide))
  refine lv_iload_n hx hb d_M_work_75 rfl (lv_at hl 2 rfl) ?_
  refine lv_iconst (v := nI 2) hx hb d_M_work_76 (by decide) ?_
  refine lv_icmp_ne (tgt := 100) hx hb d_M_work_77 (by decide) (fun _ => ?_) (fun h => absurd h (by decide))
  refine lv_iload_n hx hb d_M_work_100 rfl (lv_at hl 2 rfl) ?_
  refine lv_iconst (v := nI 5) hx hb d_M_work_101 (by decide) ?_
  refine lv_icmp_ge (tgt := 137) hx hb d_M_work_102 (by decide) (fun _ => ?_) (fun h => absurd (by decide) h)
  refine lv_iload_n hx hb d_M_work_137 rfl (lv_at hl 2 rfl) ?_
  refine lv_bipush (v := nI 7) hx hb d_M_work_138 (by decide) ?_
  refine lv_icmp_ge (tgt := 167) hx hb d_M_work_140 (by decide) (fun _ => ?_) (fun h => absurd (by decide) h)
  refine lv_iload_n hx hb d_M_work_167 rfl (lv_at hl 2 rfl) ?_
  refine lv_bipush (v := nI 7) hx hb d_M_work_168 (by decide) ?_
  refine lv_icmp_ne (tgt := 182) hx hb d_M_work_170 (by decide) (fun _ => ?_) (fun h => absurd h (by decide))
  refine lv_iload_n hx hb d_M_work_182 rfl (lv_at hl 2 rfl) ?_
  refine lv_bipush (v := nI 8) hx hb d_M_work_183 (by decide) ?_
  refine lv_icmp_ne (tgt := 197) hx hb d_M_work_185 (by decide) (fun _ => ?_) (fun h => absurd h (by decide))
  refine lv_iload_n hx hb d_M_work_197 rfl (lv_at hl 2 rfl) ?_
  refine lv_bipush (v := nI 12) hx hb d_M_work_198 (by decide) ?_
  refine lv_icmp_ge (tgt := 335) hx hb d_M_work_200 (by decide) (fun h => absurd h (by decide)) (fun _ => ?_)
  refine lv_aload_n hx hb d_M_work_203 rfl (lv_at hl 3 rfl) ?_
  refine lv_ldc2 (v := (256 : Int64)) hx hb hown (htw _ kw_398) d_M_work_204 ?_
  refine x_topl (v := lN 256) (rfl) ?_
  refine x_calll (A := MS o) (va_runS (As := [.ref x, .long (lN 256)]) (rest := []) ⟨hx, hb, hml, hown, htw⟩ (m_small l D cJ cI cQ cR x vx 256 fx hvx (by decide) hNx) (xcS 2 htw kw_396 kw_2 kw_394 kw_395 rfl rfl ⟨by decide, by decide, by decide +kernel⟩ ⟨Nat.le_of_ble_eq_true rfl, Nat.le_of_ble_eq_true rfl⟩) (xPre hK h_X) rfl rfl hl.1 rfl (lv_room (Nat.le_of_ble_eq_true rfl)) d_M_work_207 ⟨Nat.le_of_ble_eq_true rfl, Nat.le_of_ble_eq_true rfl⟩) hlo (fun _ h => h.elim) (fun r2 H2 locs2 hB2 hlo => ?_)
  obtain ⟨rfl, rfl⟩ := hB2
  obtain ⟨n, hn⟩ : ∃ n, n = (if vx ≤ 256 then vx else 256 + 1) := ⟨_, rfl⟩
  rw [← hn]
  have hnc : n = vx ∧ vx ≤ 256 ∨ n = 257 ∧ 256 < vx := by
    by_cases h : vx ≤ 256
    · rw [if_pos h] at hn
      exact Or.inl ⟨hn, h⟩
    · rw [if_neg h] at hn
      exact Or.inr ⟨hn, by omega⟩
  have hn257 : n ≤ 257 := by omega
  obtain ⟨mn, hmn⟩ : ∃ mn, mn = min vx 256 := ⟨_, rfl⟩
  have hmn2 : mn = n ∧ n ≤ 256 ∨ mn = 256 ∧ n = 257 := by omega
  refine lv_lstore hx hb d_M_work_210 hl (by decide) rfl (fun ls hl => ?_)
  have hl : lv_has ls 12 [(5, .long (lN n)), (4, .int (nI 0)), (0, .ref o), (1, .int (nI 9)), (2, .ref x), (3, .ref y)] := hl
  have hsg1 : 0 ≤ 1 := by decide
  refine lv_iload_n hx hb d_M_work_212 rfl (lv_at hl 3 rfl) ?_
  refine lv_bipush (v := nI 11) hx hb d_M_work_213 (by decide) ?_
  refine lv_icmp_ne (tgt := 228) hx hb d_M_work_215 (by decide) (fun _ => ?_) (fun h => absurd h (by decide))
  refine lv_iconst (v := nI 0) hx hb d_M_work_228 (by decide) ?_
  refine lv_istore hx hb d_M_work_229 hl (by decide) rfl (fun ls hl => ?_)
  have hl : lv_has ls 12 [(7, .int (nI 0)), (5, .long (lN n)), (4, .int (nI 0)), (0, .ref o), (1, .int (nI 9)), (2, .ref x), (3, .ref y)] := hl
  refine lv_aload_n hx hb d_M_work_231 rfl (lv_at hl 3 rfl) ?_
  refine va_get (D := D) (ci := 1) (v := .ref (o + 20)) (C := "WideNumbersModel") (T := F_M) (N := 9) hx hb htw inM hown hK hO.1 0 rfl rfl 4 (by decide) (htw _ kw_280) (fun _ h9 => h9) rfl d_M_work_232 ?_
  refine x_callv (A := MS o) (va_runS (As := [.ref (o + 20)]) (rest := []) ⟨hx, hb, hml, hown, htw⟩ (m_clear l D cJ cI cQ cR (o + 20) f20) (xcS 1 htw kw_342 kw_2 kw_340 kw_341 rfl rfl ⟨by decide, by decide, by decide +kernel⟩ ⟨Nat.le_of_ble_eq_true rfl, Nat.le_of_ble_eq_true rfl⟩) (xPre hK h_20) rfl rfl hl.1 rfl (lv_room (Nat.le_of_ble_eq_true rfl)) d_M_work_235 ⟨Nat.le_of_ble_eq_true rfl, Nat.le_of_ble_eq_true rfl⟩) hlo (fun q h => by have h : q = o + 20 := h; rw [h]; exact ⟨by omega, by omega⟩) (fun H4 locs4 hB4 hlo => ?_)
  obtain ⟨hF4, f4, hf4, hN4⟩ := hB4
  have h_18 := hI_f h_18 hF4 (show o + 18 ≠ o + 20 by omega)
  have h_19 := hI_f h_19 hF4 (show o + 19 ≠ o + 20 by omega)
  have h_20 := hf4
  have h_21 := hI_f h_21 hF4 (show o + 21 ≠ o + 20 by omega)
  have h_22 := hI_f h_22 hF4 (show o + 22 ≠ o + 20 by omega)
  have h_23 := hI_f h_23 hF4 (show o + 23 ≠ o + 20 by omega)
  have h_24 := hI_f h_24 hF4 (show o + 24 ≠ o + 20 by omega)
  have h_X := hI_f h_X hF4 (show x ≠ o + 20 by omega)
  have h_Y := hI_f h_Y hF4 (show y ≠ o + 20 by omega)
  have hO := hO.f1 hF4 (by omega)
  have hG := MS1 hG hF4 (by omega)
  refine lv_iconst (v := nI 0) hx hb d_M_work_238 (by decide) ?_
  refine lv_istore hx hb d_M_work_239 hl (by decide) rfl (fun ls hl => ?_)
  have hl : lv_has ls 12 [(8, .int (nI 0)), (7, .int (nI 0)), (5, .long (lN n)), (4, .int (nI 0)), (0, .ref o), (1, .int (nI 9)), (2, .ref x), (3, .ref y)] := hl
  have hl : lv_has ls 12 [(8, .int (nI 0)), (7, .int (nI 0)), (5, .long (lN n)), (1, .int (nI 9)), (0, .ref o), (3, .ref y)] := lv_sub hl [0, 1, 2, 5, 4, 7] rfl
  obtain ⟨T, hT⟩ : ∃ T : Nat → Bool, ∀ q, T q = (decide (n ≤ q) && vy.testBit (q - n)) := ⟨fun q => decide (n ≤ q) && vy.testBit (q - n), fun _ => rfl⟩
  refine x_loop 241 (fun i H locs ls => ∃ f : Nat → Int32, lv_has ls 12 [(8, .int (nI i)), (7, .int (nI 0)), (5, .long (lN n)), (1, .int (nI 9)), (0, .ref o), (3, .ref y)] ∧ (∀ q ∈ locs, MS o q.base) ∧ XF (fun q => q = o + 20) H4 H ∧ hI H cI (o + 20) 8 f ∧ BT f (fun q => decide (q < i) && T q)) 256 ?_ ?_ 0 _ _ _ (by omega) ?_
  · intro i H locs ls hi ⟨f, hl, hlo, hF, hf, hBT⟩ ih
    refine lv_iload hx hb d_M_work_241 (lv_at hl 0 rfl) ?_
    refine lv_sipush (v := nI 256) hx hb d_M_work_243 (by decide) ?_
    refine lv_icmp_ge (tgt := 332) hx hb d_M_work_246 (by decide) (fun hc => absurd hc (nI_ge (by omega) (by omega))) (fun _ => ?_)
    have hO := hO.f1 hF (by omega)
    have h_Y := hI_f h_Y hF (show y ≠ o + 20 by omega)
    obtain ⟨d, hd, hfd, hdb⟩ := hBT (i / 32) (by omega)
    refine lv_iload_n hx hb d_M_work_249 rfl (lv_at hl 3 rfl) ?_
    refine lv_bipush (v := nI 9) hx hb d_M_work_250 (by decide) ?_
    refine lv_icmp_ne (tgt := 264) hx hb d_M_work_252 (by decide) (fun h => absurd (by decide) h) (fun _ => ?_)
    refine lv_iload hx hb d_M_work_255 (lv_at hl 0 rfl) ?_
    refine lv_i2l (v := lN i) hx hb d_M_work_257 (il_s (by omega)) ?_
    refine lv_lload hx hb d_M_work_258 (lv_at hl 2 rfl) ?_
    by_cases hni : n ≤ i
    · refine lv_lsub hx hb d_M_work_260 ?_
      refine x_topl (v := lN (i - n)) (j_sub hni) ?_
      refine lv_goto (tgt := 270) hx hb d_M_work_261 (by decide) ?_
      refine lv_lstore hx hb d_M_work_270 hl (by decide) rfl (fun ls hl => ?_)
      have hl : lv_has ls 12 [(9, .long (lN (i - n))), (8, .int (nI i)), (7, .int (nI 0)), (5, .long (lN n)), (1, .int (nI 9)), (0, .ref o), (3, .ref y)] := hl
      refine lv_lload hx hb d_M_work_272 (lv_at hl 0 rfl) ?_
      refine lv_lconst (v := lN 0) hx hb d_M_work_274 (by decide) ?_
      refine W.lcmp hx hb d_M_work_275 ?_
      refine lv_if_ge (tgt := 283) hx hb d_M_work_276 (by decide) (fun _ => ?_) (fun hc => absurd ((lg_cmp_ge _ _).mpr ((Int64.not_lt.mp (fun z => absurd ((jN_lt (by omega) (by decide)).mp z) (by omega))))) hc)
      refine lv_lload hx hb d_M_work_283 (lv_at hl 0 rfl) ?_
      refine lv_ldc2 (v := (255 : Int64)) hx hb hown (htw _ kw_399) d_M_work_285 ?_
      refine x_topl (v := lN 255) (rfl) ?_
      refine W.lcmp hx hb d_M_work_288 ?_
      refine lv_if_le (tgt := 297) hx hb d_M_work_289 (by decide) (fun _ => ?_) (fun hc => absurd ((lg_cmp_le _ _).mpr ((Int64.not_lt.mp (fun z => absurd ((jN_lt (by decide) (by omega)).mp z) (by omega))))) hc)
      refine lv_aload_n hx hb d_M_work_297 rfl (lv_at hl 6 rfl) ?_
      refine lv_lload hx hb d_M_work_298 (lv_at hl 0 rfl) ?_
      refine lv_l2i (v := nI (i - n)) hx hb d_M_work_300 (lN_i _) ?_
      refine x_calli (A := MS o) (va_runS (As := [.ref y, .int (nI (i - n))]) (rest := []) ⟨hx, hb, hml, hown, htw⟩ (m_bit l D cJ cI cQ cR y 8 (i - n) vy fy (by decide) (by omega) hNy) (xcS 2 htw kw_388 kw_2 kw_386 kw_387 rfl rfl ⟨by decide, by decide, by decide +kernel⟩ ⟨Nat.le_of_ble_eq_true rfl, Nat.le_of_ble_eq_true rfl⟩) (xPre hK h_Y) rfl rfl hl.1 rfl (lv_room (Nat.le_of_ble_eq_true rfl)) d_M_work_301 ⟨Nat.le_of_ble_eq_true rfl, Nat.le_of_ble_eq_true rfl⟩) hlo (fun _ h => h.elim) (fun r6 H6 locs6 hB6 hlo => ?_)
      obtain ⟨rfl, rfl⟩ := hB6
      obtain ⟨bb, hbb⟩ : ∃ bb, bb = vy / 2 ^ (i - n) % 2 := ⟨_, rfl⟩
      rw [← hbb]
      have hb1 : bb ≤ 1 := by omega
      refine lv_istore hx hb d_M_work_304 hl (by decide) rfl (fun ls hl => ?_)
      have hl : lv_has ls 12 [(11, .int (nI bb)), (9, .long (lN (i - n))), (8, .int (nI i)), (7, .int (nI 0)), (5, .long (lN n)), (1, .int (nI 9)), (0, .ref o), (3, .ref y)] := hl
      refine lv_aload_n hx hb d_M_work_306 rfl (lv_at hl 6 rfl) ?_
      refine va_get (D := D) (ci := 1) (v := .ref (o + 20)) (C := "WideNumbersModel") (T := F_M) (N := 9) hx hb htw inM hown hK hO.1 0 rfl rfl 4 (by decide) (htw _ kw_280) (fun _ h9 => h9) rfl d_M_work_307 ?_
      refine lv_iload hx hb d_M_work_310 (lv_at hl 2 rfl) ?_
      refine lv_iconst (v := nI 5) hx hb d_M_work_312 (by decide) ?_
      refine lv_ishr hx hb d_M_work_313 ?_
      refine x_topi (v := nI (i / 32)) (iN_shr5 (by omega)) ?_
      refine lv_dup2_11 hx hb d_M_work_314 rfl rfl ?_
      refine x_iald hx hb hI9 hf (i / 32) (rfl) (by omega) (by omega) (v := nI d) (hfd) d_M_work_315 ?_
      refine lv_iload hx hb d_M_work_316 (lv_at hl 0 rfl) ?_
      refine lv_iload hx hb d_M_work_318 (lv_at hl 2 rfl) ?_
      refine lv_bipush (v := nI 31) hx hb d_M_work_320 (by decide) ?_
      refine lv_iand hx hb d_M_work_322 ?_
      refine x_topi (v := nI (i % 32)) (iN_and31 (by omega)) ?_
      refine lv_ishl hx hb d_M_work_323 ?_
      refine x_topi (v := nI (bb * 2 ^ (i % 32))) (iN_shl _ (by omega)) ?_
      refine lv_ior hx hb d_M_work_324 ?_
      refine x_topi (v := nI (d ||| bb * 2 ^ (i % 32))) (iN_or _ _) ?_
      refine x_iast (A := MS o) hx hb hI9 hf hlo (⟨by omega, by omega⟩) (i / 32) (rfl) (by omega) (by omega) d_M_work_325 (fun H5 locs5 h5 hF5 hlo5 => ?_)
      refine lv_iinc (v := nI (i + 1)) (k := 2) hx hb d_M_work_326 hl rfl (nI_1 i) (by decide) rfl (fun ls hl => ?_)
      have hl : lv_has ls 12 [(8, .int (nI (i + 1))), (11, .int (nI bb)), (9, .long (lN (i - n))), (7, .int (nI 0)), (5, .long (lN n)), (1, .int (nI 9)), (0, .ref o), (3, .ref y)] := hl
      refine lv_goto (tgt := 241) hx hb d_M_work_329 (by decide) ?_
      have hl : lv_has ls 12 [(8, .int (nI (i + 1))), (7, .int (nI 0)), (5, .long (lN n)), (1, .int (nI 9)), (0, .ref o), (3, .ref y)] := lv_sub hl [0, 3, 4, 5, 6, 7] rfl
      have hm := Nat.mod_lt i (show 0 < 32 by decide)
      refine ih _ locs5 ls ⟨_, hl, hlo5, hF.tr hF5 (fun _ h => h), h5, BT_put hBT (or_lt32 hd (b_lt32 (hb1) hm)) (or_step (hb1) (by rw [hT]; rw [decide_eq_true hni, Bool.true_and, hbb, tb_1]) hdb) (fun q hq hne => ?_)⟩
      try dsimp only
      congr 1
      exact decide_eq_decide.mpr (by omega)
    · refine lv_lsub hx hb d_M_work_260 ?_
      refine lv_goto (tgt := 270) hx hb d_M_work_261 (by decide) ?_
      refine lv_lstore hx hb d_M_work_270 hl (by decide) rfl (fun ls hl => ?_)
      have hl : lv_has ls 12 [(9, .long ((lN i) - (lN n))), (8, .int (nI i)), (7, .int (nI 0)), (5, .long (lN n)), (1, .int (nI 9)), (0, .ref o), (3, .ref y)] := hl
      refine lv_lload hx hb d_M_work_272 (lv_at hl 0 rfl) ?_
      refine lv_lconst (v := lN 0) hx hb d_M_work_274 (by decide) ?_
      refine W.lcmp hx hb d_M_work_275 ?_
      refine lv_if_ge (tgt := 283) hx hb d_M_work_276 (by decide) (fun hc => absurd ((lg_cmp_ge _ _).mp hc) (Int64.not_le.mpr (j_subn (by omega) (by omega)))) (fun _ => ?_)
      refine lv_iconst (v := nI 0) hx hb d_M_work_279 (by decide) ?_
      refine lv_goto (tgt := 304) hx hb d_M_work_280 (by decide) ?_
      refine lv_istore hx hb d_M_work_304 hl (by decide) rfl (fun ls hl => ?_)
      have hl : lv_has ls 12 [(11, .int (nI 0)), (9, .long ((lN i) - (lN n))), (8, .int (nI i)), (7, .int (nI 0)), (5, .long (lN n)), (1, .int (nI 9)), (0, .ref o), (3, .ref y)] := hl
      refine lv_aload_n hx hb d_M_work_306 rfl (lv_at hl 6 rfl) ?_
      refine va_get (D := D) (ci := 1) (v := .ref (o + 20)) (C := "WideNumbersModel") (T := F_M) (N := 9) hx hb htw inM hown hK hO.1 0 rfl rfl 4 (by decide) (htw _ kw_280) (fun _ h9 => h9) rfl d_M_work_307 ?_
      refine lv_iload hx hb d_M_work_310 (lv_at hl 2 rfl) ?_
      refine lv_iconst (v := nI 5) hx hb d_M_work_312 (by decide) ?_
      refine lv_ishr hx hb d_M_work_313 ?_
      refine x_topi (v := nI (i / 32)) (iN_shr5 (by omega)) ?_
      refine lv_dup2_11 hx hb d_M_work_314 rfl rfl ?_
      refine x_iald hx hb hI9 hf (i / 32) (rfl) (by omega) (by omega) (v := nI d) (hfd) d_M_work_315 ?_
      refine lv_iload hx hb d_M_work_316 (lv_at hl 0 rfl) ?_
      refine lv_iload hx hb d_M_work_318 (lv_at hl 2 rfl) ?_
      refine lv_bipush (v := nI 31) hx hb d_M_work_320 (by decide) ?_
      refine lv_iand hx hb d_M_work_322 ?_
      refine x_topi (v := nI (i % 32)) (iN_and31 (by omega)) ?_
      refine lv_ishl hx hb d_M_work_323 ?_
      refine x_topi (v := nI (0 * 2 ^ (i % 32))) (iN_shl _ (by omega)) ?_
      refine lv_ior hx hb d_M_work_324 ?_
      refine x_topi (v := nI (d ||| 0 * 2 ^ (i % 32))) (iN_or _ _) ?_
      refine x_iast (A := MS o) hx hb hI9 hf hlo (⟨by omega, by omega⟩) (i / 32) (rfl) (by omega) (by omega) d_M_work_325 (fun H5 locs5 h5 hF5 hlo5 => ?_)
      refine lv_iinc (v := nI (i + 1)) (k := 2) hx hb d_M_work_326 hl rfl (nI_1 i) (by decide) rfl (fun ls hl => ?_)
      have hl : lv_has ls 12 [(8, .int (nI (i + 1))), (11, .int (nI 0)), (9, .long ((lN i) - (lN n))), (7, .int (nI 0)), (5, .long (lN n)), (1, .int (nI 9)), (0, .ref o), (3, .ref y)] := hl
      refine lv_goto (tgt := 241) hx hb d_M_work_329 (by decide) ?_
      have hl : lv_has ls 12 [(8, .int (nI (i + 1))), (7, .int (nI 0)), (5, .long (lN n)), (1, .int (nI 9)), (0, .ref o), (3, .ref y)] := lv_sub hl [0, 3, 4, 5, 6, 7] rfl
      have hm := Nat.mod_lt i (show 0 < 32 by decide)
      refine ih _ locs5 ls ⟨_, hl, hlo5, hF.tr hF5 (fun _ h => h), h5, BT_put hBT (or_lt32 hd (b_lt32 (hsg1) hm)) (or_step (hsg1) (by rw [hT]; rw [decide_eq_false hni]; rfl) hdb) (fun q hq hne => ?_)⟩
      try dsimp only
      congr 1
      exact decide_eq_decide.mpr (by omega)
  · intro H locs ls ⟨f, hl, hlo, hF, hf, hBT⟩
    refine lv_iload hx hb d_M_work_241 (lv_at hl 0 rfl) ?_
    refine lv_sipush (v := nI 256) hx hb d_M_work_243 (by decide) ?_
    refine lv_icmp_ge (tgt := 332) hx hb d_M_work_246 (by decide) (fun _ => ?_) (fun hc => absurd (nI_le (Nat.le_refl _) (by omega)) hc)
    have h_18 := hI_f h_18 hF (show o + 18 ≠ o + 20 by omega)
    have h_19 := hI_f h_19 hF (show o + 19 ≠ o + 20 by omega)
    have h_20 := hf
    have h_21 := hI_f h_21 hF (show o + 21 ≠ o + 20 by omega)
    have h_22 := hI_f h_22 hF (show o + 22 ≠ o + 20 by omega)
    have h_23 := hI_f h_23 hF (show o + 23 ≠ o + 20 by omega)
    have h_24 := hI_f h_24 hF (show o + 24 ≠ o + 20 by omega)
    have h_X := hI_f h_X hF (show x ≠ o + 20 by omega)
    have h_Y := hI_f h_Y hF (show y ≠ o + 20 by omega)
    have hO := hO.f1 hF (by omega)
    have hG := MS1 hG hF (by omega)
    refine lv_goto (tgt := 468) hx hb d_M_work_332 (by decide) ?_
    exact W.vret hx hb hr (fun t ht hW => ⟨rfl, by rw [ht]; exact hG, by rw [ht]; exact ⟨⟨_, h_18⟩, ⟨_, h_19⟩, ⟨_, h_20⟩, ⟨_, h_21, hN21⟩, ⟨_, h_22⟩, ⟨_, h_23⟩, ⟨_, h_24⟩⟩, _, by rw [ht]; exact h_20, BT_NI hBT (fun q hq => by
      show (vy * 2 ^ min vx 256 % 2 ^ 256).testBit q = _
      try dsimp only
      rw [← hmn, shl_tb hq, decide_eq_true hq, Bool.true_and, hT]
      rcases hmn2 with ⟨e1, e2⟩ | ⟨e1, e2⟩
      · rw [e1]
      · rw [decide_eq_false (by omega), decide_eq_false (by omega)]
        rfl)⟩) hlo d_M_work_468
  · refine ⟨f4, hl, hlo, XF.rf, h_20, fun j hj => ?_⟩
    obtain ⟨d, h1, h2, h3⟩ := BT_0 hN4 j hj
    exact ⟨d, h1, h2, fun t ht => by
      rw [h3 t ht]
      try dsimp only
      rw [decide_eq_false (by omega)]
      rfl⟩
set_option maxHeartbeats 4000000 in
set_option maxRecDepth 100000 in
theorem m_work_10 (l : Launch) (D : va_G) (cJ cI cQ cR : ClassId) (o x y vx vy : Nat) (fl : Int32) (fx fy : Nat → Int32) (hxr : o + 2 ≤ x ∧ x < o + 18) (hyr : o + 2 ≤ y ∧ y < o + 18) (hvx : vx < 2 ^ 256) (hvy : vy < 2 ^ 256) (hNx : NI fx 8 vx) (hNy : NI fy 8 vy) : Met l y_M_work w_M_work { frames := 3, cells := 0, slots := 0, locals := 77 } (xP D vwCl (TY cJ cI cQ cR) [.ref o, .int (nI 10), .ref x, .ref y] (fun H => MB D cR o fl H ∧ SM cI o H ∧ hI H cI x 8 fx ∧ hI H cI y 8 fy)) (xQv (fun H0 H => XF (MS o) H0 H ∧ SM cI o H ∧ ∃ f : Nat → Int32, hI H cI (o + 20) 8 f ∧ NI f 8 (opv 10 vx vy))) 0 0 (MS o) := by
  refine Met.ofW (cc := b_M_work) (maxL := 12) (ret := none) (by decide) rfl ?_
  intro p e s m args below meth c s₁ B hml hv
  obtain ⟨rfl, hK, ⟨hO, hSM, h_X, h_Y⟩⟩ := hv
  have hx := B.exec
  have hb := B.bytes
  have hr := B.returns
  have hts := atoms_spec (ws := w_M_work) B.pre
  have htw : ∀ w ∈ WT, w.before _ s = true := fun w h => hts w (List.mem_cons_of_mem _ h)
  have hown : s.vm.findClass "WideNumbersModel" = some m.cls := findClass_of_methodNamed B.named
  have hlocks := B.notSynchronized
  have hJ : ArrOfT s cJ .long := (hK.2 0 _ rfl).1
  have hI9 : ArrOfT s cI .int := (hK.2 1 _ rfl).1
  have hl := lv_entry ([.ref o, .int (nI 10), .ref x, .ref y]) (n := 12) (Nat.le_of_ble_eq_true rfl)
  rw [lg_entry_eq]
  generalize (lg_sl ([.ref o, .int (nI 10), .ref x, .ref y]) ++ List.replicate (12 - (lg_sl ([.ref o, .int (nI 10), .ref x, .ref y])).length) Slot.unset).toArray = ls at hl ⊢
  have hl : lv_has ls 12 [(0, .ref o), (1, .int (nI 10)), (2, .ref x), (3, .ref y)] := hl
  obtain ⟨⟨f18, h_18⟩, ⟨f19, h_19⟩, ⟨f20, h_20⟩, ⟨f21, h_21, hN21⟩, ⟨f22, h_22⟩, ⟨f23, h_23⟩, ⟨f24, h_24⟩⟩ := hSM
  have hG : XF (MS o) s.heap s.heap := XF.rf
  have hlo : ∀ q ∈ ([] : List Loc), MS o q.base := fun _ h => nomatch h
  refine lv_iload_n hx hb d_M_work_0 rfl (lv_at hl 1 rfl) ?_
  refine lv_iconst (v := nI 2) hx hb d_M_work_1 (by decide) ?_
  refine lv_icmp_le (tgt := 22) hx hb d_M_work_2 (by decide) (fun h => absurd h (by decide)) (fun _ => ?_)
  refine lv_iload_n hx hb d_M_work_5 rfl (lv_at hl 1 rfl) ?_
  refine lv_bipush (v := nI 7) hx hb d_M_work_6 (by decide) ?_
  refine lv_icmp_ge (tgt := 22) hx hb d_M_work_8 (by decide) (fun _ => ?_) (fun h => absurd (by decide) h)
  refine lv_iconst (v := nI 0) hx hb d_M_work_22 (by decide) ?_
  refine lv_istore hx hb d_M_work_23 hl (by decide) rfl (fun ls hl => ?_)
  have hl : lv_has ls 12 [(4, .int (nI 0)), (0, .ref o), (1, .int (nI 10)), (2, .ref x), (3, .ref y)] := hl
  refine lv_iload hx hb d_M_work_25 (lv_at hl 0 rfl) ?_
  refine lv_if_eq (tgt := 40) hx hb d_M_work_27 (by decide) (fun _ => ?_) (fun h => absurd (by decide) h)
  refine lv_iload_n hx hb d_M_work_40 rfl (lv_at hl 2 rfl) ?_
  refine lv_if_ne (tgt := 58) hx hb d_M_work_41 (by decide) (fun _ => ?_) (fun h => absurd h (by decide))
  refine lv_iload_n hx hb d_M_work_58 rfl (lv_at hl 2 rfl) ?_
  refine lv_iconst (v := nI 1) hx hb d_M_work_59 (by decide) ?_
  refine lv_icmp_ne (tgt := 75) hx hb d_M_work_60 (by decide) (fun _ => ?_) (fun h => absurd h (by decide))
  refine lv_iload_n hx hb d_M_work_75 rfl (lv_at hl 2 rfl) ?_
  refine lv_iconst (v := nI 2) hx hb d_M_work_76 (by decide) ?_
  refine lv_icmp_ne (tgt := 100) hx hb d_M_work_77 (by decide) (fun _ => ?_) (fun h => absurd h (by decide))
  refine lv_iload_n hx hb d_M_work_100 rfl (lv_at hl 2 rfl) ?_
  refine lv_iconst (v := nI 5) hx hb d_M_work_101 (by decide) ?_
  refine lv_icmp_ge (tgt := 137) hx hb d_M_work_102 (by decide) (fun _ => ?_) (fun h => absurd (by decide) h)
  refine lv_iload_n hx hb d_M_work_137 rfl (lv_at hl 2 rfl) ?_
  refine lv_bipush (v := nI 7) hx hb d_M_work_138 (by decide) ?_
  refine lv_icmp_ge (tgt := 167) hx hb d_M_work_140 (by decide) (fun _ => ?_) (fun h => absurd (by decide) h)
  refine lv_iload_n hx hb d_M_work_167 rfl (lv_at hl 2 rfl) ?_
  refine lv_bipush (v := nI 7) hx hb d_M_work_168 (by decide) ?_
  refine lv_icmp_ne (tgt := 182) hx hb d_M_work_170 (by decide) (fun _ => ?_) (fun h => absurd h (by decide))
  refine lv_iload_n hx hb d_M_work_182 rfl (lv_at hl 2 rfl) ?_
  refine lv_bipush (v := nI 8) hx hb d_M_work_183 (by decide) ?_
  refine lv_icmp_ne (tgt := 197) hx hb d_M_work_185 (by decide) (fun _ => ?_) (fun h => absurd h (by decide))
  refine lv_iload_n hx hb d_M_work_197 rfl (lv_at hl 2 rfl) ?_
  refine lv_bipush (v := nI 12) hx hb d_M_work_198 (by decide) ?_
  refine lv_icmp_ge (tgt := 335) hx hb d_M_work_200 (by decide) (fun h => absurd h (by decide)) (fun _ => ?_)
  refine lv_aload_n hx hb d_M_work_203 rfl (lv_at hl 3 rfl) ?_
  refine lv_ldc2 (v := (256 : Int64)) hx hb hown (htw _ kw_398) d_M_work_204 ?_
  refine x_topl (v := lN 256) (rfl) ?_
  refine x_calll (A := MS o) (va_runS (As := [.ref x, .long (lN 256)]) (rest := []) ⟨hx, hb, hml, hown, htw⟩ (m_small l D cJ cI cQ cR x vx 256 fx hvx (by decide) hNx) (xcS 2 htw kw_396 kw_2 kw_394 kw_395 rfl rfl ⟨by decide, by decide, by decide +kernel⟩ ⟨Nat.le_of_ble_eq_true rfl, Nat.le_of_ble_eq_true rfl⟩) (xPre hK h_X) rfl rfl hl.1 rfl (lv_room (Nat.le_of_ble_eq_true rfl)) d_M_work_207 ⟨Nat.le_of_ble_eq_true rfl, Nat.le_of_ble_eq_true rfl⟩) hlo (fun _ h => h.elim) (fun r2 H2 locs2 hB2 hlo => ?_)
  obtain ⟨rfl, rfl⟩ := hB2
  obtain ⟨n, hn⟩ : ∃ n, n = (if vx ≤ 256 then vx else 256 + 1) := ⟨_, rfl⟩
  rw [← hn]
  have hnc : n = vx ∧ vx ≤ 256 ∨ n = 257 ∧ 256 < vx := by
    by_cases h : vx ≤ 256
    · rw [if_pos h] at hn
      exact Or.inl ⟨hn, h⟩
    · rw [if_neg h] at hn
      exact Or.inr ⟨hn, by omega⟩
  have hn257 : n ≤ 257 := by omega
  obtain ⟨mn, hmn⟩ : ∃ mn, mn = min vx 256 := ⟨_, rfl⟩
  have hmn2 : mn = n ∧ n ≤ 256 ∨ mn = 256 ∧ n = 257 := by omega
  refine lv_lstore hx hb d_M_work_210 hl (by decide) rfl (fun ls hl => ?_)
  have hl : lv_has ls 12 [(5, .long (lN n)), (4, .int (nI 0)), (0, .ref o), (1, .int (nI 10)), (2, .ref x), (3, .ref y)] := hl
  have hsg1 : 0 ≤ 1 := by decide
  refine lv_iload_n hx hb d_M_work_212 rfl (lv_at hl 3 rfl) ?_
  refine lv_bipush (v := nI 11) hx hb d_M_work_213 (by decide) ?_
  refine lv_icmp_ne (tgt := 228) hx hb d_M_work_215 (by decide) (fun _ => ?_) (fun h => absurd h (by decide))
  refine lv_iconst (v := nI 0) hx hb d_M_work_228 (by decide) ?_
  refine lv_istore hx hb d_M_work_229 hl (by decide) rfl (fun ls hl => ?_)
  have hl : lv_has ls 12 [(7, .int (nI 0)), (5, .long (lN n)), (4, .int (nI 0)), (0, .ref o), (1, .int (nI 10)), (2, .ref x), (3, .ref y)] := hl
  refine lv_aload_n hx hb d_M_work_231 rfl (lv_at hl 3 rfl) ?_
  refine va_get (D := D) (ci := 1) (v := .ref (o + 20)) (C := "WideNumbersModel") (T := F_M) (N := 9) hx hb htw inM hown hK hO.1 0 rfl rfl 4 (by decide) (htw _ kw_280) (fun _ h9 => h9) rfl d_M_work_232 ?_
  refine x_callv (A := MS o) (va_runS (As := [.ref (o + 20)]) (rest := []) ⟨hx, hb, hml, hown, htw⟩ (m_clear l D cJ cI cQ cR (o + 20) f20) (xcS 1 htw kw_342 kw_2 kw_340 kw_341 rfl rfl ⟨by decide, by decide, by decide +kernel⟩ ⟨Nat.le_of_ble_eq_true rfl, Nat.le_of_ble_eq_true rfl⟩) (xPre hK h_20) rfl rfl hl.1 rfl (lv_room (Nat.le_of_ble_eq_true rfl)) d_M_work_235 ⟨Nat.le_of_ble_eq_true rfl, Nat.le_of_ble_eq_true rfl⟩) hlo (fun q h => by have h : q = o + 20 := h; rw [h]; exact ⟨by omega, by omega⟩) (fun H4 locs4 hB4 hlo => ?_)
  obtain ⟨hF4, f4, hf4, hN4⟩ := hB4
  have h_18 := hI_f h_18 hF4 (show o + 18 ≠ o + 20 by omega)
  have h_19 := hI_f h_19 hF4 (show o + 19 ≠ o + 20 by omega)
  have h_20 := hf4
  have h_21 := hI_f h_21 hF4 (show o + 21 ≠ o + 20 by omega)
  have h_22 := hI_f h_22 hF4 (show o + 22 ≠ o + 20 by omega)
  have h_23 := hI_f h_23 hF4 (show o + 23 ≠ o + 20 by omega)
  have h_24 := hI_f h_24 hF4 (show o + 24 ≠ o + 20 by omega)
  have h_X := hI_f h_X hF4 (show x ≠ o + 20 by omega)
  have h_Y := hI_f h_Y hF4 (show y ≠ o + 20 by omega)
  have hO := hO.f1 hF4 (by omega)
  have hG := MS1 hG hF4 (by omega)
  refine lv_iconst (v := nI 0) hx hb d_M_work_238 (by decide) ?_
  refine lv_istore hx hb d_M_work_239 hl (by decide) rfl (fun ls hl => ?_)
  have hl : lv_has ls 12 [(8, .int (nI 0)), (7, .int (nI 0)), (5, .long (lN n)), (4, .int (nI 0)), (0, .ref o), (1, .int (nI 10)), (2, .ref x), (3, .ref y)] := hl
  have hl : lv_has ls 12 [(8, .int (nI 0)), (7, .int (nI 0)), (5, .long (lN n)), (1, .int (nI 10)), (0, .ref o), (3, .ref y)] := lv_sub hl [0, 1, 2, 5, 4, 7] rfl
  obtain ⟨T, hT⟩ : ∃ T : Nat → Bool, ∀ q, T q = (if n + q < 256 then vy.testBit (n + q) else false) := ⟨fun q => if n + q < 256 then vy.testBit (n + q) else false, fun _ => rfl⟩
  refine x_loop 241 (fun i H locs ls => ∃ f : Nat → Int32, lv_has ls 12 [(8, .int (nI i)), (7, .int (nI 0)), (5, .long (lN n)), (1, .int (nI 10)), (0, .ref o), (3, .ref y)] ∧ (∀ q ∈ locs, MS o q.base) ∧ XF (fun q => q = o + 20) H4 H ∧ hI H cI (o + 20) 8 f ∧ BT f (fun q => decide (q < i) && T q)) 256 ?_ ?_ 0 _ _ _ (by omega) ?_
  · intro i H locs ls hi ⟨f, hl, hlo, hF, hf, hBT⟩ ih
    refine lv_iload hx hb d_M_work_241 (lv_at hl 0 rfl) ?_
    refine lv_sipush (v := nI 256) hx hb d_M_work_243 (by decide) ?_
    refine lv_icmp_ge (tgt := 332) hx hb d_M_work_246 (by decide) (fun hc => absurd hc (nI_ge (by omega) (by omega))) (fun _ => ?_)
    have hO := hO.f1 hF (by omega)
    have h_Y := hI_f h_Y hF (show y ≠ o + 20 by omega)
    obtain ⟨d, hd, hfd, hdb⟩ := hBT (i / 32) (by omega)
    refine lv_iload_n hx hb d_M_work_249 rfl (lv_at hl 3 rfl) ?_
    refine lv_bipush (v := nI 9) hx hb d_M_work_250 (by decide) ?_
    refine lv_icmp_ne (tgt := 264) hx hb d_M_work_252 (by decide) (fun _ => ?_) (fun h => absurd h (by decide))
    refine lv_iload hx hb d_M_work_264 (lv_at hl 0 rfl) ?_
    refine lv_i2l (v := lN i) hx hb d_M_work_266 (il_s (by omega)) ?_
    refine lv_lload hx hb d_M_work_267 (lv_at hl 2 rfl) ?_
    refine lv_ladd hx hb d_M_work_269 ?_
    refine x_topl (v := lN (i + n)) (lN_add _ _) ?_
    refine lv_lstore hx hb d_M_work_270 hl (by decide) rfl (fun ls hl => ?_)
    have hl : lv_has ls 12 [(9, .long (lN (i + n))), (8, .int (nI i)), (7, .int (nI 0)), (5, .long (lN n)), (1, .int (nI 10)), (0, .ref o), (3, .ref y)] := hl
    refine lv_lload hx hb d_M_work_272 (lv_at hl 0 rfl) ?_
    refine lv_lconst (v := lN 0) hx hb d_M_work_274 (by decide) ?_
    refine W.lcmp hx hb d_M_work_275 ?_
    refine lv_if_ge (tgt := 283) hx hb d_M_work_276 (by decide) (fun _ => ?_) (fun hc => absurd ((lg_cmp_ge _ _).mpr ((Int64.not_lt.mp (fun z => absurd ((jN_lt (by omega) (by decide)).mp z) (by omega))))) hc)
    refine lv_lload hx hb d_M_work_283 (lv_at hl 0 rfl) ?_
    refine lv_ldc2 (v := (255 : Int64)) hx hb hown (htw _ kw_399) d_M_work_285 ?_
    refine x_topl (v := lN 255) (rfl) ?_
    refine W.lcmp hx hb d_M_work_288 ?_
    refine lv_if_le (tgt := 297) hx hb d_M_work_289 (by decide) (fun hc => ?_) (fun hc => ?_)
    · have hin : n + i < 256 := Nat.lt_of_not_le (fun h => absurd ((lg_cmp_le _ _).mp hc) (Int64.not_le.mpr ((jN_lt (by decide) (by omega)).mpr (by omega))))
      refine lv_aload_n hx hb d_M_work_297 rfl (lv_at hl 6 rfl) ?_
      refine lv_lload hx hb d_M_work_298 (lv_at hl 0 rfl) ?_
      refine lv_l2i (v := nI (i + n)) hx hb d_M_work_300 (lN_i _) ?_
      refine x_calli (A := MS o) (va_runS (As := [.ref y, .int (nI (i + n))]) (rest := []) ⟨hx, hb, hml, hown, htw⟩ (m_bit l D cJ cI cQ cR y 8 (i + n) vy fy (by decide) (by omega) hNy) (xcS 2 htw kw_388 kw_2 kw_386 kw_387 rfl rfl ⟨by decide, by decide, by decide +kernel⟩ ⟨Nat.le_of_ble_eq_true rfl, Nat.le_of_ble_eq_true rfl⟩) (xPre hK h_Y) rfl rfl hl.1 rfl (lv_room (Nat.le_of_ble_eq_true rfl)) d_M_work_301 ⟨Nat.le_of_ble_eq_true rfl, Nat.le_of_ble_eq_true rfl⟩) hlo (fun _ h => h.elim) (fun r6 H6 locs6 hB6 hlo => ?_)
      obtain ⟨rfl, rfl⟩ := hB6
      obtain ⟨bb, hbb⟩ : ∃ bb, bb = vy / 2 ^ (i + n) % 2 := ⟨_, rfl⟩
      rw [← hbb]
      have hb1 : bb ≤ 1 := by omega
      refine lv_istore hx hb d_M_work_304 hl (by decide) rfl (fun ls hl => ?_)
      have hl : lv_has ls 12 [(11, .int (nI bb)), (9, .long (lN (i + n))), (8, .int (nI i)), (7, .int (nI 0)), (5, .long (lN n)), (1, .int (nI 10)), (0, .ref o), (3, .ref y)] := hl
      refine lv_aload_n hx hb d_M_work_306 rfl (lv_at hl 6 rfl) ?_
      refine va_get (D := D) (ci := 1) (v := .ref (o + 20)) (C := "WideNumbersModel") (T := F_M) (N := 9) hx hb htw inM hown hK hO.1 0 rfl rfl 4 (by decide) (htw _ kw_280) (fun _ h9 => h9) rfl d_M_work_307 ?_
      refine lv_iload hx hb d_M_work_310 (lv_at hl 2 rfl) ?_
      refine lv_iconst (v := nI 5) hx hb d_M_work_312 (by decide) ?_
      refine lv_ishr hx hb d_M_work_313 ?_
      refine x_topi (v := nI (i / 32)) (iN_shr5 (by omega)) ?_
      refine lv_dup2_11 hx hb d_M_work_314 rfl rfl ?_
      refine x_iald hx hb hI9 hf (i / 32) (rfl) (by omega) (by omega) (v := nI d) (hfd) d_M_work_315 ?_
      refine lv_iload hx hb d_M_work_316 (lv_at hl 0 rfl) ?_
      refine lv_iload hx hb d_M_work_318 (lv_at hl 2 rfl) ?_
      refine lv_bipush (v := nI 31) hx hb d_M_work_320 (by decide) ?_
      refine lv_iand hx hb d_M_work_322 ?_
      refine x_topi (v := nI (i % 32)) (iN_and31 (by omega)) ?_
      refine lv_ishl hx hb d_M_work_323 ?_
      refine x_topi (v := nI (bb * 2 ^ (i % 32))) (iN_shl _ (by omega)) ?_
      refine lv_ior hx hb d_M_work_324 ?_
      refine x_topi (v := nI (d ||| bb * 2 ^ (i % 32))) (iN_or _ _) ?_
      refine x_iast (A := MS o) hx hb hI9 hf hlo (⟨by omega, by omega⟩) (i / 32) (rfl) (by omega) (by omega) d_M_work_325 (fun H5 locs5 h5 hF5 hlo5 => ?_)
      refine lv_iinc (v := nI (i + 1)) (k := 2) hx hb d_M_work_326 hl rfl (nI_1 i) (by decide) rfl (fun ls hl => ?_)
      have hl : lv_has ls 12 [(8, .int (nI (i + 1))), (11, .int (nI bb)), (9, .long (lN (i + n))), (7, .int (nI 0)), (5, .long (lN n)), (1, .int (nI 10)), (0, .ref o), (3, .ref y)] := hl
      refine lv_goto (tgt := 241) hx hb d_M_work_329 (by decide) ?_
      have hl : lv_has ls 12 [(8, .int (nI (i + 1))), (7, .int (nI 0)), (5, .long (lN n)), (1, .int (nI 10)), (0, .ref o), (3, .ref y)] := lv_sub hl [0, 3, 4, 5, 6, 7] rfl
      have hm := Nat.mod_lt i (show 0 < 32 by decide)
      refine ih _ locs5 ls ⟨_, hl, hlo5, hF.tr hF5 (fun _ h => h), h5, BT_put hBT (or_lt32 hd (b_lt32 (hb1) hm)) (or_step (hb1) (by rw [hT]; rw [if_pos hin, hbb, tb_1, Nat.add_comm]) hdb) (fun q hq hne => ?_)⟩
      try dsimp only
      congr 1
      exact decide_eq_decide.mpr (by omega)
    · have hin : ¬ n + i < 256 := fun h => hc ((lg_cmp_le _ _).mpr (Int64.not_lt.mp (fun z => absurd ((jN_lt (by decide) (by omega)).mp z) (by omega))))
      refine lv_iload hx hb d_M_work_292 (lv_at hl 2 rfl) ?_
      refine lv_goto (tgt := 304) hx hb d_M_work_294 (by decide) ?_
      refine lv_istore hx hb d_M_work_304 hl (by decide) rfl (fun ls hl => ?_)
      have hl : lv_has ls 12 [(11, .int (nI 0)), (9, .long (lN (i + n))), (8, .int (nI i)), (7, .int (nI 0)), (5, .long (lN n)), (1, .int (nI 10)), (0, .ref o), (3, .ref y)] := hl
      refine lv_aload_n hx hb d_M_work_306 rfl (lv_at hl 6 rfl) ?_
      refine va_get (D := D) (ci := 1) (v := .ref (o + 20)) (C := "WideNumbersModel") (T := F_M) (N := 9) hx hb htw inM hown hK hO.1 0 rfl rfl 4 (by decide) (htw _ kw_280) (fun _ h9 => h9) rfl d_M_work_307 ?_
      refine lv_iload hx hb d_M_work_310 (lv_at hl 2 rfl) ?_
      refine lv_iconst (v := nI 5) hx hb d_M_work_312 (by decide) ?_
      refine lv_ishr hx hb d_M_work_313 ?_
      refine x_topi (v := nI (i / 32)) (iN_shr5 (by omega)) ?_
      refine lv_dup2_11 hx hb d_M_work_314 rfl rfl ?_
      refine x_iald hx hb hI9 hf (i / 32) (rfl) (by omega) (by omega) (v := nI d) (hfd) d_M_work_315 ?_
      refine lv_iload hx hb d_M_work_316 (lv_at hl 0 rfl) ?_
      refine lv_iload hx hb d_M_work_318 (lv_at hl 2 rfl) ?_
      refine lv_bipush (v := nI 31) hx hb d_M_work_320 (by decide) ?_
      refine lv_iand hx hb d_M_work_322 ?_
      refine x_topi (v := nI (i % 32)) (iN_and31 (by omega)) ?_
      refine lv_ishl hx hb d_M_work_323 ?_
      refine x_topi (v := nI (0 * 2 ^ (i % 32))) (iN_shl _ (by omega)) ?_
      refine lv_ior hx hb d_M_work_324 ?_
      refine x_topi (v := nI (d ||| 0 * 2 ^ (i % 32))) (iN_or _ _) ?_
      refine x_iast (A := MS o) hx hb hI9 hf hlo (⟨by omega, by omega⟩) (i / 32) (rfl) (by omega) (by omega) d_M_work_325 (fun H5 locs5 h5 hF5 hlo5 => ?_)
      refine lv_iinc (v := nI (i + 1)) (k := 2) hx hb d_M_work_326 hl rfl (nI_1 i) (by decide) rfl (fun ls hl => ?_)
      have hl : lv_has ls 12 [(8, .int (nI (i + 1))), (11, .int (nI 0)), (9, .long (lN (i + n))), (7, .int (nI 0)), (5, .long (lN n)), (1, .int (nI 10)), (0, .ref o), (3, .ref y)] := hl
      refine lv_goto (tgt := 241) hx hb d_M_work_329 (by decide) ?_
      have hl : lv_has ls 12 [(8, .int (nI (i + 1))), (7, .int (nI 0)), (5, .long (lN n)), (1, .int (nI 10)), (0, .ref o), (3, .ref y)] := lv_sub hl [0, 3, 4, 5, 6, 7] rfl
      have hm := Nat.mod_lt i (show 0 < 32 by decide)
      refine ih _ locs5 ls ⟨_, hl, hlo5, hF.tr hF5 (fun _ h => h), h5, BT_put hBT (or_lt32 hd (b_lt32 (hsg1) hm)) (or_step (hsg1) (by rw [hT]; rw [if_neg hin]; rfl) hdb) (fun q hq hne => ?_)⟩
      try dsimp only
      congr 1
      exact decide_eq_decide.mpr (by omega)
  · intro H locs ls ⟨f, hl, hlo, hF, hf, hBT⟩
    refine lv_iload hx hb d_M_work_241 (lv_at hl 0 rfl) ?_
    refine lv_sipush (v := nI 256) hx hb d_M_work_243 (by decide) ?_
    refine lv_icmp_ge (tgt := 332) hx hb d_M_work_246 (by decide) (fun _ => ?_) (fun hc => absurd (nI_le (Nat.le_refl _) (by omega)) hc)
    have h_18 := hI_f h_18 hF (show o + 18 ≠ o + 20 by omega)
    have h_19 := hI_f h_19 hF (show o + 19 ≠ o + 20 by omega)
    have h_20 := hf
    have h_21 := hI_f h_21 hF (show o + 21 ≠ o + 20 by omega)
    have h_22 := hI_f h_22 hF (show o + 22 ≠ o + 20 by omega)
    have h_23 := hI_f h_23 hF (show o + 23 ≠ o + 20 by omega)
    have h_24 := hI_f h_24 hF (show o + 24 ≠ o + 20 by omega)
    have h_X := hI_f h_X hF (show x ≠ o + 20 by omega)
    have h_Y := hI_f h_Y hF (show y ≠ o + 20 by omega)
    have hO := hO.f1 hF (by omega)
    have hG := MS1 hG hF (by omega)
    refine lv_goto (tgt := 468) hx hb d_M_work_332 (by decide) ?_
    exact W.vret hx hb hr (fun t ht hW => ⟨rfl, by rw [ht]; exact hG, by rw [ht]; exact ⟨⟨_, h_18⟩, ⟨_, h_19⟩, ⟨_, h_20⟩, ⟨_, h_21, hN21⟩, ⟨_, h_22⟩, ⟨_, h_23⟩, ⟨_, h_24⟩⟩, _, by rw [ht]; exact h_20, BT_NI hBT (fun q hq => by
      show (vy / 2 ^ min vx 256).testBit q = _
      try dsimp only
      rw [← hmn, tb_div, decide_eq_true hq, Bool.true_and, hT]
      by_cases h9 : n + q < 256
      · rw [if_pos h9, show mn = n by omega]
      · rw [if_neg h9]
        exact Nat.testBit_lt_two_pow (Nat.lt_of_lt_of_le hvy (pw_le (by omega))))⟩) hlo d_M_work_468
  · refine ⟨f4, hl, hlo, XF.rf, h_20, fun j hj => ?_⟩
    obtain ⟨d, h1, h2, h3⟩ := BT_0 hN4 j hj
    exact ⟨d, h1, h2, fun t ht => by
      rw [h3 t ht]
      try dsimp only
      rw [decide_eq_false (by omega)]
      rfl⟩
set_option maxHeartbeats 4000000 in
set_option maxRecDepth 100000 in
theorem m_work_11 (l : Launch) (D : va_G) (cJ cI cQ cR : ClassId) (o x y vx vy : Nat) (fl : Int32) (fx fy : Nat → Int32) (hxr : o + 2 ≤ x ∧ x < o + 18) (hyr : o + 2 ≤ y ∧ y < o + 18) (hvx : vx < 2 ^ 256) (hvy : vy < 2 ^ 256) (hNx : NI fx 8 vx) (hNy : NI fy 8 vy) : Met l y_M_work w_M_work { frames := 3, cells := 0, slots := 0, locals := 77 } (xP D vwCl (TY cJ cI cQ cR) [.ref o, .int (nI 11), .ref x, .ref y] (fun H => MB D cR o fl H ∧ SM cI o H ∧ hI H cI x 8 fx ∧ hI H cI y 8 fy)) (xQv (fun H0 H => XF (MS o) H0 H ∧ SM cI o H ∧ ∃ f : Nat → Int32, hI H cI (o + 20) 8 f ∧ NI f 8 (opv 11 vx vy))) 0 0 (MS o) := by
  refine Met.ofW (cc := b_M_work) (maxL := 12) (ret := none) (by decide) rfl ?_
  intro p e s m args below meth c s₁ B hml hv
  obtain ⟨rfl, hK, ⟨hO, hSM, h_X, h_Y⟩⟩ := hv
  have hx := B.exec
  have hb := B.bytes
  have hr := B.returns
  have hts := atoms_spec (ws := w_M_work) B.pre
  have htw : ∀ w ∈ WT, w.before _ s = true := fun w h => hts w (List.mem_cons_of_mem _ h)
  have hown : s.vm.findClass "WideNumbersModel" = some m.cls := findClass_of_methodNamed B.named
  have hlocks := B.notSynchronized
  have hJ : ArrOfT s cJ .long := (hK.2 0 _ rfl).1
  have hI9 : ArrOfT s cI .int := (hK.2 1 _ rfl).1
  have hl := lv_entry ([.ref o, .int (nI 11), .ref x, .ref y]) (n := 12) (Nat.le_of_ble_eq_true rfl)
  rw [lg_entry_eq]
  generalize (lg_sl ([.ref o, .int (nI 11), .ref x, .ref y]) ++ List.replicate (12 - (lg_sl ([.ref o, .int (nI 11), .ref x, .ref y])).length) Slot.unset).toArray = ls at hl ⊢
  have hl : lv_has ls 12 [(0, .ref o), (1, .int (nI 11)), (2, .ref x), (3, .ref y)] := hl
  obtain ⟨⟨f18, h_18⟩, ⟨f19, h_19⟩, ⟨f20, h_20⟩, ⟨f21, h_21, hN21⟩, ⟨f22, h_22⟩, ⟨f23, h_23⟩, ⟨f24, h_24⟩⟩ := hSM
  have hG : XF (MS o) s.heap s.heap := XF.rf
  have hlo : ∀ q ∈ ([] : List Loc), MS o q.base := fun _ h => nomatch h
  refine lv_iload_n hx hb d_M_work_0 rfl (lv_at hl 1 rfl) ?_
  refine lv_iconst (v := nI 2) hx hb d_M_work_1 (by decide) ?_
  refine lv_icmp_le (tgt := 22) hx hb d_M_work_2 (by decide) (fun h => absurd h (by decide)) (fun _ => ?_)
  refine lv_iload_n hx hb d_M_work_5 rfl (lv_at hl 1 rfl) ?_
  refine lv_bipush (v := nI 7) hx hb d_M_work_6 (by decide) ?_
  refine lv_icmp_ge (tgt := 22) hx hb d_M_work_8 (by decide) (fun _ => ?_) (fun h => absurd (by decide) h)
  refine lv_iconst (v := nI 0) hx hb d_M_work_22 (by decide) ?_
  refine lv_istore hx hb d_M_work_23 hl (by decide) rfl (fun ls hl => ?_)
  have hl : lv_has ls 12 [(4, .int (nI 0)), (0, .ref o), (1, .int (nI 11)), (2, .ref x), (3, .ref y)] := hl
  refine lv_iload hx hb d_M_work_25 (lv_at hl 0 rfl) ?_
  refine lv_if_eq (tgt := 40) hx hb d_M_work_27 (by decide) (fun _ => ?_) (fun h => absurd (by decide) h)
  refine lv_iload_n hx hb d_M_work_40 rfl (lv_at hl 2 rfl) ?_
  refine lv_if_ne (tgt := 58) hx hb d_M_work_41 (by decide) (fun _ => ?_) (fun h => absurd h (by decide))
  refine lv_iload_n hx hb d_M_work_58 rfl (lv_at hl 2 rfl) ?_
  refine lv_iconst (v := nI 1) hx hb d_M_work_59 (by decide) ?_
  refine lv_icmp_ne (tgt := 75) hx hb d_M_work_60 (by decide) (fun _ => ?_) (fun h => absurd h (by decide))
  refine lv_iload_n hx hb d_M_work_75 rfl (lv_at hl 2 rfl) ?_
  refine lv_iconst (v := nI 2) hx hb d_M_work_76 (by decide) ?_
  refine lv_icmp_ne (tgt := 100) hx hb d_M_work_77 (by decide) (fun _ => ?_) (fun h => absurd h (by decide))
  refine lv_iload_n hx hb d_M_work_100 rfl (lv_at hl 2 rfl) ?_
  refine lv_iconst (v := nI 5) hx hb d_M_work_101 (by decide) ?_
  refine lv_icmp_ge (tgt := 137) hx hb d_M_work_102 (by decide) (fun _ => ?_) (fun h => absurd (by decide) h)
  refine lv_iload_n hx hb d_M_work_137 rfl (lv_at hl 2 rfl) ?_
  refine lv_bipush (v := nI 7) hx hb d_M_work_138 (by decide) ?_
  refine lv_icmp_ge (tgt := 167) hx hb d_M_work_140 (by decide) (fun _ => ?_) (fun h => absurd (by decide) h)
  refine lv_iload_n hx hb d_M_work_167 rfl (lv_at hl 2 rfl) ?_
  refine lv_bipush (v := nI 7) hx hb d_M_work_168 (by decide) ?_
  refine lv_icmp_ne (tgt := 182) hx hb d_M_work_170 (by decide) (fun _ => ?_) (fun h => absurd h (by decide))
  refine lv_iload_n hx hb d_M_work_182 rfl (lv_at hl 2 rfl) ?_
  refine lv_bipush (v := nI 8) hx hb d_M_work_183 (by decide) ?_
  refine lv_icmp_ne (tgt := 197) hx hb d_M_work_185 (by decide) (fun _ => ?_) (fun h => absurd h (by decide))
  refine lv_iload_n hx hb d_M_work_197 rfl (lv_at hl 2 rfl) ?_
  refine lv_bipush (v := nI 12) hx hb d_M_work_198 (by decide) ?_
  refine lv_icmp_ge (tgt := 335) hx hb d_M_work_200 (by decide) (fun h => absurd h (by decide)) (fun _ => ?_)
  refine lv_aload_n hx hb d_M_work_203 rfl (lv_at hl 3 rfl) ?_
  refine lv_ldc2 (v := (256 : Int64)) hx hb hown (htw _ kw_398) d_M_work_204 ?_
  refine x_topl (v := lN 256) (rfl) ?_
  refine x_calll (A := MS o) (va_runS (As := [.ref x, .long (lN 256)]) (rest := []) ⟨hx, hb, hml, hown, htw⟩ (m_small l D cJ cI cQ cR x vx 256 fx hvx (by decide) hNx) (xcS 2 htw kw_396 kw_2 kw_394 kw_395 rfl rfl ⟨by decide, by decide, by decide +kernel⟩ ⟨Nat.le_of_ble_eq_true rfl, Nat.le_of_ble_eq_true rfl⟩) (xPre hK h_X) rfl rfl hl.1 rfl (lv_room (Nat.le_of_ble_eq_true rfl)) d_M_work_207 ⟨Nat.le_of_ble_eq_true rfl, Nat.le_of_ble_eq_true rfl⟩) hlo (fun _ h => h.elim) (fun r2 H2 locs2 hB2 hlo => ?_)
  obtain ⟨rfl, rfl⟩ := hB2
  obtain ⟨n, hn⟩ : ∃ n, n = (if vx ≤ 256 then vx else 256 + 1) := ⟨_, rfl⟩
  rw [← hn]
  have hnc : n = vx ∧ vx ≤ 256 ∨ n = 257 ∧ 256 < vx := by
    by_cases h : vx ≤ 256
    · rw [if_pos h] at hn
      exact Or.inl ⟨hn, h⟩
    · rw [if_neg h] at hn
      exact Or.inr ⟨hn, by omega⟩
  have hn257 : n ≤ 257 := by omega
  obtain ⟨mn, hmn⟩ : ∃ mn, mn = min vx 256 := ⟨_, rfl⟩
  have hmn2 : mn = n ∧ n ≤ 256 ∨ mn = 256 ∧ n = 257 := by omega
  refine lv_lstore hx hb d_M_work_210 hl (by decide) rfl (fun ls hl => ?_)
  have hl : lv_has ls 12 [(5, .long (lN n)), (4, .int (nI 0)), (0, .ref o), (1, .int (nI 11)), (2, .ref x), (3, .ref y)] := hl
  refine lv_iload_n hx hb d_M_work_212 rfl (lv_at hl 3 rfl) ?_
  refine lv_bipush (v := nI 11) hx hb d_M_work_213 (by decide) ?_
  refine lv_icmp_ne (tgt := 228) hx hb d_M_work_215 (by decide) (fun h => absurd (by decide) h) (fun _ => ?_)
  refine lv_aload_n hx hb d_M_work_218 rfl (lv_at hl 5 rfl) ?_
  refine lv_sipush (v := nI 255) hx hb d_M_work_219 (by decide) ?_
  refine x_calli (A := MS o) (va_runS (As := [.ref y, .int (nI 255)]) (rest := []) ⟨hx, hb, hml, hown, htw⟩ (m_bit l D cJ cI cQ cR y 8 255 vy fy (by decide) (by decide) hNy) (xcS 2 htw kw_388 kw_2 kw_386 kw_387 rfl rfl ⟨by decide, by decide, by decide +kernel⟩ ⟨Nat.le_of_ble_eq_true rfl, Nat.le_of_ble_eq_true rfl⟩) (xPre hK h_Y) rfl rfl hl.1 rfl (lv_room (Nat.le_of_ble_eq_true rfl)) d_M_work_222 ⟨Nat.le_of_ble_eq_true rfl, Nat.le_of_ble_eq_true rfl⟩) hlo (fun _ h => h.elim) (fun r3 H3 locs3 hB3 hlo => ?_)
  obtain ⟨rfl, rfl⟩ := hB3
  obtain ⟨sg, hsg⟩ : ∃ sg, sg = vy / 2 ^ 255 % 2 := ⟨_, rfl⟩
  rw [← hsg]
  have hsg1 : sg ≤ 1 := by omega
  have hsgb : decide (sg = 1) = vy.testBit 255 := by rw [hsg, tb_1]
  refine lv_goto (tgt := 229) hx hb d_M_work_225 (by decide) ?_
  refine lv_istore hx hb d_M_work_229 hl (by decide) rfl (fun ls hl => ?_)
  have hl : lv_has ls 12 [(7, .int (nI sg)), (5, .long (lN n)), (4, .int (nI 0)), (0, .ref o), (1, .int (nI 11)), (2, .ref x), (3, .ref y)] := hl
  refine lv_aload_n hx hb d_M_work_231 rfl (lv_at hl 3 rfl) ?_
  refine va_get (D := D) (ci := 1) (v := .ref (o + 20)) (C := "WideNumbersModel") (T := F_M) (N := 9) hx hb htw inM hown hK hO.1 0 rfl rfl 4 (by decide) (htw _ kw_280) (fun _ h9 => h9) rfl d_M_work_232 ?_
  refine x_callv (A := MS o) (va_runS (As := [.ref (o + 20)]) (rest := []) ⟨hx, hb, hml, hown, htw⟩ (m_clear l D cJ cI cQ cR (o + 20) f20) (xcS 1 htw kw_342 kw_2 kw_340 kw_341 rfl rfl ⟨by decide, by decide, by decide +kernel⟩ ⟨Nat.le_of_ble_eq_true rfl, Nat.le_of_ble_eq_true rfl⟩) (xPre hK h_20) rfl rfl hl.1 rfl (lv_room (Nat.le_of_ble_eq_true rfl)) d_M_work_235 ⟨Nat.le_of_ble_eq_true rfl, Nat.le_of_ble_eq_true rfl⟩) hlo (fun q h => by have h : q = o + 20 := h; rw [h]; exact ⟨by omega, by omega⟩) (fun H4 locs4 hB4 hlo => ?_)
  obtain ⟨hF4, f4, hf4, hN4⟩ := hB4
  have h_18 := hI_f h_18 hF4 (show o + 18 ≠ o + 20 by omega)
  have h_19 := hI_f h_19 hF4 (show o + 19 ≠ o + 20 by omega)
  have h_20 := hf4
  have h_21 := hI_f h_21 hF4 (show o + 21 ≠ o + 20 by omega)
  have h_22 := hI_f h_22 hF4 (show o + 22 ≠ o + 20 by omega)
  have h_23 := hI_f h_23 hF4 (show o + 23 ≠ o + 20 by omega)
  have h_24 := hI_f h_24 hF4 (show o + 24 ≠ o + 20 by omega)
  have h_X := hI_f h_X hF4 (show x ≠ o + 20 by omega)
  have h_Y := hI_f h_Y hF4 (show y ≠ o + 20 by omega)
  have hO := hO.f1 hF4 (by omega)
  have hG := MS1 hG hF4 (by omega)
  refine lv_iconst (v := nI 0) hx hb d_M_work_238 (by decide) ?_
  refine lv_istore hx hb d_M_work_239 hl (by decide) rfl (fun ls hl => ?_)
  have hl : lv_has ls 12 [(8, .int (nI 0)), (7, .int (nI sg)), (5, .long (lN n)), (4, .int (nI 0)), (0, .ref o), (1, .int (nI 11)), (2, .ref x), (3, .ref y)] := hl
  have hl : lv_has ls 12 [(8, .int (nI 0)), (7, .int (nI sg)), (5, .long (lN n)), (1, .int (nI 11)), (0, .ref o), (3, .ref y)] := lv_sub hl [0, 1, 2, 5, 4, 7] rfl
  obtain ⟨T, hT⟩ : ∃ T : Nat → Bool, ∀ q, T q = (if n + q < 256 then vy.testBit (n + q) else vy.testBit 255) := ⟨fun q => if n + q < 256 then vy.testBit (n + q) else vy.testBit 255, fun _ => rfl⟩
  refine x_loop 241 (fun i H locs ls => ∃ f : Nat → Int32, lv_has ls 12 [(8, .int (nI i)), (7, .int (nI sg)), (5, .long (lN n)), (1, .int (nI 11)), (0, .ref o), (3, .ref y)] ∧ (∀ q ∈ locs, MS o q.base) ∧ XF (fun q => q = o + 20) H4 H ∧ hI H cI (o + 20) 8 f ∧ BT f (fun q => decide (q < i) && T q)) 256 ?_ ?_ 0 _ _ _ (by omega) ?_
  · intro i H locs ls hi ⟨f, hl, hlo, hF, hf, hBT⟩ ih
    refine lv_iload hx hb d_M_work_241 (lv_at hl 0 rfl) ?_
    refine lv_sipush (v := nI 256) hx hb d_M_work_243 (by decide) ?_
    refine lv_icmp_ge (tgt := 332) hx hb d_M_work_246 (by decide) (fun hc => absurd hc (nI_ge (by omega) (by omega))) (fun _ => ?_)
    have hO := hO.f1 hF (by omega)
    have h_Y := hI_f h_Y hF (show y ≠ o + 20 by omega)
    obtain ⟨d, hd, hfd, hdb⟩ := hBT (i / 32) (by omega)
    refine lv_iload_n hx hb d_M_work_249 rfl (lv_at hl 3 rfl) ?_
    refine lv_bipush (v := nI 9) hx hb d_M_work_250 (by decide) ?_
    refine lv_icmp_ne (tgt := 264) hx hb d_M_work_252 (by decide) (fun _ => ?_) (fun h => absurd h (by decide))
    refine lv_iload hx hb d_M_work_264 (lv_at hl 0 rfl) ?_
    refine lv_i2l (v := lN i) hx hb d_M_work_266 (il_s (by omega)) ?_
    refine lv_lload hx hb d_M_work_267 (lv_at hl 2 rfl) ?_
    refine lv_ladd hx hb d_M_work_269 ?_
    refine x_topl (v := lN (i + n)) (lN_add _ _) ?_
    refine lv_lstore hx hb d_M_work_270 hl (by decide) rfl (fun ls hl => ?_)
    have hl : lv_has ls 12 [(9, .long (lN (i + n))), (8, .int (nI i)), (7, .int (nI sg)), (5, .long (lN n)), (1, .int (nI 11)), (0, .ref o), (3, .ref y)] := hl
    refine lv_lload hx hb d_M_work_272 (lv_at hl 0 rfl) ?_
    refine lv_lconst (v := lN 0) hx hb d_M_work_274 (by decide) ?_
    refine W.lcmp hx hb d_M_work_275 ?_
    refine lv_if_ge (tgt := 283) hx hb d_M_work_276 (by decide) (fun _ => ?_) (fun hc => absurd ((lg_cmp_ge _ _).mpr ((Int64.not_lt.mp (fun z => absurd ((jN_lt (by omega) (by decide)).mp z) (by omega))))) hc)
    refine lv_lload hx hb d_M_work_283 (lv_at hl 0 rfl) ?_
    refine lv_ldc2 (v := (255 : Int64)) hx hb hown (htw _ kw_399) d_M_work_285 ?_
    refine x_topl (v := lN 255) (rfl) ?_
    refine W.lcmp hx hb d_M_work_288 ?_
    refine lv_if_le (tgt := 297) hx hb d_M_work_289 (by decide) (fun hc => ?_) (fun hc => ?_)
    · have hin : n + i < 256 := Nat.lt_of_not_le (fun h => absurd ((lg_cmp_le _ _).mp hc) (Int64.not_le.mpr ((jN_lt (by decide) (by omega)).mpr (by omega))))
      refine lv_aload_n hx hb d_M_work_297 rfl (lv_at hl 6 rfl) ?_
      refine lv_lload hx hb d_M_work_298 (lv_at hl 0 rfl) ?_
      refine lv_l2i (v := nI (i + n)) hx hb d_M_work_300 (lN_i _) ?_
      refine x_calli (A := MS o) (va_runS (As := [.ref y, .int (nI (i + n))]) (rest := []) ⟨hx, hb, hml, hown, htw⟩ (m_bit l D cJ cI cQ cR y 8 (i + n) vy fy (by decide) (by omega) hNy) (xcS 2 htw kw_388 kw_2 kw_386 kw_387 rfl rfl ⟨by decide, by decide, by decide +kernel⟩ ⟨Nat.le_of_ble_eq_true rfl, Nat.le_of_ble_eq_true rfl⟩) (xPre hK h_Y) rfl rfl hl.1 rfl (lv_room (Nat.le_of_ble_eq_true rfl)) d_M_work_301 ⟨Nat.le_of_ble_eq_true rfl, Nat.le_of_ble_eq_true rfl⟩) hlo (fun _ h => h.elim) (fun r6 H6 locs6 hB6 hlo => ?_)
      obtain ⟨rfl, rfl⟩ := hB6
      obtain ⟨bb, hbb⟩ : ∃ bb, bb = vy / 2 ^ (i + n) % 2 := ⟨_, rfl⟩
      rw [← hbb]
      have hb1 : bb ≤ 1 := by omega
      refine lv_istore hx hb d_M_work_304 hl (by decide) rfl (fun ls hl => ?_)
      have hl : lv_has ls 12 [(11, .int (nI bb)), (9, .long (lN (i + n))), (8, .int (nI i)), (7, .int (nI sg)), (5, .long (lN n)), (1, .int (nI 11)), (0, .ref o), (3, .ref y)] := hl
      refine lv_aload_n hx hb d_M_work_306 rfl (lv_at hl 6 rfl) ?_
      refine va_get (D := D) (ci := 1) (v := .ref (o + 20)) (C := "WideNumbersModel") (T := F_M) (N := 9) hx hb htw inM hown hK hO.1 0 rfl rfl 4 (by decide) (htw _ kw_280) (fun _ h9 => h9) rfl d_M_work_307 ?_
      refine lv_iload hx hb d_M_work_310 (lv_at hl 2 rfl) ?_
      refine lv_iconst (v := nI 5) hx hb d_M_work_312 (by decide) ?_
      refine lv_ishr hx hb d_M_work_313 ?_
      refine x_topi (v := nI (i / 32)) (iN_shr5 (by omega)) ?_
      refine lv_dup2_11 hx hb d_M_work_314 rfl rfl ?_
      refine x_iald hx hb hI9 hf (i / 32) (rfl) (by omega) (by omega) (v := nI d) (hfd) d_M_work_315 ?_
      refine lv_iload hx hb d_M_work_316 (lv_at hl 0 rfl) ?_
      refine lv_iload hx hb d_M_work_318 (lv_at hl 2 rfl) ?_
      refine lv_bipush (v := nI 31) hx hb d_M_work_320 (by decide) ?_
      refine lv_iand hx hb d_M_work_322 ?_
      refine x_topi (v := nI (i % 32)) (iN_and31 (by omega)) ?_
      refine lv_ishl hx hb d_M_work_323 ?_
      refine x_topi (v := nI (bb * 2 ^ (i % 32))) (iN_shl _ (by omega)) ?_
      refine lv_ior hx hb d_M_work_324 ?_
      refine x_topi (v := nI (d ||| bb * 2 ^ (i % 32))) (iN_or _ _) ?_
      refine x_iast (A := MS o) hx hb hI9 hf hlo (⟨by omega, by omega⟩) (i / 32) (rfl) (by omega) (by omega) d_M_work_325 (fun H5 locs5 h5 hF5 hlo5 => ?_)
      refine lv_iinc (v := nI (i + 1)) (k := 2) hx hb d_M_work_326 hl rfl (nI_1 i) (by decide) rfl (fun ls hl => ?_)
      have hl : lv_has ls 12 [(8, .int (nI (i + 1))), (11, .int (nI bb)), (9, .long (lN (i + n))), (7, .int (nI sg)), (5, .long (lN n)), (1, .int (nI 11)), (0, .ref o), (3, .ref y)] := hl
      refine lv_goto (tgt := 241) hx hb d_M_work_329 (by decide) ?_
      have hl : lv_has ls 12 [(8, .int (nI (i + 1))), (7, .int (nI sg)), (5, .long (lN n)), (1, .int (nI 11)), (0, .ref o), (3, .ref y)] := lv_sub hl [0, 3, 4, 5, 6, 7] rfl
      have hm := Nat.mod_lt i (show 0 < 32 by decide)
      refine ih _ locs5 ls ⟨_, hl, hlo5, hF.tr hF5 (fun _ h => h), h5, BT_put hBT (or_lt32 hd (b_lt32 (hb1) hm)) (or_step (hb1) (by rw [hT]; rw [if_pos hin, hbb, tb_1, Nat.add_comm]) hdb) (fun q hq hne => ?_)⟩
      try dsimp only
      congr 1
      exact decide_eq_decide.mpr (by omega)
    · have hin : ¬ n + i < 256 := fun h => hc ((lg_cmp_le _ _).mpr (Int64.not_lt.mp (fun z => absurd ((jN_lt (by decide) (by omega)).mp z) (by omega))))
      refine lv_iload hx hb d_M_work_292 (lv_at hl 2 rfl) ?_
      refine lv_goto (tgt := 304) hx hb d_M_work_294 (by decide) ?_
      refine lv_istore hx hb d_M_work_304 hl (by decide) rfl (fun ls hl => ?_)
      have hl : lv_has ls 12 [(11, .int (nI sg)), (9, .long (lN (i + n))), (8, .int (nI i)), (7, .int (nI sg)), (5, .long (lN n)), (1, .int (nI 11)), (0, .ref o), (3, .ref y)] := hl
      refine lv_aload_n hx hb d_M_work_306 rfl (lv_at hl 6 rfl) ?_
      refine va_get (D := D) (ci := 1) (v := .ref (o + 20)) (C := "WideNumbersModel") (T := F_M) (N := 9) hx hb htw inM hown hK hO.1 0 rfl rfl 4 (by decide) (htw _ kw_280) (fun _ h9 => h9) rfl d_M_work_307 ?_
      refine lv_iload hx hb d_M_work_310 (lv_at hl 2 rfl) ?_
      refine lv_iconst (v := nI 5) hx hb d_M_work_312 (by decide) ?_
      refine lv_ishr hx hb d_M_work_313 ?_
      refine x_topi (v := nI (i / 32)) (iN_shr5 (by omega)) ?_
      refine lv_dup2_11 hx hb d_M_work_314 rfl rfl ?_
      refine x_iald hx hb hI9 hf (i / 32) (rfl) (by omega) (by omega) (v := nI d) (hfd) d_M_work_315 ?_
      refine lv_iload hx hb d_M_work_316 (lv_at hl 0 rfl) ?_
      refine lv_iload hx hb d_M_work_318 (lv_at hl 2 rfl) ?_
      refine lv_bipush (v := nI 31) hx hb d_M_work_320 (by decide) ?_
      refine lv_iand hx hb d_M_work_322 ?_
      refine x_topi (v := nI (i % 32)) (iN_and31 (by omega)) ?_
      refine lv_ishl hx hb d_M_work_323 ?_
      refine x_topi (v := nI (sg * 2 ^ (i % 32))) (iN_shl _ (by omega)) ?_
      refine lv_ior hx hb d_M_work_324 ?_
      refine x_topi (v := nI (d ||| sg * 2 ^ (i % 32))) (iN_or _ _) ?_
      refine x_iast (A := MS o) hx hb hI9 hf hlo (⟨by omega, by omega⟩) (i / 32) (rfl) (by omega) (by omega) d_M_work_325 (fun H5 locs5 h5 hF5 hlo5 => ?_)
      refine lv_iinc (v := nI (i + 1)) (k := 2) hx hb d_M_work_326 hl rfl (nI_1 i) (by decide) rfl (fun ls hl => ?_)
      have hl : lv_has ls 12 [(8, .int (nI (i + 1))), (11, .int (nI sg)), (9, .long (lN (i + n))), (7, .int (nI sg)), (5, .long (lN n)), (1, .int (nI 11)), (0, .ref o), (3, .ref y)] := hl
      refine lv_goto (tgt := 241) hx hb d_M_work_329 (by decide) ?_
      have hl : lv_has ls 12 [(8, .int (nI (i + 1))), (7, .int (nI sg)), (5, .long (lN n)), (1, .int (nI 11)), (0, .ref o), (3, .ref y)] := lv_sub hl [0, 3, 4, 5, 6, 7] rfl
      have hm := Nat.mod_lt i (show 0 < 32 by decide)
      refine ih _ locs5 ls ⟨_, hl, hlo5, hF.tr hF5 (fun _ h => h), h5, BT_put hBT (or_lt32 hd (b_lt32 (hsg1) hm)) (or_step (hsg1) (by rw [hT]; rw [if_neg hin]; exact hsgb) hdb) (fun q hq hne => ?_)⟩
      try dsimp only
      congr 1
      exact decide_eq_decide.mpr (by omega)
  · intro H locs ls ⟨f, hl, hlo, hF, hf, hBT⟩
    refine lv_iload hx hb d_M_work_241 (lv_at hl 0 rfl) ?_
    refine lv_sipush (v := nI 256) hx hb d_M_work_243 (by decide) ?_
    refine lv_icmp_ge (tgt := 332) hx hb d_M_work_246 (by decide) (fun _ => ?_) (fun hc => absurd (nI_le (Nat.le_refl _) (by omega)) hc)
    have h_18 := hI_f h_18 hF (show o + 18 ≠ o + 20 by omega)
    have h_19 := hI_f h_19 hF (show o + 19 ≠ o + 20 by omega)
    have h_20 := hf
    have h_21 := hI_f h_21 hF (show o + 21 ≠ o + 20 by omega)
    have h_22 := hI_f h_22 hF (show o + 22 ≠ o + 20 by omega)
    have h_23 := hI_f h_23 hF (show o + 23 ≠ o + 20 by omega)
    have h_24 := hI_f h_24 hF (show o + 24 ≠ o + 20 by omega)
    have h_X := hI_f h_X hF (show x ≠ o + 20 by omega)
    have h_Y := hI_f h_Y hF (show y ≠ o + 20 by omega)
    have hO := hO.f1 hF (by omega)
    have hG := MS1 hG hF (by omega)
    refine lv_goto (tgt := 468) hx hb d_M_work_332 (by decide) ?_
    exact W.vret hx hb hr (fun t ht hW => ⟨rfl, by rw [ht]; exact hG, by rw [ht]; exact ⟨⟨_, h_18⟩, ⟨_, h_19⟩, ⟨_, h_20⟩, ⟨_, h_21, hN21⟩, ⟨_, h_22⟩, ⟨_, h_23⟩, ⟨_, h_24⟩⟩, _, by rw [ht]; exact h_20, BT_NI hBT (fun q hq => by
      show (sx vy / 2 ^ min vx 256 % 2 ^ 256).testBit q = _
      try dsimp only
      rw [← hmn, sar_tb hvy (by omega) hq, decide_eq_true hq, Bool.true_and, hT]
      by_cases h9 : n + q < 256
      · rw [if_pos h9, show mn = n by omega, if_pos h9]
      · rw [if_neg h9, if_neg (by omega)])⟩) hlo d_M_work_468
  · refine ⟨f4, hl, hlo, XF.rf, h_20, fun j hj => ?_⟩
    obtain ⟨d, h1, h2, h3⟩ := BT_0 hN4 j hj
    exact ⟨d, h1, h2, fun t ht => by
      rw [h3 t ht]
      try dsimp only
      rw [decide_eq_false (by omega)]
      rfl⟩
set_option maxHeartbeats 4000000 in
set_option maxRecDepth 100000 in
theorem m_work_12 (l : Launch) (D : va_G) (cJ cI cQ cR : ClassId) (o x y vx vy : Nat) (fl : Int32) (fx fy : Nat → Int32) (hxr : o + 2 ≤ x ∧ x < o + 18) (hyr : o + 2 ≤ y ∧ y < o + 18) (hvx : vx < 2 ^ 256) (hvy : vy < 2 ^ 256) (hNx : NI fx 8 vx) (hNy : NI fy 8 vy) : Met l y_M_work w_M_work { frames := 3, cells := 0, slots := 0, locals := 77 } (xP D vwCl (TY cJ cI cQ cR) [.ref o, .int (nI 12), .ref x, .ref y] (fun H => MB D cR o fl H ∧ SM cI o H ∧ hI H cI x 8 fx ∧ hI H cI y 8 fy)) (xQv (fun H0 H => XF (MS o) H0 H ∧ SM cI o H ∧ ∃ f : Nat → Int32, hI H cI (o + 20) 8 f ∧ NI f 8 (opv 12 vx vy))) 0 0 (MS o) := by
  refine Met.ofW (cc := b_M_work) (maxL := 12) (ret := none) (by decide) rfl ?_
  intro p e s m args below meth c s₁ B hml hv
  obtain ⟨rfl, hK, ⟨hO, hSM, h_X, h_Y⟩⟩ := hv
  have hx := B.exec
  have hb := B.bytes
  have hr := B.returns
  have hts := atoms_spec (ws := w_M_work) B.pre
  have htw : ∀ w ∈ WT, w.before _ s = true := fun w h => hts w (List.mem_cons_of_mem _ h)
  have hown : s.vm.findClass "WideNumbersModel" = some m.cls := findClass_of_methodNamed B.named
  have hlocks := B.notSynchronized
  have hJ : ArrOfT s cJ .long := (hK.2 0 _ rfl).1
  have hI9 : ArrOfT s cI .int := (hK.2 1 _ rfl).1
  have hl := lv_entry ([.ref o, .int (nI 12), .ref x, .ref y]) (n := 12) (Nat.le_of_ble_eq_true rfl)
  rw [lg_entry_eq]
  generalize (lg_sl ([.ref o, .int (nI 12), .ref x, .ref y]) ++ List.replicate (12 - (lg_sl ([.ref o, .int (nI 12), .ref x, .ref y])).length) Slot.unset).toArray = ls at hl ⊢
  have hl : lv_has ls 12 [(0, .ref o), (1, .int (nI 12)), (2, .ref x), (3, .ref y)] := hl
  obtain ⟨⟨f18, h_18⟩, ⟨f19, h_19⟩, ⟨f20, h_20⟩, ⟨f21, h_21, hN21⟩, ⟨f22, h_22⟩, ⟨f23, h_23⟩, ⟨f24, h_24⟩⟩ := hSM
  have hG : XF (MS o) s.heap s.heap := XF.rf
  have hlo : ∀ q ∈ ([] : List Loc), MS o q.base := fun _ h => nomatch h
  refine lv_iload_n hx hb d_M_work_0 rfl (lv_at hl 1 rfl) ?_
  refine lv_iconst (v := nI 2) hx hb d_M_work_1 (by decide) ?_
  refine lv_icmp_le (tgt := 22) hx hb d_M_work_2 (by decide) (fun h => absurd h (by decide)) (fun _ => ?_)
  refine lv_iload_n hx hb d_M_work_5 rfl (lv_at hl 1 rfl) ?_
  refine lv_bipush (v := nI 7) hx hb d_M_work_6 (by decide) ?_
  refine lv_icmp_ge (tgt := 22) hx hb d_M_work_8 (by decide) (fun _ => ?_) (fun h => absurd (by decide) h)
  refine lv_iconst (v := nI 0) hx hb d_M_work_22 (by decide) ?_
  refine lv_istore hx hb d_M_work_23 hl (by decide) rfl (fun ls hl => ?_)
  have hl : lv_has ls 12 [(4, .int (nI 0)), (0, .ref o), (1, .int (nI 12)), (2, .ref x), (3, .ref y)] := hl
  refine lv_iload hx hb d_M_work_25 (lv_at hl 0 rfl) ?_
  refine lv_if_eq (tgt := 40) hx hb d_M_work_27 (by decide) (fun _ => ?_) (fun h => absurd (by decide) h)
  refine lv_iload_n hx hb d_M_work_40 rfl (lv_at hl 2 rfl) ?_
  refine lv_if_ne (tgt := 58) hx hb d_M_work_41 (by decide) (fun _ => ?_) (fun h => absurd h (by decide))
  refine lv_iload_n hx hb d_M_work_58 rfl (lv_at hl 2 rfl) ?_
  refine lv_iconst (v := nI 1) hx hb d_M_work_59 (by decide) ?_
  refine lv_icmp_ne (tgt := 75) hx hb d_M_work_60 (by decide) (fun _ => ?_) (fun h => absurd h (by decide))
  refine lv_iload_n hx hb d_M_work_75 rfl (lv_at hl 2 rfl) ?_
  refine lv_iconst (v := nI 2) hx hb d_M_work_76 (by decide) ?_
  refine lv_icmp_ne (tgt := 100) hx hb d_M_work_77 (by decide) (fun _ => ?_) (fun h => absurd h (by decide))
  refine lv_iload_n hx hb d_M_work_100 rfl (lv_at hl 2 rfl) ?_
  refine lv_iconst (v := nI 5) hx hb d_M_work_101 (by decide) ?_
  refine lv_icmp_ge (tgt := 137) hx hb d_M_work_102 (by decide) (fun _ => ?_) (fun h => absurd (by decide) h)
  refine lv_iload_n hx hb d_M_work_137 rfl (lv_at hl 2 rfl) ?_
  refine lv_bipush (v := nI 7) hx hb d_M_work_138 (by decide) ?_
  refine lv_icmp_ge (tgt := 167) hx hb d_M_work_140 (by decide) (fun _ => ?_) (fun h => absurd (by decide) h)
  refine lv_iload_n hx hb d_M_work_167 rfl (lv_at hl 2 rfl) ?_
  refine lv_bipush (v := nI 7) hx hb d_M_work_168 (by decide) ?_
  refine lv_icmp_ne (tgt := 182) hx hb d_M_work_170 (by decide) (fun _ => ?_) (fun h => absurd h (by decide))
  refine lv_iload_n hx hb d_M_work_182 rfl (lv_at hl 2 rfl) ?_
  refine lv_bipush (v := nI 8) hx hb d_M_work_183 (by decide) ?_
  refine lv_icmp_ne (tgt := 197) hx hb d_M_work_185 (by decide) (fun _ => ?_) (fun h => absurd h (by decide))
  refine lv_iload_n hx hb d_M_work_197 rfl (lv_at hl 2 rfl) ?_
  refine lv_bipush (v := nI 12) hx hb d_M_work_198 (by decide) ?_
  refine lv_icmp_ge (tgt := 335) hx hb d_M_work_200 (by decide) (fun _ => ?_) (fun h => absurd (by decide) h)
  refine lv_iload_n hx hb d_M_work_335 rfl (lv_at hl 2 rfl) ?_
  refine lv_bipush (v := nI 12) hx hb d_M_work_336 (by decide) ?_
  refine lv_icmp_ne (tgt := 400) hx hb d_M_work_338 (by decide) (fun h => absurd (by decide) h) (fun _ => ?_)
  refine lv_aload_n hx hb d_M_work_341 rfl (lv_at hl 3 rfl) ?_
  refine lv_ldc2 (v := (32 : Int64)) hx hb hown (htw _ kw_400) d_M_work_342 ?_
  refine x_topl (v := lN 32) (rfl) ?_
  refine x_calll (A := MS o) (va_runS (As := [.ref x, .long (lN 32)]) (rest := []) ⟨hx, hb, hml, hown, htw⟩ (m_small l D cJ cI cQ cR x vx 32 fx hvx (by decide) hNx) (xcS 2 htw kw_396 kw_2 kw_394 kw_395 rfl rfl ⟨by decide, by decide, by decide +kernel⟩ ⟨Nat.le_of_ble_eq_true rfl, Nat.le_of_ble_eq_true rfl⟩) (xPre hK h_X) rfl rfl hl.1 rfl (lv_room (Nat.le_of_ble_eq_true rfl)) d_M_work_345 ⟨Nat.le_of_ble_eq_true rfl, Nat.le_of_ble_eq_true rfl⟩) hlo (fun _ h => h.elim) (fun r2 H2 locs2 hB2 hlo => ?_)
  obtain ⟨rfl, rfl⟩ := hB2
  by_cases hle : vx ≤ 31
  · rw [if_pos (show vx ≤ 32 by omega)]
    refine lv_lstore hx hb d_M_work_348 hl (by decide) rfl (fun ls hl => ?_)
    have hl : lv_has ls 12 [(5, .long (lN vx)), (4, .int (nI 0)), (0, .ref o), (1, .int (nI 12)), (2, .ref x), (3, .ref y)] := hl
    refine lv_bipush (v := nI 31) hx hb d_M_work_350 (by decide) ?_
    refine lv_lload hx hb d_M_work_352 (lv_at hl 0 rfl) ?_
    refine lv_l2i (v := nI vx) hx hb d_M_work_354 (lN_i _) ?_
    refine lv_isub hx hb d_M_work_355 ?_
    refine x_topi (v := nI (31 - vx)) (i_sub31 _ (by omega)) ?_
    refine lv_istore hx hb d_M_work_356 hl (by decide) rfl (fun ls hl => ?_)
    have hl : lv_has ls 12 [(7, .int (nI (31 - vx))), (5, .long (lN vx)), (4, .int (nI 0)), (0, .ref o), (1, .int (nI 12)), (2, .ref x), (3, .ref y)] := hl
    refine lv_aload_n hx hb d_M_work_358 rfl (lv_at hl 3 rfl) ?_
    refine va_get (D := D) (ci := 1) (v := .ref (o + 20)) (C := "WideNumbersModel") (T := F_M) (N := 9) hx hb htw inM hown hK hO.1 0 rfl rfl 4 (by decide) (htw _ kw_280) (fun _ h9 => h9) rfl d_M_work_359 ?_
    refine lv_lload hx hb d_M_work_362 (lv_at hl 1 rfl) ?_
    refine lv_ldc2 (v := (31 : Int64)) hx hb hown (htw _ kw_393) d_M_work_364 ?_
    refine x_topl (v := lN 31) (rfl) ?_
    refine W.lcmp hx hb d_M_work_367 ?_
    refine lv_if_le (tgt := 375) hx hb d_M_work_368 (by decide) (fun _ => ?_) (fun hc => absurd ((lg_cmp_le _ _).mpr ((Int64.not_lt.mp (fun z => absurd ((jN_lt (by decide) (by omega)).mp z) (by omega))))) hc)
    refine lv_aload_n hx hb d_M_work_375 rfl (lv_at hl 6 rfl) ?_
    refine lv_iload hx hb d_M_work_376 (lv_at hl 0 rfl) ?_
    refine lv_iconst (v := nI 4) hx hb d_M_work_378 (by decide) ?_
    refine lv_idiv hx hb d_M_work_379 (by decide) ?_
    refine x_topi (v := nI ((31 - vx) / 4)) (i_div4 _ (by omega)) ?_
    refine x_iald hx hb hI9 h_Y ((31 - vx) / 4) (rfl) (by omega) (by omega) (v := nI (dg vy ((31 - vx) / 4))) (hNy _ (by omega)) d_M_work_380 ?_
    have hdl := dg_lt vy ((31 - vx) / 4)
    refine lv_bipush (v := nI 8) hx hb d_M_work_381 (by decide) ?_
    refine lv_iload hx hb d_M_work_383 (lv_at hl 0 rfl) ?_
    refine lv_iconst (v := nI 4) hx hb d_M_work_385 (by decide) ?_
    refine lv_irem hx hb d_M_work_386 (by decide) ?_
    refine x_topi (v := nI ((31 - vx) % 4)) (i_rem4 _ (by omega)) ?_
    refine lv_imul hx hb d_M_work_387 ?_
    refine x_topi (v := nI (8 * ((31 - vx) % 4))) (pk_mul _ _) ?_
    refine lv_iushr (v := nI (dg vy ((31 - vx) / 4) / 2 ^ (8 * ((31 - vx) % 4)))) hx hb d_M_work_388 (iN_ushr hdl (by omega)) ?_
    have hdv : dg vy ((31 - vx) / 4) / 2 ^ (8 * ((31 - vx) % 4)) < 4294967296 := Nat.lt_of_le_of_lt (Nat.div_le_self _ _) hdl
    refine lv_sipush (v := nI 255) hx hb d_M_work_389 (by decide) ?_
    refine lv_iand hx hb d_M_work_392 ?_
    refine x_topi (v := nI (dg vy ((31 - vx) / 4) / 2 ^ (8 * ((31 - vx) % 4)) % 256)) (iN_and255 hdv) ?_
    rw [op12 (show vx < 32 by omega)]
    have hol : opv 12 vx vy < 256 := by
      show (if vx < 32 then vy / 2 ^ (8 * (31 - vx)) % 256 else 0) < 256
      rw [if_pos (by omega)]
      exact Nat.mod_lt _ (by decide)
    refine lv_i2l (v := lN (opv 12 vx vy)) hx hb d_M_work_393 (il_s (by omega)) ?_
    refine x_callv (A := MS o) (va_runS (As := [.ref (o + 20), .long (lN (opv 12 vx vy))]) (rest := []) ⟨hx, hb, hml, hown, htw⟩ (m_setv l D cJ cI cQ cR (o + 20) (opv 12 vx vy) f20 (by omega)) (xcS 2 htw kw_385 kw_2 kw_383 kw_384 rfl rfl ⟨by decide, by decide, by decide +kernel⟩ ⟨Nat.le_of_ble_eq_true rfl, Nat.le_of_ble_eq_true rfl⟩) (xPre hK h_20) rfl rfl hl.1 rfl (lv_room (Nat.le_of_ble_eq_true rfl)) d_M_work_394 ⟨Nat.le_of_ble_eq_true rfl, Nat.le_of_ble_eq_true rfl⟩) hlo (fun q h => by have h : q = o + 20 := h; rw [h]; exact ⟨by omega, by omega⟩) (fun H3 locs3 hB3 hlo => ?_)
    obtain ⟨hF3, f3, hf3, hN3⟩ := hB3
    have h_18 := hI_f h_18 hF3 (show o + 18 ≠ o + 20 by omega)
    have h_19 := hI_f h_19 hF3 (show o + 19 ≠ o + 20 by omega)
    have h_20 := hf3
    have h_21 := hI_f h_21 hF3 (show o + 21 ≠ o + 20 by omega)
    have h_22 := hI_f h_22 hF3 (show o + 22 ≠ o + 20 by omega)
    have h_23 := hI_f h_23 hF3 (show o + 23 ≠ o + 20 by omega)
    have h_24 := hI_f h_24 hF3 (show o + 24 ≠ o + 20 by omega)
    have h_X := hI_f h_X hF3 (show x ≠ o + 20 by omega)
    have h_Y := hI_f h_Y hF3 (show y ≠ o + 20 by omega)
    have hO := hO.f1 hF3 (by omega)
    have hG := MS1 hG hF3 (by omega)
    refine lv_goto (tgt := 468) hx hb d_M_work_397 (by decide) ?_
    exact W.vret hx hb hr (fun t ht hW => ⟨rfl, by rw [ht]; exact hG, by rw [ht]; exact ⟨⟨_, h_18⟩, ⟨_, h_19⟩, ⟨_, h_20⟩, ⟨_, h_21, hN21⟩, ⟨_, h_22⟩, ⟨_, h_23⟩, ⟨_, h_24⟩⟩, _, by rw [ht]; exact h_20, hN3⟩) hlo d_M_work_468
  · obtain ⟨n, hn⟩ : ∃ n, n = (if vx ≤ 32 then vx else 32 + 1) := ⟨_, rfl⟩
    rw [← hn]
    have hnc : 32 ≤ n ∧ n ≤ 33 := by
      rw [hn]
      split <;> omega
    refine lv_lstore hx hb d_M_work_348 hl (by decide) rfl (fun ls hl => ?_)
    have hl : lv_has ls 12 [(5, .long (lN n)), (4, .int (nI 0)), (0, .ref o), (1, .int (nI 12)), (2, .ref x), (3, .ref y)] := hl
    refine lv_bipush (v := nI 31) hx hb d_M_work_350 (by decide) ?_
    refine lv_lload hx hb d_M_work_352 (lv_at hl 0 rfl) ?_
    refine lv_l2i (v := nI n) hx hb d_M_work_354 (lN_i _) ?_
    refine lv_isub hx hb d_M_work_355 ?_
    refine lv_istore hx hb d_M_work_356 hl (by decide) rfl (fun ls hl => ?_)
    have hl : lv_has ls 12 [(7, .int ((nI 31) - (nI n))), (5, .long (lN n)), (4, .int (nI 0)), (0, .ref o), (1, .int (nI 12)), (2, .ref x), (3, .ref y)] := hl
    refine lv_aload_n hx hb d_M_work_358 rfl (lv_at hl 3 rfl) ?_
    refine va_get (D := D) (ci := 1) (v := .ref (o + 20)) (C := "WideNumbersModel") (T := F_M) (N := 9) hx hb htw inM hown hK hO.1 0 rfl rfl 4 (by decide) (htw _ kw_280) (fun _ h9 => h9) rfl d_M_work_359 ?_
    refine lv_lload hx hb d_M_work_362 (lv_at hl 1 rfl) ?_
    refine lv_ldc2 (v := (31 : Int64)) hx hb hown (htw _ kw_393) d_M_work_364 ?_
    refine x_topl (v := lN 31) (rfl) ?_
    refine W.lcmp hx hb d_M_work_367 ?_
    refine lv_if_le (tgt := 375) hx hb d_M_work_368 (by decide) (fun hc => absurd ((lg_cmp_le _ _).mp hc) (Int64.not_le.mpr ((jN_lt (by decide) (by omega)).mpr (by omega)))) (fun _ => ?_)
    refine lv_lconst (v := lN 0) hx hb d_M_work_371 (by decide) ?_
    refine lv_goto (tgt := 394) hx hb d_M_work_372 (by decide) ?_
    refine x_callv (A := MS o) (va_runS (As := [.ref (o + 20), .long (lN 0)]) (rest := []) ⟨hx, hb, hml, hown, htw⟩ (m_setv l D cJ cI cQ cR (o + 20) 0 f20 (by decide)) (xcS 2 htw kw_385 kw_2 kw_383 kw_384 rfl rfl ⟨by decide, by decide, by decide +kernel⟩ ⟨Nat.le_of_ble_eq_true rfl, Nat.le_of_ble_eq_true rfl⟩) (xPre hK h_20) rfl rfl hl.1 rfl (lv_room (Nat.le_of_ble_eq_true rfl)) d_M_work_394 ⟨Nat.le_of_ble_eq_true rfl, Nat.le_of_ble_eq_true rfl⟩) hlo (fun q h => by have h : q = o + 20 := h; rw [h]; exact ⟨by omega, by omega⟩) (fun H3 locs3 hB3 hlo => ?_)
    obtain ⟨hF3, f3, hf3, hN3⟩ := hB3
    have h_18 := hI_f h_18 hF3 (show o + 18 ≠ o + 20 by omega)
    have h_19 := hI_f h_19 hF3 (show o + 19 ≠ o + 20 by omega)
    have h_20 := hf3
    have h_21 := hI_f h_21 hF3 (show o + 21 ≠ o + 20 by omega)
    have h_22 := hI_f h_22 hF3 (show o + 22 ≠ o + 20 by omega)
    have h_23 := hI_f h_23 hF3 (show o + 23 ≠ o + 20 by omega)
    have h_24 := hI_f h_24 hF3 (show o + 24 ≠ o + 20 by omega)
    have h_X := hI_f h_X hF3 (show x ≠ o + 20 by omega)
    have h_Y := hI_f h_Y hF3 (show y ≠ o + 20 by omega)
    have hO := hO.f1 hF3 (by omega)
    have hG := MS1 hG hF3 (by omega)
    refine lv_goto (tgt := 468) hx hb d_M_work_397 (by decide) ?_
    exact W.vret hx hb hr (fun t ht hW => ⟨rfl, by rw [ht]; exact hG, by rw [ht]; exact ⟨⟨_, h_18⟩, ⟨_, h_19⟩, ⟨_, h_20⟩, ⟨_, h_21, hN21⟩, ⟨_, h_22⟩, ⟨_, h_23⟩, ⟨_, h_24⟩⟩, _, by rw [ht]; exact h_20, NI_e hN3 (show 0 = if vx < 32 then vy / 2 ^ (8 * (31 - vx)) % 256 else 0 by rw [if_neg (by omega)])⟩) hlo d_M_work_468
set_option maxHeartbeats 4000000 in
set_option maxRecDepth 100000 in
theorem m_work_13 (l : Launch) (D : va_G) (cJ cI cQ cR : ClassId) (o x y vx vy : Nat) (fl : Int32) (fx fy : Nat → Int32) (hxr : o + 2 ≤ x ∧ x < o + 18) (hyr : o + 2 ≤ y ∧ y < o + 18) (hvx : vx < 2 ^ 256) (hvy : vy < 2 ^ 256) (hNx : NI fx 8 vx) (hNy : NI fy 8 vy) : Met l y_M_work w_M_work { frames := 3, cells := 0, slots := 0, locals := 77 } (xP D vwCl (TY cJ cI cQ cR) [.ref o, .int (nI 13), .ref x, .ref y] (fun H => MB D cR o fl H ∧ SM cI o H ∧ hI H cI x 8 fx ∧ hI H cI y 8 fy)) (xQv (fun H0 H => XF (MS o) H0 H ∧ SM cI o H ∧ ∃ f : Nat → Int32, hI H cI (o + 20) 8 f ∧ NI f 8 (opv 13 vx vy))) 0 0 (MS o) := by
  refine Met.ofW (cc := b_M_work) (maxL := 12) (ret := none) (by decide) rfl ?_
  intro p e s m args below meth c s₁ B hml hv
  obtain ⟨rfl, hK, ⟨hO, hSM, h_X, h_Y⟩⟩ := hv
  have hx := B.exec
  have hb := B.bytes
  have hr := B.returns
  have hts := atoms_spec (ws := w_M_work) B.pre
  have htw : ∀ w ∈ WT, w.before _ s = true := fun w h => hts w (List.mem_cons_of_mem _ h)
  have hown : s.vm.findClass "WideNumbersModel" = some m.cls := findClass_of_methodNamed B.named
  have hlocks := B.notSynchronized
  have hJ : ArrOfT s cJ .long := (hK.2 0 _ rfl).1
  have hI9 : ArrOfT s cI .int := (hK.2 1 _ rfl).1
  have hl := lv_entry ([.ref o, .int (nI 13), .ref x, .ref y]) (n := 12) (Nat.le_of_ble_eq_true rfl)
  rw [lg_entry_eq]
  generalize (lg_sl ([.ref o, .int (nI 13), .ref x, .ref y]) ++ List.replicate (12 - (lg_sl ([.ref o, .int (nI 13), .ref x, .ref y])).length) Slot.unset).toArray = ls at hl ⊢
  have hl : lv_has ls 12 [(0, .ref o), (1, .int (nI 13)), (2, .ref x), (3, .ref y)] := hl
  obtain ⟨⟨f18, h_18⟩, ⟨f19, h_19⟩, ⟨f20, h_20⟩, ⟨f21, h_21, hN21⟩, ⟨f22, h_22⟩, ⟨f23, h_23⟩, ⟨f24, h_24⟩⟩ := hSM
  have hG : XF (MS o) s.heap s.heap := XF.rf
  have hlo : ∀ q ∈ ([] : List Loc), MS o q.base := fun _ h => nomatch h
  refine lv_iload_n hx hb d_M_work_0 rfl (lv_at hl 1 rfl) ?_
  refine lv_iconst (v := nI 2) hx hb d_M_work_1 (by decide) ?_
  refine lv_icmp_le (tgt := 22) hx hb d_M_work_2 (by decide) (fun h => absurd h (by decide)) (fun _ => ?_)
  refine lv_iload_n hx hb d_M_work_5 rfl (lv_at hl 1 rfl) ?_
  refine lv_bipush (v := nI 7) hx hb d_M_work_6 (by decide) ?_
  refine lv_icmp_ge (tgt := 22) hx hb d_M_work_8 (by decide) (fun _ => ?_) (fun h => absurd (by decide) h)
  refine lv_iconst (v := nI 0) hx hb d_M_work_22 (by decide) ?_
  refine lv_istore hx hb d_M_work_23 hl (by decide) rfl (fun ls hl => ?_)
  have hl : lv_has ls 12 [(4, .int (nI 0)), (0, .ref o), (1, .int (nI 13)), (2, .ref x), (3, .ref y)] := hl
  refine lv_iload hx hb d_M_work_25 (lv_at hl 0 rfl) ?_
  refine lv_if_eq (tgt := 40) hx hb d_M_work_27 (by decide) (fun _ => ?_) (fun h => absurd (by decide) h)
  refine lv_iload_n hx hb d_M_work_40 rfl (lv_at hl 2 rfl) ?_
  refine lv_if_ne (tgt := 58) hx hb d_M_work_41 (by decide) (fun _ => ?_) (fun h => absurd h (by decide))
  refine lv_iload_n hx hb d_M_work_58 rfl (lv_at hl 2 rfl) ?_
  refine lv_iconst (v := nI 1) hx hb d_M_work_59 (by decide) ?_
  refine lv_icmp_ne (tgt := 75) hx hb d_M_work_60 (by decide) (fun _ => ?_) (fun h => absurd h (by decide))
  refine lv_iload_n hx hb d_M_work_75 rfl (lv_at hl 2 rfl) ?_
  refine lv_iconst (v := nI 2) hx hb d_M_work_76 (by decide) ?_
  refine lv_icmp_ne (tgt := 100) hx hb d_M_work_77 (by decide) (fun _ => ?_) (fun h => absurd h (by decide))
  refine lv_iload_n hx hb d_M_work_100 rfl (lv_at hl 2 rfl) ?_
  refine lv_iconst (v := nI 5) hx hb d_M_work_101 (by decide) ?_
  refine lv_icmp_ge (tgt := 137) hx hb d_M_work_102 (by decide) (fun _ => ?_) (fun h => absurd (by decide) h)
  refine lv_iload_n hx hb d_M_work_137 rfl (lv_at hl 2 rfl) ?_
  refine lv_bipush (v := nI 7) hx hb d_M_work_138 (by decide) ?_
  refine lv_icmp_ge (tgt := 167) hx hb d_M_work_140 (by decide) (fun _ => ?_) (fun h => absurd (by decide) h)
  refine lv_iload_n hx hb d_M_work_167 rfl (lv_at hl 2 rfl) ?_
  refine lv_bipush (v := nI 7) hx hb d_M_work_168 (by decide) ?_
  refine lv_icmp_ne (tgt := 182) hx hb d_M_work_170 (by decide) (fun _ => ?_) (fun h => absurd h (by decide))
  refine lv_iload_n hx hb d_M_work_182 rfl (lv_at hl 2 rfl) ?_
  refine lv_bipush (v := nI 8) hx hb d_M_work_183 (by decide) ?_
  refine lv_icmp_ne (tgt := 197) hx hb d_M_work_185 (by decide) (fun _ => ?_) (fun h => absurd h (by decide))
  refine lv_iload_n hx hb d_M_work_197 rfl (lv_at hl 2 rfl) ?_
  refine lv_bipush (v := nI 12) hx hb d_M_work_198 (by decide) ?_
  refine lv_icmp_ge (tgt := 335) hx hb d_M_work_200 (by decide) (fun _ => ?_) (fun h => absurd (by decide) h)
  refine lv_iload_n hx hb d_M_work_335 rfl (lv_at hl 2 rfl) ?_
  refine lv_bipush (v := nI 12) hx hb d_M_work_336 (by decide) ?_
  refine lv_icmp_ne (tgt := 400) hx hb d_M_work_338 (by decide) (fun _ => ?_) (fun h => absurd h (by decide))
  refine lv_iconst (v := nI 0) hx hb d_M_work_400 (by decide) ?_
  refine lv_istore hx hb d_M_work_401 hl (by decide) rfl (fun ls hl => ?_)
  have hl : lv_has ls 12 [(5, .int (nI 0)), (4, .int (nI 0)), (0, .ref o), (1, .int (nI 13)), (2, .ref x), (3, .ref y)] := hl
  have hl : lv_has ls 12 [(5, .int (nI 0)), (1, .int (nI 13)), (0, .ref o), (2, .ref x), (3, .ref y)] := lv_sub hl [0, 3, 2, 4, 5] rfl
  refine x_loop 403 (fun i H locs ls => ∃ f : Nat → Int32, lv_has ls 12 [(5, .int (nI i)), (1, .int (nI 13)), (0, .ref o), (2, .ref x), (3, .ref y)] ∧ (∀ q ∈ locs, MS o q.base) ∧ XF (fun q => q = o + 20) s.heap H ∧ hI H cI (o + 20) 8 f ∧ NI f i (opv 13 vx vy)) 8 ?_ ?_ 0 _ _ _ (by omega) ?_
  · intro i H locs ls hi ⟨f, hl, hlo, hF, hf, hN⟩ ih
    refine lv_iload hx hb d_M_work_403 (lv_at hl 0 rfl) ?_
    refine lv_bipush (v := nI 8) hx hb d_M_work_405 (by decide) ?_
    refine lv_icmp_ge (tgt := 468) hx hb d_M_work_407 (by decide) (fun hc => absurd hc (nI_ge (by omega) (by omega))) (fun _ => ?_)
    have hO := hO.f1 hF (by omega)
    have h_Y := hI_f h_Y hF (show y ≠ o + 20 by omega)
    have h_X := hI_f h_X hF (show x ≠ o + 20 by omega)
    refine lv_aload_n hx hb d_M_work_410 rfl (lv_at hl 2 rfl) ?_
    refine va_get (D := D) (ci := 1) (v := .ref (o + 20)) (C := "WideNumbersModel") (T := F_M) (N := 9) hx hb htw inM hown hK hO.1 0 rfl rfl 4 (by decide) (htw _ kw_280) (fun _ h9 => h9) rfl d_M_work_411 ?_
    refine lv_iload hx hb d_M_work_414 (lv_at hl 0 rfl) ?_
    refine lv_iload_n hx hb d_M_work_416 rfl (lv_at hl 1 rfl) ?_
    refine lv_bipush (v := nI 13) hx hb d_M_work_417 (by decide) ?_
    refine lv_icmp_ne (tgt := 434) hx hb d_M_work_419 (by decide) (fun h => absurd (by decide) h) (fun _ => ?_)
    refine lv_aload_n hx hb d_M_work_422 rfl (lv_at hl 3 rfl) ?_
    refine lv_iload hx hb d_M_work_423 (lv_at hl 0 rfl) ?_
    refine x_iald hx hb hI9 h_X (i) (rfl) (by omega) (by omega) (v := nI (dg vx i)) (hNx i hi) d_M_work_425 ?_
    refine lv_aload_n hx hb d_M_work_426 rfl (lv_at hl 4 rfl) ?_
    refine lv_iload hx hb d_M_work_427 (lv_at hl 0 rfl) ?_
    refine x_iald hx hb hI9 h_Y (i) (rfl) (by omega) (by omega) (v := nI (dg vy i)) (hNy i hi) d_M_work_429 ?_
    refine lv_iand hx hb d_M_work_430 ?_
    refine x_topi (v := nI (dg (opv 13 vx vy) i)) ((iN_and _ _).trans (congrArg nI (dg_and vx vy i).symm)) ?_
    refine lv_goto (tgt := 461) hx hb d_M_work_431 (by decide) ?_
    refine x_iast (A := MS o) hx hb hI9 hf hlo (⟨by omega, by omega⟩) (i) (rfl) (by omega) (by omega) d_M_work_461 (fun H1 locs1 h1 hF1 hlo1 => ?_)
    refine lv_iinc (v := nI (i + 1)) (k := 0) hx hb d_M_work_462 hl rfl (nI_1 i) (by decide) rfl (fun ls hl => ?_)
    have hl : lv_has ls 12 [(5, .int (nI (i + 1))), (1, .int (nI 13)), (0, .ref o), (2, .ref x), (3, .ref y)] := hl
    refine lv_goto (tgt := 403) hx hb d_M_work_465 (by decide) ?_
    have hl : lv_has ls 12 [(5, .int (nI (i + 1))), (1, .int (nI 13)), (0, .ref o), (2, .ref x), (3, .ref y)] := lv_sub hl [0, 1, 2, 3, 4] rfl
    exact ih H1 locs1 ls ⟨_, hl, hlo1, hF.tr hF1 (fun _ h => h), h1, NI_up hN⟩
  · intro H locs ls ⟨f, hl, hlo, hF, hf, hN⟩
    refine lv_iload hx hb d_M_work_403 (lv_at hl 0 rfl) ?_
    refine lv_bipush (v := nI 8) hx hb d_M_work_405 (by decide) ?_
    refine lv_icmp_ge (tgt := 468) hx hb d_M_work_407 (by decide) (fun _ => ?_) (fun hc => absurd (nI_le (Nat.le_refl _) (by omega)) hc)
    have h_18 := hI_f h_18 hF (show o + 18 ≠ o + 20 by omega)
    have h_19 := hI_f h_19 hF (show o + 19 ≠ o + 20 by omega)
    have h_20 := hf
    have h_21 := hI_f h_21 hF (show o + 21 ≠ o + 20 by omega)
    have h_22 := hI_f h_22 hF (show o + 22 ≠ o + 20 by omega)
    have h_23 := hI_f h_23 hF (show o + 23 ≠ o + 20 by omega)
    have h_24 := hI_f h_24 hF (show o + 24 ≠ o + 20 by omega)
    have h_X := hI_f h_X hF (show x ≠ o + 20 by omega)
    have h_Y := hI_f h_Y hF (show y ≠ o + 20 by omega)
    have hO := hO.f1 hF (by omega)
    have hG := MS1 hG hF (by omega)
    exact W.vret hx hb hr (fun t ht hW => ⟨rfl, by rw [ht]; exact hG, by rw [ht]; exact ⟨⟨_, h_18⟩, ⟨_, h_19⟩, ⟨_, h_20⟩, ⟨_, h_21, hN21⟩, ⟨_, h_22⟩, ⟨_, h_23⟩, ⟨_, h_24⟩⟩, _, by rw [ht]; exact h_20, hN⟩) hlo d_M_work_468
  · exact ⟨f20, hl, hlo, XF.rf, h_20, NI_0⟩
set_option maxHeartbeats 4000000 in
set_option maxRecDepth 100000 in
theorem m_work_14 (l : Launch) (D : va_G) (cJ cI cQ cR : ClassId) (o x y vx vy : Nat) (fl : Int32) (fx fy : Nat → Int32) (hxr : o + 2 ≤ x ∧ x < o + 18) (hyr : o + 2 ≤ y ∧ y < o + 18) (hvx : vx < 2 ^ 256) (hvy : vy < 2 ^ 256) (hNx : NI fx 8 vx) (hNy : NI fy 8 vy) : Met l y_M_work w_M_work { frames := 3, cells := 0, slots := 0, locals := 77 } (xP D vwCl (TY cJ cI cQ cR) [.ref o, .int (nI 14), .ref x, .ref y] (fun H => MB D cR o fl H ∧ SM cI o H ∧ hI H cI x 8 fx ∧ hI H cI y 8 fy)) (xQv (fun H0 H => XF (MS o) H0 H ∧ SM cI o H ∧ ∃ f : Nat → Int32, hI H cI (o + 20) 8 f ∧ NI f 8 (opv 14 vx vy))) 0 0 (MS o) := by
  refine Met.ofW (cc := b_M_work) (maxL := 12) (ret := none) (by decide) rfl ?_
  intro p e s m args below meth c s₁ B hml hv
  obtain ⟨rfl, hK, ⟨hO, hSM, h_X, h_Y⟩⟩ := hv
  have hx := B.exec
  have hb := B.bytes
  have hr := B.returns
  have hts := atoms_spec (ws := w_M_work) B.pre
  have htw : ∀ w ∈ WT, w.before _ s = true := fun w h => hts w (List.mem_cons_of_mem _ h)
  have hown : s.vm.findClass "WideNumbersModel" = some m.cls := findClass_of_methodNamed B.named
  have hlocks := B.notSynchronized
  have hJ : ArrOfT s cJ .long := (hK.2 0 _ rfl).1
  have hI9 : ArrOfT s cI .int := (hK.2 1 _ rfl).1
  have hl := lv_entry ([.ref o, .int (nI 14), .ref x, .ref y]) (n := 12) (Nat.le_of_ble_eq_true rfl)
  rw [lg_entry_eq]
  generalize (lg_sl ([.ref o, .int (nI 14), .ref x, .ref y]) ++ List.replicate (12 - (lg_sl ([.ref o, .int (nI 14), .ref x, .ref y])).length) Slot.unset).toArray = ls at hl ⊢
  have hl : lv_has ls 12 [(0, .ref o), (1, .int (nI 14)), (2, .ref x), (3, .ref y)] := hl
  obtain ⟨⟨f18, h_18⟩, ⟨f19, h_19⟩, ⟨f20, h_20⟩, ⟨f21, h_21, hN21⟩, ⟨f22, h_22⟩, ⟨f23, h_23⟩, ⟨f24, h_24⟩⟩ := hSM
  have hG : XF (MS o) s.heap s.heap := XF.rf
  have hlo : ∀ q ∈ ([] : List Loc), MS o q.base := fun _ h => nomatch h
  refine lv_iload_n hx hb d_M_work_0 rfl (lv_at hl 1 rfl) ?_
  refine lv_iconst (v := nI 2) hx hb d_M_work_1 (by decide) ?_
  refine lv_icmp_le (tgt := 22) hx hb d_M_work_2 (by decide) (fun h => absurd h (by decide)) (fun _ => ?_)
  refine lv_iload_n hx hb d_M_work_5 rfl (lv_at hl 1 rfl) ?_
  refine lv_bipush (v := nI 7) hx hb d_M_work_6 (by decide) ?_
  refine lv_icmp_ge (tgt := 22) hx hb d_M_work_8 (by decide) (fun _ => ?_) (fun h => absurd (by decide) h)
  refine lv_iconst (v := nI 0) hx hb d_M_work_22 (by decide) ?_
  refine lv_istore hx hb d_M_work_23 hl (by decide) rfl (fun ls hl => ?_)
  have hl : lv_has ls 12 [(4, .int (nI 0)), (0, .ref o), (1, .int (nI 14)), (2, .ref x), (3, .ref y)] := hl
  refine lv_iload hx hb d_M_work_25 (lv_at hl 0 rfl) ?_
  refine lv_if_eq (tgt := 40) hx hb d_M_work_27 (by decide) (fun _ => ?_) (fun h => absurd (by decide) h)
  refine lv_iload_n hx hb d_M_work_40 rfl (lv_at hl 2 rfl) ?_
  refine lv_if_ne (tgt := 58) hx hb d_M_work_41 (by decide) (fun _ => ?_) (fun h => absurd h (by decide))
  refine lv_iload_n hx hb d_M_work_58 rfl (lv_at hl 2 rfl) ?_
  refine lv_iconst (v := nI 1) hx hb d_M_work_59 (by decide) ?_
  refine lv_icmp_ne (tgt := 75) hx hb d_M_work_60 (by decide) (fun _ => ?_) (fun h => absurd h (by decide))
  refine lv_iload_n hx hb d_M_work_75 rfl (lv_at hl 2 rfl) ?_
  refine lv_iconst (v := nI 2) hx hb d_M_work_76 (by decide) ?_
  refine lv_icmp_ne (tgt := 100) hx hb d_M_work_77 (by decide) (fun _ => ?_) (fun h => absurd h (by decide))
  refine lv_iload_n hx hb d_M_work_100 rfl (lv_at hl 2 rfl) ?_
  refine lv_iconst (v := nI 5) hx hb d_M_work_101 (by decide) ?_
  refine lv_icmp_ge (tgt := 137) hx hb d_M_work_102 (by decide) (fun _ => ?_) (fun h => absurd (by decide) h)
  refine lv_iload_n hx hb d_M_work_137 rfl (lv_at hl 2 rfl) ?_
  refine lv_bipush (v := nI 7) hx hb d_M_work_138 (by decide) ?_
  refine lv_icmp_ge (tgt := 167) hx hb d_M_work_140 (by decide) (fun _ => ?_) (fun h => absurd (by decide) h)
  refine lv_iload_n hx hb d_M_work_167 rfl (lv_at hl 2 rfl) ?_
  refine lv_bipush (v := nI 7) hx hb d_M_work_168 (by decide) ?_
  refine lv_icmp_ne (tgt := 182) hx hb d_M_work_170 (by decide) (fun _ => ?_) (fun h => absurd h (by decide))
  refine lv_iload_n hx hb d_M_work_182 rfl (lv_at hl 2 rfl) ?_
  refine lv_bipush (v := nI 8) hx hb d_M_work_183 (by decide) ?_
  refine lv_icmp_ne (tgt := 197) hx hb d_M_work_185 (by decide) (fun _ => ?_) (fun h => absurd h (by decide))
  refine lv_iload_n hx hb d_M_work_197 rfl (lv_at hl 2 rfl) ?_
  refine lv_bipush (v := nI 12) hx hb d_M_work_198 (by decide) ?_
  refine lv_icmp_ge (tgt := 335) hx hb d_M_work_200 (by decide) (fun _ => ?_) (fun h => absurd (by decide) h)
  refine lv_iload_n hx hb d_M_work_335 rfl (lv_at hl 2 rfl) ?_
  refine lv_bipush (v := nI 12) hx hb d_M_work_336 (by decide) ?_
  refine lv_icmp_ne (tgt := 400) hx hb d_M_work_338 (by decide) (fun _ => ?_) (fun h => absurd h (by decide))
  refine lv_iconst (v := nI 0) hx hb d_M_work_400 (by decide) ?_
  refine lv_istore hx hb d_M_work_401 hl (by decide) rfl (fun ls hl => ?_)
  have hl : lv_has ls 12 [(5, .int (nI 0)), (4, .int (nI 0)), (0, .ref o), (1, .int (nI 14)), (2, .ref x), (3, .ref y)] := hl
  have hl : lv_has ls 12 [(5, .int (nI 0)), (1, .int (nI 14)), (0, .ref o), (2, .ref x), (3, .ref y)] := lv_sub hl [0, 3, 2, 4, 5] rfl
  refine x_loop 403 (fun i H locs ls => ∃ f : Nat → Int32, lv_has ls 12 [(5, .int (nI i)), (1, .int (nI 14)), (0, .ref o), (2, .ref x), (3, .ref y)] ∧ (∀ q ∈ locs, MS o q.base) ∧ XF (fun q => q = o + 20) s.heap H ∧ hI H cI (o + 20) 8 f ∧ NI f i (opv 14 vx vy)) 8 ?_ ?_ 0 _ _ _ (by omega) ?_
  · intro i H locs ls hi ⟨f, hl, hlo, hF, hf, hN⟩ ih
    refine lv_iload hx hb d_M_work_403 (lv_at hl 0 rfl) ?_
    refine lv_bipush (v := nI 8) hx hb d_M_work_405 (by decide) ?_
    refine lv_icmp_ge (tgt := 468) hx hb d_M_work_407 (by decide) (fun hc => absurd hc (nI_ge (by omega) (by omega))) (fun _ => ?_)
    have hO := hO.f1 hF (by omega)
    have h_Y := hI_f h_Y hF (show y ≠ o + 20 by omega)
    have h_X := hI_f h_X hF (show x ≠ o + 20 by omega)
    refine lv_aload_n hx hb d_M_work_410 rfl (lv_at hl 2 rfl) ?_
    refine va_get (D := D) (ci := 1) (v := .ref (o + 20)) (C := "WideNumbersModel") (T := F_M) (N := 9) hx hb htw inM hown hK hO.1 0 rfl rfl 4 (by decide) (htw _ kw_280) (fun _ h9 => h9) rfl d_M_work_411 ?_
    refine lv_iload hx hb d_M_work_414 (lv_at hl 0 rfl) ?_
    refine lv_iload_n hx hb d_M_work_416 rfl (lv_at hl 1 rfl) ?_
    refine lv_bipush (v := nI 13) hx hb d_M_work_417 (by decide) ?_
    refine lv_icmp_ne (tgt := 434) hx hb d_M_work_419 (by decide) (fun _ => ?_) (fun h => absurd h (by decide))
    refine lv_iload_n hx hb d_M_work_434 rfl (lv_at hl 1 rfl) ?_
    refine lv_bipush (v := nI 14) hx hb d_M_work_435 (by decide) ?_
    refine lv_icmp_ne (tgt := 452) hx hb d_M_work_437 (by decide) (fun h => absurd (by decide) h) (fun _ => ?_)
    refine lv_aload_n hx hb d_M_work_440 rfl (lv_at hl 3 rfl) ?_
    refine lv_iload hx hb d_M_work_441 (lv_at hl 0 rfl) ?_
    refine x_iald hx hb hI9 h_X (i) (rfl) (by omega) (by omega) (v := nI (dg vx i)) (hNx i hi) d_M_work_443 ?_
    refine lv_aload_n hx hb d_M_work_444 rfl (lv_at hl 4 rfl) ?_
    refine lv_iload hx hb d_M_work_445 (lv_at hl 0 rfl) ?_
    refine x_iald hx hb hI9 h_Y (i) (rfl) (by omega) (by omega) (v := nI (dg vy i)) (hNy i hi) d_M_work_447 ?_
    refine lv_ior hx hb d_M_work_448 ?_
    refine x_topi (v := nI (dg (opv 14 vx vy) i)) ((iN_or _ _).trans (congrArg nI (dg_or vx vy i).symm)) ?_
    refine lv_goto (tgt := 461) hx hb d_M_work_449 (by decide) ?_
    refine x_iast (A := MS o) hx hb hI9 hf hlo (⟨by omega, by omega⟩) (i) (rfl) (by omega) (by omega) d_M_work_461 (fun H1 locs1 h1 hF1 hlo1 => ?_)
    refine lv_iinc (v := nI (i + 1)) (k := 0) hx hb d_M_work_462 hl rfl (nI_1 i) (by decide) rfl (fun ls hl => ?_)
    have hl : lv_has ls 12 [(5, .int (nI (i + 1))), (1, .int (nI 14)), (0, .ref o), (2, .ref x), (3, .ref y)] := hl
    refine lv_goto (tgt := 403) hx hb d_M_work_465 (by decide) ?_
    have hl : lv_has ls 12 [(5, .int (nI (i + 1))), (1, .int (nI 14)), (0, .ref o), (2, .ref x), (3, .ref y)] := lv_sub hl [0, 1, 2, 3, 4] rfl
    exact ih H1 locs1 ls ⟨_, hl, hlo1, hF.tr hF1 (fun _ h => h), h1, NI_up hN⟩
  · intro H locs ls ⟨f, hl, hlo, hF, hf, hN⟩
    refine lv_iload hx hb d_M_work_403 (lv_at hl 0 rfl) ?_
    refine lv_bipush (v := nI 8) hx hb d_M_work_405 (by decide) ?_
    refine lv_icmp_ge (tgt := 468) hx hb d_M_work_407 (by decide) (fun _ => ?_) (fun hc => absurd (nI_le (Nat.le_refl _) (by omega)) hc)
    have h_18 := hI_f h_18 hF (show o + 18 ≠ o + 20 by omega)
    have h_19 := hI_f h_19 hF (show o + 19 ≠ o + 20 by omega)
    have h_20 := hf
    have h_21 := hI_f h_21 hF (show o + 21 ≠ o + 20 by omega)
    have h_22 := hI_f h_22 hF (show o + 22 ≠ o + 20 by omega)
    have h_23 := hI_f h_23 hF (show o + 23 ≠ o + 20 by omega)
    have h_24 := hI_f h_24 hF (show o + 24 ≠ o + 20 by omega)
    have h_X := hI_f h_X hF (show x ≠ o + 20 by omega)
    have h_Y := hI_f h_Y hF (show y ≠ o + 20 by omega)
    have hO := hO.f1 hF (by omega)
    have hG := MS1 hG hF (by omega)
    exact W.vret hx hb hr (fun t ht hW => ⟨rfl, by rw [ht]; exact hG, by rw [ht]; exact ⟨⟨_, h_18⟩, ⟨_, h_19⟩, ⟨_, h_20⟩, ⟨_, h_21, hN21⟩, ⟨_, h_22⟩, ⟨_, h_23⟩, ⟨_, h_24⟩⟩, _, by rw [ht]; exact h_20, hN⟩) hlo d_M_work_468
  · exact ⟨f20, hl, hlo, XF.rf, h_20, NI_0⟩
set_option maxHeartbeats 4000000 in
set_option maxRecDepth 100000 in
theorem m_work_15 (l : Launch) (D : va_G) (cJ cI cQ cR : ClassId) (o x y vx vy : Nat) (fl : Int32) (fx fy : Nat → Int32) (hxr : o + 2 ≤ x ∧ x < o + 18) (hyr : o + 2 ≤ y ∧ y < o + 18) (hvx : vx < 2 ^ 256) (hvy : vy < 2 ^ 256) (hNx : NI fx 8 vx) (hNy : NI fy 8 vy) : Met l y_M_work w_M_work { frames := 3, cells := 0, slots := 0, locals := 77 } (xP D vwCl (TY cJ cI cQ cR) [.ref o, .int (nI 15), .ref x, .ref y] (fun H => MB D cR o fl H ∧ SM cI o H ∧ hI H cI x 8 fx ∧ hI H cI y 8 fy)) (xQv (fun H0 H => XF (MS o) H0 H ∧ SM cI o H ∧ ∃ f : Nat → Int32, hI H cI (o + 20) 8 f ∧ NI f 8 (opv 15 vx vy))) 0 0 (MS o) := by
  refine Met.ofW (cc := b_M_work) (maxL := 12) (ret := none) (by decide) rfl ?_
  intro p e s m args below meth c s₁ B hml hv
  obtain ⟨rfl, hK, ⟨hO, hSM, h_X, h_Y⟩⟩ := hv
  have hx := B.exec
  have hb := B.bytes
  have hr := B.returns
  have hts := atoms_spec (ws := w_M_work) B.pre
  have htw : ∀ w ∈ WT, w.before _ s = true := fun w h => hts w (List.mem_cons_of_mem _ h)
  have hown : s.vm.findClass "WideNumbersModel" = some m.cls := findClass_of_methodNamed B.named
  have hlocks := B.notSynchronized
  have hJ : ArrOfT s cJ .long := (hK.2 0 _ rfl).1
  have hI9 : ArrOfT s cI .int := (hK.2 1 _ rfl).1
  have hl := lv_entry ([.ref o, .int (nI 15), .ref x, .ref y]) (n := 12) (Nat.le_of_ble_eq_true rfl)
  rw [lg_entry_eq]
  generalize (lg_sl ([.ref o, .int (nI 15), .ref x, .ref y]) ++ List.replicate (12 - (lg_sl ([.ref o, .int (nI 15), .ref x, .ref y])).length) Slot.unset).toArray = ls at hl ⊢
  have hl : lv_has ls 12 [(0, .ref o), (1, .int (nI 15)), (2, .ref x), (3, .ref y)] := hl
  obtain ⟨⟨f18, h_18⟩, ⟨f19, h_19⟩, ⟨f20, h_20⟩, ⟨f21, h_21, hN21⟩, ⟨f22, h_22⟩, ⟨f23, h_23⟩, ⟨f24, h_24⟩⟩ := hSM
  have hG : XF (MS o) s.heap s.heap := XF.rf
  have hlo : ∀ q ∈ ([] : List Loc), MS o q.base := fun _ h => nomatch h
  refine lv_iload_n hx hb d_M_work_0 rfl (lv_at hl 1 rfl) ?_
  refine lv_iconst (v := nI 2) hx hb d_M_work_1 (by decide) ?_
  refine lv_icmp_le (tgt := 22) hx hb d_M_work_2 (by decide) (fun h => absurd h (by decide)) (fun _ => ?_)
  refine lv_iload_n hx hb d_M_work_5 rfl (lv_at hl 1 rfl) ?_
  refine lv_bipush (v := nI 7) hx hb d_M_work_6 (by decide) ?_
  refine lv_icmp_ge (tgt := 22) hx hb d_M_work_8 (by decide) (fun _ => ?_) (fun h => absurd (by decide) h)
  refine lv_iconst (v := nI 0) hx hb d_M_work_22 (by decide) ?_
  refine lv_istore hx hb d_M_work_23 hl (by decide) rfl (fun ls hl => ?_)
  have hl : lv_has ls 12 [(4, .int (nI 0)), (0, .ref o), (1, .int (nI 15)), (2, .ref x), (3, .ref y)] := hl
  refine lv_iload hx hb d_M_work_25 (lv_at hl 0 rfl) ?_
  refine lv_if_eq (tgt := 40) hx hb d_M_work_27 (by decide) (fun _ => ?_) (fun h => absurd (by decide) h)
  refine lv_iload_n hx hb d_M_work_40 rfl (lv_at hl 2 rfl) ?_
  refine lv_if_ne (tgt := 58) hx hb d_M_work_41 (by decide) (fun _ => ?_) (fun h => absurd h (by decide))
  refine lv_iload_n hx hb d_M_work_58 rfl (lv_at hl 2 rfl) ?_
  refine lv_iconst (v := nI 1) hx hb d_M_work_59 (by decide) ?_
  refine lv_icmp_ne (tgt := 75) hx hb d_M_work_60 (by decide) (fun _ => ?_) (fun h => absurd h (by decide))
  refine lv_iload_n hx hb d_M_work_75 rfl (lv_at hl 2 rfl) ?_
  refine lv_iconst (v := nI 2) hx hb d_M_work_76 (by decide) ?_
  refine lv_icmp_ne (tgt := 100) hx hb d_M_work_77 (by decide) (fun _ => ?_) (fun h => absurd h (by decide))
  refine lv_iload_n hx hb d_M_work_100 rfl (lv_at hl 2 rfl) ?_
  refine lv_iconst (v := nI 5) hx hb d_M_work_101 (by decide) ?_
  refine lv_icmp_ge (tgt := 137) hx hb d_M_work_102 (by decide) (fun _ => ?_) (fun h => absurd (by decide) h)
  refine lv_iload_n hx hb d_M_work_137 rfl (lv_at hl 2 rfl) ?_
  refine lv_bipush (v := nI 7) hx hb d_M_work_138 (by decide) ?_
  refine lv_icmp_ge (tgt := 167) hx hb d_M_work_140 (by decide) (fun _ => ?_) (fun h => absurd (by decide) h)
  refine lv_iload_n hx hb d_M_work_167 rfl (lv_at hl 2 rfl) ?_
  refine lv_bipush (v := nI 7) hx hb d_M_work_168 (by decide) ?_
  refine lv_icmp_ne (tgt := 182) hx hb d_M_work_170 (by decide) (fun _ => ?_) (fun h => absurd h (by decide))
  refine lv_iload_n hx hb d_M_work_182 rfl (lv_at hl 2 rfl) ?_
  refine lv_bipush (v := nI 8) hx hb d_M_work_183 (by decide) ?_
  refine lv_icmp_ne (tgt := 197) hx hb d_M_work_185 (by decide) (fun _ => ?_) (fun h => absurd h (by decide))
  refine lv_iload_n hx hb d_M_work_197 rfl (lv_at hl 2 rfl) ?_
  refine lv_bipush (v := nI 12) hx hb d_M_work_198 (by decide) ?_
  refine lv_icmp_ge (tgt := 335) hx hb d_M_work_200 (by decide) (fun _ => ?_) (fun h => absurd (by decide) h)
  refine lv_iload_n hx hb d_M_work_335 rfl (lv_at hl 2 rfl) ?_
  refine lv_bipush (v := nI 12) hx hb d_M_work_336 (by decide) ?_
  refine lv_icmp_ne (tgt := 400) hx hb d_M_work_338 (by decide) (fun _ => ?_) (fun h => absurd h (by decide))
  refine lv_iconst (v := nI 0) hx hb d_M_work_400 (by decide) ?_
  refine lv_istore hx hb d_M_work_401 hl (by decide) rfl (fun ls hl => ?_)
  have hl : lv_has ls 12 [(5, .int (nI 0)), (4, .int (nI 0)), (0, .ref o), (1, .int (nI 15)), (2, .ref x), (3, .ref y)] := hl
  have hl : lv_has ls 12 [(5, .int (nI 0)), (1, .int (nI 15)), (0, .ref o), (2, .ref x), (3, .ref y)] := lv_sub hl [0, 3, 2, 4, 5] rfl
  refine x_loop 403 (fun i H locs ls => ∃ f : Nat → Int32, lv_has ls 12 [(5, .int (nI i)), (1, .int (nI 15)), (0, .ref o), (2, .ref x), (3, .ref y)] ∧ (∀ q ∈ locs, MS o q.base) ∧ XF (fun q => q = o + 20) s.heap H ∧ hI H cI (o + 20) 8 f ∧ NI f i (opv 15 vx vy)) 8 ?_ ?_ 0 _ _ _ (by omega) ?_
  · intro i H locs ls hi ⟨f, hl, hlo, hF, hf, hN⟩ ih
    refine lv_iload hx hb d_M_work_403 (lv_at hl 0 rfl) ?_
    refine lv_bipush (v := nI 8) hx hb d_M_work_405 (by decide) ?_
    refine lv_icmp_ge (tgt := 468) hx hb d_M_work_407 (by decide) (fun hc => absurd hc (nI_ge (by omega) (by omega))) (fun _ => ?_)
    have hO := hO.f1 hF (by omega)
    have h_Y := hI_f h_Y hF (show y ≠ o + 20 by omega)
    have h_X := hI_f h_X hF (show x ≠ o + 20 by omega)
    refine lv_aload_n hx hb d_M_work_410 rfl (lv_at hl 2 rfl) ?_
    refine va_get (D := D) (ci := 1) (v := .ref (o + 20)) (C := "WideNumbersModel") (T := F_M) (N := 9) hx hb htw inM hown hK hO.1 0 rfl rfl 4 (by decide) (htw _ kw_280) (fun _ h9 => h9) rfl d_M_work_411 ?_
    refine lv_iload hx hb d_M_work_414 (lv_at hl 0 rfl) ?_
    refine lv_iload_n hx hb d_M_work_416 rfl (lv_at hl 1 rfl) ?_
    refine lv_bipush (v := nI 13) hx hb d_M_work_417 (by decide) ?_
    refine lv_icmp_ne (tgt := 434) hx hb d_M_work_419 (by decide) (fun _ => ?_) (fun h => absurd h (by decide))
    refine lv_iload_n hx hb d_M_work_434 rfl (lv_at hl 1 rfl) ?_
    refine lv_bipush (v := nI 14) hx hb d_M_work_435 (by decide) ?_
    refine lv_icmp_ne (tgt := 452) hx hb d_M_work_437 (by decide) (fun _ => ?_) (fun h => absurd h (by decide))
    refine lv_aload_n hx hb d_M_work_452 rfl (lv_at hl 3 rfl) ?_
    refine lv_iload hx hb d_M_work_453 (lv_at hl 0 rfl) ?_
    refine x_iald hx hb hI9 h_X (i) (rfl) (by omega) (by omega) (v := nI (dg vx i)) (hNx i hi) d_M_work_455 ?_
    refine lv_aload_n hx hb d_M_work_456 rfl (lv_at hl 4 rfl) ?_
    refine lv_iload hx hb d_M_work_457 (lv_at hl 0 rfl) ?_
    refine x_iald hx hb hI9 h_Y (i) (rfl) (by omega) (by omega) (v := nI (dg vy i)) (hNy i hi) d_M_work_459 ?_
    refine lv_ixor hx hb d_M_work_460 ?_
    refine x_topi (v := nI (dg (opv 15 vx vy) i)) ((iN_xor _ _).trans (congrArg nI (dg_xor vx vy i).symm)) ?_
    refine x_iast (A := MS o) hx hb hI9 hf hlo (⟨by omega, by omega⟩) (i) (rfl) (by omega) (by omega) d_M_work_461 (fun H1 locs1 h1 hF1 hlo1 => ?_)
    refine lv_iinc (v := nI (i + 1)) (k := 0) hx hb d_M_work_462 hl rfl (nI_1 i) (by decide) rfl (fun ls hl => ?_)
    have hl : lv_has ls 12 [(5, .int (nI (i + 1))), (1, .int (nI 15)), (0, .ref o), (2, .ref x), (3, .ref y)] := hl
    refine lv_goto (tgt := 403) hx hb d_M_work_465 (by decide) ?_
    have hl : lv_has ls 12 [(5, .int (nI (i + 1))), (1, .int (nI 15)), (0, .ref o), (2, .ref x), (3, .ref y)] := lv_sub hl [0, 1, 2, 3, 4] rfl
    exact ih H1 locs1 ls ⟨_, hl, hlo1, hF.tr hF1 (fun _ h => h), h1, NI_up hN⟩
  · intro H locs ls ⟨f, hl, hlo, hF, hf, hN⟩
    refine lv_iload hx hb d_M_work_403 (lv_at hl 0 rfl) ?_
    refine lv_bipush (v := nI 8) hx hb d_M_work_405 (by decide) ?_
    refine lv_icmp_ge (tgt := 468) hx hb d_M_work_407 (by decide) (fun _ => ?_) (fun hc => absurd (nI_le (Nat.le_refl _) (by omega)) hc)
    have h_18 := hI_f h_18 hF (show o + 18 ≠ o + 20 by omega)
    have h_19 := hI_f h_19 hF (show o + 19 ≠ o + 20 by omega)
    have h_20 := hf
    have h_21 := hI_f h_21 hF (show o + 21 ≠ o + 20 by omega)
    have h_22 := hI_f h_22 hF (show o + 22 ≠ o + 20 by omega)
    have h_23 := hI_f h_23 hF (show o + 23 ≠ o + 20 by omega)
    have h_24 := hI_f h_24 hF (show o + 24 ≠ o + 20 by omega)
    have h_X := hI_f h_X hF (show x ≠ o + 20 by omega)
    have h_Y := hI_f h_Y hF (show y ≠ o + 20 by omega)
    have hO := hO.f1 hF (by omega)
    have hG := MS1 hG hF (by omega)
    exact W.vret hx hb hr (fun t ht hW => ⟨rfl, by rw [ht]; exact hG, by rw [ht]; exact ⟨⟨_, h_18⟩, ⟨_, h_19⟩, ⟨_, h_20⟩, ⟨_, h_21, hN21⟩, ⟨_, h_22⟩, ⟨_, h_23⟩, ⟨_, h_24⟩⟩, _, by rw [ht]; exact h_20, hN⟩) hlo d_M_work_468
  · exact ⟨f20, hl, hlo, XF.rf, h_20, NI_0⟩
theorem m_work (l : Launch) (D : va_G) (cJ cI cQ cR : ClassId) (o x y vx vy : Nat) (fl : Int32) (fx fy : Nat → Int32) (hxr : o + 2 ≤ x ∧ x < o + 18) (hyr : o + 2 ≤ y ∧ y < o + 18) (hvx : vx < 2 ^ 256) (hvy : vy < 2 ^ 256) (hNx : NI fx 8 vx) (hNy : NI fy 8 vy) (op : Nat) (hop : op < 16) : Met l y_M_work w_M_work { frames := 3, cells := 0, slots := 0, locals := 77 } (xP D vwCl (TY cJ cI cQ cR) [.ref o, .int (nI op), .ref x, .ref y] (fun H => MB D cR o fl H ∧ SM cI o H ∧ hI H cI x 8 fx ∧ hI H cI y 8 fy)) (xQv (fun H0 H => XF (MS o) H0 H ∧ SM cI o H ∧ ∃ f : Nat → Int32, hI H cI (o + 20) 8 f ∧ NI f 8 (opv op vx vy))) 0 0 (MS o) := by
  rcases (show op = 0 ∨ op = 1 ∨ op = 2 ∨ op = 3 ∨ op = 4 ∨ op = 5 ∨ op = 6 ∨ op = 7 ∨ op = 8 ∨ op = 9 ∨ op = 10 ∨ op = 11 ∨ op = 12 ∨ op = 13 ∨ op = 14 ∨ op = 15 by omega) with rfl | rfl | rfl | rfl | rfl | rfl | rfl | rfl | rfl | rfl | rfl | rfl | rfl | rfl | rfl | rfl
  · exact m_work_0 l D cJ cI cQ cR o x y vx vy fl fx fy hxr hyr hvx hvy hNx hNy
  · exact m_work_1 l D cJ cI cQ cR o x y vx vy fl fx fy hxr hyr hvx hvy hNx hNy
  · exact m_work_2 l D cJ cI cQ cR o x y vx vy fl fx fy hxr hyr hvx hvy hNx hNy
  · exact m_work_3 l D cJ cI cQ cR o x y vx vy fl fx fy hxr hyr hvx hvy hNx hNy
  · exact m_work_4 l D cJ cI cQ cR o x y vx vy fl fx fy hxr hyr hvx hvy hNx hNy
  · exact m_work_5 l D cJ cI cQ cR o x y vx vy fl fx fy hxr hyr hvx hvy hNx hNy
  · exact m_work_6 l D cJ cI cQ cR o x y vx vy fl fx fy hxr hyr hvx hvy hNx hNy
  · exact m_work_7 l D cJ cI cQ cR o x y vx vy fl fx fy hxr hyr hvx hvy hNx hNy
  · exact m_work_8 l D cJ cI cQ cR o x y vx vy fl fx fy hxr hyr hvx hvy hNx hNy
  · exact m_work_9 l D cJ cI cQ cR o x y vx vy fl fx fy hxr hyr hvx hvy hNx hNy
  · exact m_work_10 l D cJ cI cQ cR o x y vx vy fl fx fy hxr hyr hvx hvy hNx hNy
  · exact m_work_11 l D cJ cI cQ cR o x y vx vy fl fx fy hxr hyr hvx hvy hNx hNy
  · exact m_work_12 l D cJ cI cQ cR o x y vx vy fl fx fy hxr hyr hvx hvy hNx hNy
  · exact m_work_13 l D cJ cI cQ cR o x y vx vy fl fx fy hxr hyr hvx hvy hNx hNy
  · exact m_work_14 l D cJ cI cQ cR o x y vx vy fl fx fy hxr hyr hvx hvy hNx hNy
  · exact m_work_15 l D cJ cI cQ cR o x y vx vy fl fx fy hxr hyr hvx hvy hNx hNy
