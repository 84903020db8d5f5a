-- contract of the reference: work, operations 0 .. 8
theorem or_step {d i b : Nat} {T : Nat → Bool} (hb : b ≤ 1) (hbT : decide (b = 1) = T i) (hd : ∀ t, t < 32 → d.testBit t = (decide (32 * (i / 32) + t < i) && T (32 * (i / 32) + t))) (t : Nat) (ht : t < 32) : (d ||| b * 2 ^ (i % 32)).testBit t = (decide (32 * (i / 32) + t < i + 1) && T (32 * (i / 32) + t)) := by
  rw [or_bit hb, hd t ht]
  by_cases e : t = i % 32
  · have e2 : 32 * (i / 32) + t = i := by omega
    rw [e2, decide_eq_true e, decide_eq_false (Nat.lt_irrefl i), decide_eq_true (Nat.lt_succ_self i), hbT, Bool.false_and, Bool.false_or]
  · rw [decide_eq_false e, Bool.false_and, Bool.or_false]
    congr 1
    exact decide_eq_decide.mpr (by omega)
theorem il_s {d : Nat} (h : d < 2147483648) : (nI d).toInt64 = lN d := by
  rw [il_t (by omega), if_pos h]
theorem j_neg : ∀ m : Nat, m < 258 → 0 < m → lN (18446744073709551616 - m) < lN 0 := by decide +kernel
theorem j_sub {a b : Nat} (h : b ≤ a) : lN a - lN b = lN (a - b) := by
  rw [jN_sub (by omega), show a + 18446744073709551616 - b = 18446744073709551616 * 1 + (a - b) by omega, ← jN_mod, Nat.mul_add_mod, jN_mod]
theorem j_subn {a b : Nat} (h : a < b) (hb : b < 258) : lN a - lN b < lN 0 := by
  rw [jN_sub (by omega), show a + 18446744073709551616 - b = 18446744073709551616 - (b - a) by omega]
  exact j_neg _ (by omega) (by omega)
theorem opv_z {op a : Nat} (h1 : 3 ≤ op) (h2 : op ≤ 6) : opv op a 0 = 0 := by
  have e : ab 0 = 0 := by
    unfold ab
    rw [if_neg (by decide)]
  rcases (show op = 3 ∨ op = 4 ∨ op = 5 ∨ op = 6 by omega) with q | q | q | q <;> subst q
  · exact Nat.div_zero a
  · show (if (0 : Nat) = 0 then 0 else a % 0) = 0
    exact if_pos rfl
  · show sdv a 0 = 0
    unfold sdv
    rw [e, Nat.div_zero]
    split
    · rfl
    · exact Nat.mod_self _
  · show srm a 0 = 0
    unfold srm
    rw [if_pos e]
    split
    · exact Nat.mod_self _
    · rfl
theorem i_div4 : ∀ m : Nat, m < 32 → nI m / nI 4 = nI (m / 4) := by decide +kernel
theorem i_rem4 : ∀ m : Nat, m < 32 → nI m - nI m / nI 4 * nI 4 = nI (m % 4) := by decide +kernel
theorem i_sub31 : ∀ n : Nat, n < 32 → nI 31 - nI n = nI (31 - n) := by decide +kernel
theorem op12 {a b : Nat} (h : a < 32) : dg b ((31 - a) / 4) / 2 ^ (8 * ((31 - a) % 4)) % 256 = opv 12 a b := by
  show _ = if a < 32 then b / 2 ^ (8 * (31 - a)) % 256 else 0
  rw [if_pos h, ← by_8 b (31 - a), show 8 * (31 - a) / 32 = (31 - a) / 4 by omega, show 8 * (31 - a) % 32 = 8 * ((31 - a) % 4) by omega]
theorem iN_and255 {k : Nat} (h : k < 4294967296) : nI k &&& nI 255 = nI (k % 256) := pk_andN h 8 (by decide)
theorem NI_e {f : Nat → Int32} {v w : Nat} (h : NI f 8 v) (e : v = w) : NI f 8 w := e ▸ h
set_option maxHeartbeats 4000000 in
set_option maxRecDepth 100000 in
theorem m_work_0 (l : Launch) (D : va_G) (cJ cI cQ cR : ClassId) (o x y vx vy : Nat) (fl : Int32) (fx fy : Nat → Int32) (hxr : o + 2 ≤ x ∧ x < o + 18) (hyr : o + 2 ≤ y ∧ y < o + 18) (hvx : vx < 2 ^ 256) (hvy : vy < 2 ^ 256) (hNx : NI fx 8 vx) (hNy : NI fy 8 vy) : Met l y_M_work w_M_work { frames := 3, cells := 0, slots := 0, locals := 77 } (xP D vwCl (TY cJ cI cQ cR) [.ref o, .int (nI 0), .ref x, .ref y] (fun H => MB D cR o fl H ∧ SM cI o H ∧ hI H cI x 8 fx ∧ hI H cI y 8 fy)) (xQv (fun H0 H => XF (MS o) H0 H ∧ SM cI o H ∧ ∃ f : Nat → Int32, hI H cI (o + 20) 8 f ∧ NI f 8 (opv 0 vx vy))) 0 0 (MS o) := by
  refine Met.ofW (cc := b_M_work) (maxL := 12) (ret := none) (by decide) rfl ?_
  intro p e s m args below meth c s₁ B hml hv
  obtain ⟨rfl, hK, ⟨hO, hSM, h_X, h_Y⟩⟩ := hv
  have hx := B.exec
  have hb := B.bytes
  have hr := B.returns
  have hts := atoms_spec (ws := w_M_work) B.pre
  have htw : ∀ w ∈ WT, w.before _ s = true := fun w h => hts w (List.mem_cons_of_mem _ h)
  have hown : s.vm.findClass "WideNumbersModel" = some m.cls := findClass_of_methodNamed B.named
  have hlocks := B.notSynchronized
  have hJ : ArrOfT s cJ .long := (hK.2 0 _ rfl).1
  have hI9 : ArrOfT s cI .int := (hK.2 1 _ rfl).1
  have hl := lv_entry ([.ref o, .int (nI 0), .ref x, .ref y]) (n := 12) (Nat.le_of_ble_eq_true rfl)
  rw [lg_entry_eq]
  generalize (lg_sl ([.ref o, .int (nI 0), .ref x, .ref y]) ++ List.replicate (12 - (lg_sl ([.ref o, .int (nI 0), .ref x, .ref y])).length) Slot.unset).toArray = ls at hl ⊢
  have hl : lv_has ls 12 [(0, .ref o), (1, .int (nI 0)), (2, .ref x), (3, .ref y)] := hl
  obtain ⟨⟨f18, h_18⟩, ⟨f19, h_19⟩, ⟨f20, h_20⟩, ⟨f21, h_21, hN21⟩, ⟨f22, h_22⟩, ⟨f23, h_23⟩, ⟨f24, h_24⟩⟩ := hSM
  have hG : XF (MS o) s.heap s.heap := XF.rf
  have hlo : ∀ q ∈ ([] : List Loc), MS o q.base := fun _ h => nomatch h
  refine lv_iload_n hx hb d_M_work_0 rfl (lv_at hl 1 rfl) ?_
  refine lv_iconst (v := nI 2) hx hb d_M_work_1 (by decide) ?_
  refine lv_icmp_le (tgt := 22) hx hb d_M_work_2 (by decide) (fun _ => ?_) (fun h => absurd (by decide) h)
  refine lv_iconst (v := nI 0) hx hb d_M_work_22 (by decide) ?_
  refine lv_istore hx hb d_M_work_23 hl (by decide) rfl (fun ls hl => ?_)
  have hl : lv_has ls 12 [(4, .int (nI 0)), (0, .ref o), (1, .int (nI 0)), (2, .ref x), (3, .ref y)] := hl
  refine lv_iload hx hb d_M_work_25 (lv_at hl 0 rfl) ?_
  refine lv_if_eq (tgt := 40) hx hb d_M_work_27 (by decide) (fun _ => ?_) (fun h => absurd (by decide) h)
  refine lv_iload_n hx hb d_M_work_40 rfl (lv_at hl 2 rfl) ?_
  refine lv_if_ne (tgt := 58) hx hb d_M_work_41 (by decide) (fun h => absurd (by decide) h) (fun _ => ?_)
  refine lv_aload_n hx hb d_M_work_44 rfl (lv_at hl 1 rfl) ?_
  refine va_get (D := D) (ci := 1) (v := .ref (o + 20)) (C := "WideNumbersModel") (T := F_M) (N := 9) hx hb htw inM hown hK hO.1 0 rfl rfl 4 (by decide) (htw _ kw_280) (fun _ h9 => h9) rfl d_M_work_45 ?_
  refine lv_aload_n hx hb d_M_work_48 rfl (lv_at hl 3 rfl) ?_
  refine lv_aload_n hx hb d_M_work_49 rfl (lv_at hl 4 rfl) ?_
  refine x_calli (A := MS o) (va_runS (As := [.ref (o + 20), .ref x, .ref y]) (rest := []) ⟨hx, hb, hml, hown, htw⟩ (m_add l D cJ cI cQ cR (o + 20) x y vx vy f20 fx fy (by omega) (by omega) hvx hvy hNx hNy) (xcS 3 htw kw_345 kw_2 kw_343 kw_344 rfl rfl ⟨by decide, by decide, by decide +kernel⟩ ⟨Nat.le_of_ble_eq_true rfl, Nat.le_of_ble_eq_true rfl⟩) (xPre hK ⟨h_20, h_X, h_Y⟩) rfl rfl hl.1 rfl (lv_room (Nat.le_of_ble_eq_true rfl)) d_M_work_50 ⟨Nat.le_of_ble_eq_true rfl, Nat.le_of_ble_eq_true rfl⟩) hlo (fun q h => by have h : q = o + 20 := h; rw [h]; exact ⟨by omega, by omega⟩) (fun r1 H1 locs1 hB1 hlo => ?_)
  obtain ⟨hF1, c1, v1, f1, rfl, hf1, hN1, hv1, he1, hc1⟩ := hB1
  have h_18 := hI_f h_18 hF1 (show o + 18 ≠ o + 20 by omega)
  have h_19 := hI_f h_19 hF1 (show o + 19 ≠ o + 20 by omega)
  have h_20 := hf1
  have h_21 := hI_f h_21 hF1 (show o + 21 ≠ o + 20 by omega)
  have h_22 := hI_f h_22 hF1 (show o + 22 ≠ o + 20 by omega)
  have h_23 := hI_f h_23 hF1 (show o + 23 ≠ o + 20 by omega)
  have h_24 := hI_f h_24 hF1 (show o + 24 ≠ o + 20 by omega)
  have h_X := hI_f h_X hF1 (show x ≠ o + 20 by omega)
  have h_Y := hI_f h_Y hF1 (show y ≠ o + 20 by omega)
  have hO := hO.f1 hF1 (by omega)
  have hG := MS1 hG hF1 (by omega)
  refine lv_istore hx hb d_M_work_53 hl (by decide) rfl (fun ls hl => ?_)
  have hl : lv_has ls 12 [(5, .int (nI c1)), (4, .int (nI 0)), (0, .ref o), (1, .int (nI 0)), (2, .ref x), (3, .ref y)] := hl
  refine lv_goto (tgt := 468) hx hb d_M_work_55 (by decide) ?_
  exact W.vret hx hb hr (fun t ht hW => ⟨rfl, by rw [ht]; exact hG, by rw [ht]; exact ⟨⟨_, h_18⟩, ⟨_, h_19⟩, ⟨_, h_20⟩, ⟨_, h_21, hN21⟩, ⟨_, h_22⟩, ⟨_, h_23⟩, ⟨_, h_24⟩⟩, _, by rw [ht]; exact h_20, NI_e hN1 (show v1 = (vx + vy) % 2 ^ 256 by omega)⟩) hlo d_M_work_468
set_option maxHeartbeats 4000000 in
set_option maxRecDepth 100000 in
theorem m_work_1 (l : Launch) (D : va_G) (cJ cI cQ cR : ClassId) (o x y vx vy : Nat) (fl : Int32) (fx fy : Nat → Int32) (hxr : o + 2 ≤ x ∧ x < o + 18) (hyr : o + 2 ≤ y ∧ y < o + 18) (hvx : vx < 2 ^ 256) (hvy : vy < 2 ^ 256) (hNx : NI fx 8 vx) (hNy : NI fy 8 vy) : Met l y_M_work w_M_work { frames := 3, cells := 0, slots := 0, locals := 77 } (xP D vwCl (TY cJ cI cQ cR) [.ref o, .int (nI 1), .ref x, .ref y] (fun H => MB D cR o fl H ∧ SM cI o H ∧ hI H cI x 8 fx ∧ hI H cI y 8 fy)) (xQv (fun H0 H => XF (MS o) H0 H ∧ SM cI o H ∧ ∃ f : Nat → Int32, hI H cI (o + 20) 8 f ∧ NI f 8 (opv 1 vx vy))) 0 0 (MS o) := by
  refine Met.ofW (cc := b_M_work) (maxL := 12) (ret := none) (by decide) rfl ?_
  intro p e s m args below meth c s₁ B hml hv
  obtain ⟨rfl, hK, ⟨hO, hSM, h_X, h_Y⟩⟩ := hv
  have hx := B.exec
  have hb := B.bytes
  have hr := B.returns
  have hts := atoms_spec (ws := w_M_work) B.pre
  have htw : ∀ w ∈ WT, w.before _ s = true := fun w h => hts w (List.mem_cons_of_mem _ h)
  have hown : s.vm.findClass "WideNumbersModel" = some m.cls := findClass_of_methodNamed B.named
  have hlocks := B.notSynchronized
  have hJ : ArrOfT s cJ .long := (hK.2 0 _ rfl).1
  have hI9 : ArrOfT s cI .int := (hK.2 1 _ rfl).1
  have hl := lv_entry ([.ref o, .int (nI 1), .ref x, .ref y]) (n := 12) (Nat.le_of_ble_eq_true rfl)
  rw [lg_entry_eq]
  generalize (lg_sl ([.ref o, .int (nI 1), .ref x, .ref y]) ++ List.replicate (12 - (lg_sl ([.ref o, .int (nI 1), .ref x, .ref y])).length) Slot.unset).toArray = ls at hl ⊢
  have hl : lv_has ls 12 [(0, .ref o), (1, .int (nI 1)), (2, .ref x), (3, .ref y)] := hl
  obtain ⟨⟨f18, h_18⟩, ⟨f19, h_19⟩, ⟨f20, h_20⟩, ⟨f21, h_21, hN21⟩, ⟨f22, h_22⟩, ⟨f23, h_23⟩, ⟨f24, h_24⟩⟩ := hSM
  have hG : XF (MS o) s.heap s.heap := XF.rf
  have hlo : ∀ q ∈ ([] : List Loc), MS o q.base := fun _ h => nomatch h
  refine lv_iload_n hx hb d_M_work_0 rfl (lv_at hl 1 rfl) ?_
  refine lv_iconst (v := nI 2) hx hb d_M_work_1 (by decide) ?_
  refine lv_icmp_le (tgt := 22) hx hb d_M_work_2 (by decide) (fun _ => ?_) (fun h => absurd (by decide) h)
  refine lv_iconst (v := nI 0) hx hb d_M_work_22 (by decide) ?_
  refine lv_istore hx hb d_M_work_23 hl (by decide) rfl (fun ls hl => ?_)
  have hl : lv_has ls 12 [(4, .int (nI 0)), (0, .ref o), (1, .int (nI 1)), (2, .ref x), (3, .ref y)] := hl
  refine lv_iload hx hb d_M_work_25 (lv_at hl 0 rfl) ?_
  refine lv_if_eq (tgt := 40) hx hb d_M_work_27 (by decide) (fun _ => ?_) (fun h => absurd (by decide) h)
  refine lv_iload_n hx hb d_M_work_40 rfl (lv_at hl 2 rfl) ?_
  refine lv_if_ne (tgt := 58) hx hb d_M_work_41 (by decide) (fun _ => ?_) (fun h => absurd h (by decide))
  refine lv_iload_n hx hb d_M_work_58 rfl (lv_at hl 2 rfl) ?_
  refine lv_iconst (v := nI 1) hx hb d_M_work_59 (by decide) ?_
  refine lv_icmp_ne (tgt := 75) hx hb d_M_work_60 (by decide) (fun h => absurd (by decide) h) (fun _ => ?_)
  refine lv_aload_n hx hb d_M_work_63 rfl (lv_at hl 1 rfl) ?_
  refine va_get (D := D) (ci := 1) (v := .ref (o + 20)) (C := "WideNumbersModel") (T := F_M) (N := 9) hx hb htw inM hown hK hO.1 0 rfl rfl 4 (by decide) (htw _ kw_280) (fun _ h9 => h9) rfl d_M_work_64 ?_
  refine lv_aload_n hx hb d_M_work_67 rfl (lv_at hl 3 rfl) ?_
  refine lv_aload_n hx hb d_M_work_68 rfl (lv_at hl 4 rfl) ?_
  refine x_callv (A := MS o) (va_runS (As := [.ref (o + 20), .ref x, .ref y]) (rest := []) ⟨hx, hb, hml, hown, htw⟩ (m_subtract l D cJ cI cQ cR (o + 20) x y vx vy f20 fx fy (by omega) hvx hvy hNx hNy) (xcS 3 htw kw_348 kw_2 kw_346 kw_347 rfl rfl ⟨by decide, by decide, by decide +kernel⟩ ⟨Nat.le_of_ble_eq_true rfl, Nat.le_of_ble_eq_true rfl⟩) (xPre hK ⟨h_20, h_X, h_Y⟩) rfl rfl hl.1 rfl (lv_room (Nat.le_of_ble_eq_true rfl)) d_M_work_69 ⟨Nat.le_of_ble_eq_true rfl, Nat.le_of_ble_eq_true rfl⟩) hlo (fun q h => by have h : q = o + 20 := h; rw [h]; exact ⟨by omega, by omega⟩) (fun H1 locs1 hB1 hlo => ?_)
  obtain ⟨hF1, v1, b1, f1, hf1, hN1, hv1, he1, hc1⟩ := hB1
  have h_18 := hI_f h_18 hF1 (show o + 18 ≠ o + 20 by omega)
  have h_19 := hI_f h_19 hF1 (show o + 19 ≠ o + 20 by omega)
  have h_20 := hf1
  have h_21 := hI_f h_21 hF1 (show o + 21 ≠ o + 20 by omega)
  have h_22 := hI_f h_22 hF1 (show o + 22 ≠ o + 20 by omega)
  have h_23 := hI_f h_23 hF1 (show o + 23 ≠ o + 20 by omega)
  have h_24 := hI_f h_24 hF1 (show o + 24 ≠ o + 20 by omega)
  have h_X := hI_f h_X hF1 (show x ≠ o + 20 by omega)
  have h_Y := hI_f h_Y hF1 (show y ≠ o + 20 by omega)
  have hO := hO.f1 hF1 (by omega)
  have hG := MS1 hG hF1 (by omega)
  refine lv_goto (tgt := 468) hx hb d_M_work_72 (by decide) ?_
  exact W.vret hx hb hr (fun t ht hW => ⟨rfl, by rw [ht]; exact hG, by rw [ht]; exact ⟨⟨_, h_18⟩, ⟨_, h_19⟩, ⟨_, h_20⟩, ⟨_, h_21, hN21⟩, ⟨_, h_22⟩, ⟨_, h_23⟩, ⟨_, h_24⟩⟩, _, by rw [ht]; exact h_20, NI_e hN1 (show v1 = (vx + (2 ^ 256 - vy)) % 2 ^ 256 by omega)⟩) hlo d_M_work_468
set_option maxHeartbeats 4000000 in
set_option maxRecDepth 100000 in
theorem m_work_2 (l : Launch) (D : va_G) (cJ cI cQ cR : ClassId) (o x y vx vy : Nat) (fl : Int32) (fx fy : Nat → Int32) (hxr : o + 2 ≤ x ∧ x < o + 18) (hyr : o + 2 ≤ y ∧ y < o + 18) (hvx : vx < 2 ^ 256) (hvy : vy < 2 ^ 256) (hNx : NI fx 8 vx) (hNy : NI fy 8 vy) : Met l y_M_work w_M_work { frames := 3, cells := 0, slots := 0, locals := 77 } (xP D vwCl (TY cJ cI cQ cR) [.ref o, .int (nI 2), .ref x, .ref y] (fun H => MB D cR o fl H ∧ SM cI o H ∧ hI H cI x 8 fx ∧ hI H cI y 8 fy)) (xQv (fun H0 H => XF (MS o) H0 H ∧ SM cI o H ∧ ∃ f : Nat → Int32, hI H cI (o + 20) 8 f ∧ NI f 8 (opv 2 vx vy))) 0 0 (MS o) := by
  refine Met.ofW (cc := b_M_work) (maxL := 12) (ret := none) (by decide) rfl ?_
  intro p e s m args below meth c s₁ B hml hv
  obtain ⟨rfl, hK, ⟨hO, hSM, h_X, h_Y⟩⟩ := hv
  have hx := B.exec
  have hb := B.bytes
  have hr := B.returns
  have hts := atoms_spec (ws := w_M_work) B.pre
  have htw : ∀ w ∈ WT, w.before _ s = true := fun w h => hts w (List.mem_cons_of_mem _ h)
  have hown : s.vm.findClass "WideNumbersModel" = some m.cls := findClass_of_methodNamed B.named
  have hlocks := B.notSynchronized
  have hJ : ArrOfT s cJ .long := (hK.2 0 _ rfl).1
  have hI9 : ArrOfT s cI .int := (hK.2 1 _ rfl).1
  have hl := lv_entry ([.ref o, .int (nI 2), .ref x, .ref y]) (n := 12) (Nat.le_of_ble_eq_true rfl)
  rw [lg_entry_eq]
  generalize (lg_sl ([.ref o, .int (nI 2), .ref x, .ref y]) ++ List.replicate (12 - (lg_sl ([.ref o, .int (nI 2), .ref x, .ref y])).length) Slot.unset).toArray = ls at hl ⊢
  have hl : lv_has ls 12 [(0, .ref o), (1, .int (nI 2)), (2, .ref x), (3, .ref y)] := hl
  obtain ⟨⟨f18, h_18⟩, ⟨f19, h_19⟩, ⟨f20, h_20⟩, ⟨f21, h_21, hN21⟩, ⟨f22, h_22⟩, ⟨f23, h_23⟩, ⟨f24, h_24⟩⟩ := hSM
  have hG : XF (MS o) s.heap s.heap := XF.rf
  have hlo : ∀ q ∈ ([] : List Loc), MS o q.base := fun _ h => nomatch h
  refine lv_iload_n hx hb d_M_work_0 rfl (lv_at hl 1 rfl) ?_
  refine lv_iconst (v := nI 2) hx hb d_M_work_1 (by decide) ?_
  refine lv_icmp_le (tgt := 22) hx hb d_M_work_2 (by decide) (fun _ => ?_) (fun h => absurd (by decide) h)
  refine lv_iconst (v := nI 0) hx hb d_M_work_22 (by decide) ?_
  refine lv_istore hx hb d_M_work_23 hl (by decide) rfl (fun ls hl => ?_)
  have hl : lv_has ls 12 [(4, .int (nI 0)), (0, .ref o), (1, .int (nI 2)), (2, .ref x), (3, .ref y)] := hl
  refine lv_iload hx hb d_M_work_25 (lv_at hl 0 rfl) ?_
  refine lv_if_eq (tgt := 40) hx hb d_M_work_27 (by decide) (fun _ => ?_) (fun h => absurd (by decide) h)
  refine lv_iload_n hx hb d_M_work_40 rfl (lv_at hl 2 rfl) ?_
  refine lv_if_ne (tgt := 58) hx hb d_M_work_41 (by decide) (fun _ => ?_) (fun h => absurd h (by decide))
  refine lv_iload_n hx hb d_M_work_58 rfl (lv_at hl 2 rfl) ?_
  refine lv_iconst (v := nI 1) hx hb d_M_work_59 (by decide) ?_
  refine lv_icmp_ne (tgt := 75) hx hb d_M_work_60 (by decide) (fun _ => ?_) (fun h => absurd h (by decide))
  refine lv_iload_n hx hb d_M_work_75 rfl (lv_at hl 2 rfl) ?_
  refine lv_iconst (v := nI 2) hx hb d_M_work_76 (by decide) ?_
  refine lv_icmp_ne (tgt := 100) hx hb d_M_work_77 (by decide) (fun h => absurd (by decide) h) (fun _ => ?_)
  refine lv_aload_n hx hb d_M_work_80 rfl (lv_at hl 1 rfl) ?_
  refine lv_aload_n hx hb d_M_work_81 rfl (lv_at hl 3 rfl) ?_
  refine lv_aload_n hx hb d_M_work_82 rfl (lv_at hl 4 rfl) ?_
  refine x_callv (A := MS o) (va_runV (As := [.ref x, .ref y]) (rest := []) ⟨hx, hb, hml, hown, htw⟩ (m_multiply l D cJ cI cQ cR o x y vx vy fl f22 fx fy (by omega) (by omega) hvx hvy hNx hNy) (xcV 2 htw kw_352 kw_2 kw_349 kw_351 ks_M_multiply rfl rfl ⟨by decide, by decide, by decide +kernel⟩ ⟨Nat.le_of_ble_eq_true rfl, Nat.le_of_ble_eq_true rfl⟩) (xPreV hK (hO.rv hK) ⟨hO, h_22, h_X, h_Y⟩) rfl rfl hl.1 rfl (lv_room (Nat.le_of_ble_eq_true rfl)) d_M_work_83 ⟨Nat.le_of_ble_eq_true rfl, Nat.le_of_ble_eq_true rfl⟩) hlo (fun q h => by have h : q = o + 22 := h; rw [h]; exact ⟨by omega, by omega⟩) (fun H2 locs2 hB2 hlo => ?_)
  obtain ⟨hF2, f2, hf2, hN2⟩ := hB2
  have h_18 := hI_f h_18 hF2 (show o + 18 ≠ o + 22 by omega)
  have h_19 := hI_f h_19 hF2 (show o + 19 ≠ o + 22 by omega)
  have h_20 := hI_f h_20 hF2 (show o + 20 ≠ o + 22 by omega)
  have h_21 := hI_f h_21 hF2 (show o + 21 ≠ o + 22 by omega)
  have h_22 := hf2
  have h_23 := hI_f h_23 hF2 (show o + 23 ≠ o + 22 by omega)
  have h_24 := hI_f h_24 hF2 (show o + 24 ≠ o + 22 by omega)
  have h_X := hI_f h_X hF2 (show x ≠ o + 22 by omega)
  have h_Y := hI_f h_Y hF2 (show y ≠ o + 22 by omega)
  have hO := hO.f1 hF2 (by omega)
  have hG := MS1 hG hF2 (by omega)
  refine lv_aload_n hx hb d_M_work_86 rfl (lv_at hl 1 rfl) ?_
  refine va_get (D := D) (ci := 1) (v := .ref (o + 20)) (C := "WideNumbersModel") (T := F_M) (N := 9) hx hb htw inM hown hK hO.1 0 rfl rfl 4 (by decide) (htw _ kw_280) (fun _ h9 => h9) rfl d_M_work_87 ?_
  refine lv_aload_n hx hb d_M_work_90 rfl (lv_at hl 1 rfl) ?_
  refine va_get (D := D) (ci := 1) (v := .ref (o + 22)) (C := "WideNumbersModel") (T := F_M) (N := 9) hx hb htw inM hown hK hO.1 0 rfl rfl 6 (by decide) (htw _ kw_282) (fun _ h9 => h9) rfl d_M_work_91 ?_
  refine x_callv (A := MS o) (va_runS (As := [.ref (o + 20), .ref (o + 22)]) (rest := []) ⟨hx, hb, hml, hown, htw⟩ (m_take l D cJ cI cQ cR (o + 20) (o + 22) 17 (vx * vy) f20 f2 (by decide) (by omega) (fun j hj => hN2 j (by omega))) (xcS 2 htw kw_355 kw_2 kw_353 kw_354 rfl rfl ⟨by decide, by decide, by decide +kernel⟩ ⟨Nat.le_of_ble_eq_true rfl, Nat.le_of_ble_eq_true rfl⟩) (xPre hK ⟨h_20, h_22⟩) rfl rfl hl.1 rfl (lv_room (Nat.le_of_ble_eq_true rfl)) d_M_work_94 ⟨Nat.le_of_ble_eq_true rfl, Nat.le_of_ble_eq_true rfl⟩) hlo (fun q h => by have h : q = o + 20 := h; rw [h]; exact ⟨by omega, by omega⟩) (fun H3 locs3 hB3 hlo => ?_)
  obtain ⟨hF3, f3, hf3, hN3⟩ := hB3
  have h_18 := hI_f h_18 hF3 (show o + 18 ≠ o + 20 by omega)
  have h_19 := hI_f h_19 hF3 (show o + 19 ≠ o + 20 by omega)
  have h_20 := hf3
  have h_21 := hI_f h_21 hF3 (show o + 21 ≠ o + 20 by omega)
  have h_22 := hI_f h_22 hF3 (show o + 22 ≠ o + 20 by omega)
  have h_23 := hI_f h_23 hF3 (show o + 23 ≠ o + 20 by omega)
  have h_24 := hI_f h_24 hF3 (show o + 24 ≠ o + 20 by omega)
  have h_X := hI_f h_X hF3 (show x ≠ o + 20 by omega)
  have h_Y := hI_f h_Y hF3 (show y ≠ o + 20 by omega)
  have hO := hO.f1 hF3 (by omega)
  have hG := MS1 hG hF3 (by omega)
  refine lv_goto (tgt := 468) hx hb d_M_work_97 (by decide) ?_
  exact W.vret hx hb hr (fun t ht hW => ⟨rfl, by rw [ht]; exact hG, by rw [ht]; exact ⟨⟨_, h_18⟩, ⟨_, h_19⟩, ⟨_, h_20⟩, ⟨_, h_21, hN21⟩, ⟨_, h_22⟩, ⟨_, h_23⟩, ⟨_, h_24⟩⟩, _, by rw [ht]; exact h_20, NI_m hN3⟩) hlo d_M_work_468
set_option maxHeartbeats 4000000 in
set_option maxRecDepth 100000 in
theorem m_work_3 (l : Launch) (D : va_G) (cJ cI cQ cR : ClassId) (o x y vx vy : Nat) (fl : Int32) (fx fy : Nat → Int32) (hxr : o + 2 ≤ x ∧ x < o + 18) (hyr : o + 2 ≤ y ∧ y < o + 18) (hvx : vx < 2 ^ 256) (hvy : vy < 2 ^ 256) (hNx : NI fx 8 vx) (hNy : NI fy 8 vy) : Met l y_M_work w_M_work { frames := 3, cells := 0, slots := 0, locals := 77 } (xP D vwCl (TY cJ cI cQ cR) [.ref o, .int (nI 3), .ref x, .ref y] (fun H => MB D cR o fl H ∧ SM cI o H ∧ hI H cI x 8 fx ∧ hI H cI y 8 fy)) (xQv (fun H0 H => XF (MS o) H0 H ∧ SM cI o H ∧ ∃ f : Nat → Int32, hI H cI (o + 20) 8 f ∧ NI f 8 (opv 3 vx vy))) 0 0 (MS o) := by
  refine Met.ofW (cc := b_M_work) (maxL := 12) (ret := none) (by decide) rfl ?_
  intro p e s m args below meth c s₁ B hml hv
  obtain ⟨rfl, hK, ⟨hO, hSM, h_X, h_Y⟩⟩ := hv
  have hx := B.exec
  have hb := B.bytes
  have hr := B.returns
  have hts := atoms_spec (ws := w_M_work) B.pre
  have htw : ∀ w ∈ WT, w.before _ s = true := fun w h => hts w (List.mem_cons_of_mem _ h)
  have hown : s.vm.findClass "WideNumbersModel" = some m.cls := findClass_of_methodNamed B.named
  have hlocks := B.notSynchronized
  have hJ : ArrOfT s cJ .long := (hK.2 0 _ rfl).1
  have hI9 : ArrOfT s cI .int := (hK.2 1 _ rfl).1
  have hl := lv_entry ([.ref o, .int (nI 3), .ref x, .ref y]) (n := 12) (Nat.le_of_ble_eq_true rfl)
  rw [lg_entry_eq]
  generalize (lg_sl ([.ref o, .int (nI 3), .ref x, .ref y]) ++ List.replicate (12 - (lg_sl ([.ref o, .int (nI 3), .ref x, .ref y])).length) Slot.unset).toArray = ls at hl ⊢
  have hl : lv_has ls 12 [(0, .ref o), (1, .int (nI 3)), (2, .ref x), (3, .ref y)] := hl
  obtain ⟨⟨f18, h_18⟩, ⟨f19, h_19⟩, ⟨f20, h_20⟩, ⟨f21, h_21, hN21⟩, ⟨f22, h_22⟩, ⟨f23, h_23⟩, ⟨f24, h_24⟩⟩ := hSM
  have hG : XF (MS o) s.heap s.heap := XF.rf
  have hlo : ∀ q ∈ ([] : List Loc), MS o q.base := fun _ h => nomatch h
  refine lv_iload_n hx hb d_M_work_0 rfl (lv_at hl 1 rfl) ?_
  refine lv_iconst (v := nI 2) hx hb d_M_work_1 (by decide) ?_
  refine lv_icmp_le (tgt := 22) hx hb d_M_work_2 (by decide) (fun h => absurd h (by decide)) (fun _ => ?_)
  refine lv_iload_n hx hb d_M_work_5 rfl (lv_at hl 1 rfl) ?_
  refine lv_bipush (v := nI 7) hx hb d_M_work_6 (by decide) ?_
  refine lv_icmp_ge (tgt := 22) hx hb d_M_work_8 (by decide) (fun h => absurd h (by decide)) (fun _ => ?_)
  refine lv_aload_n hx hb d_M_work_11 rfl (lv_at hl 3 rfl) ?_
  refine x_calli (A := MS o) (va_runS (As := [.ref y]) (rest := []) ⟨hx, hb, hml, hown, htw⟩ (m_zero l D cJ cI cQ cR y vy fy hvy hNy) (xcS 1 htw kw_339 kw_2 kw_337 kw_338 rfl rfl ⟨by decide, by decide, by decide +kernel⟩ ⟨Nat.le_of_ble_eq_true rfl, Nat.le_of_ble_eq_true rfl⟩) (xPre hK h_Y) rfl rfl hl.1 rfl (lv_room (Nat.le_of_ble_eq_true rfl)) d_M_work_12 ⟨Nat.le_of_ble_eq_true rfl, Nat.le_of_ble_eq_true rfl⟩) hlo (fun _ h => h.elim) (fun r1 H1 locs1 hB1 hlo => ?_)
  obtain ⟨rfl, rfl⟩ := hB1
  by_cases hvp : vy = 0
  · refine x_topi (v := nI 1) (by rw [if_pos hvp]; rfl) ?_
    refine lv_if_eq (tgt := 22) hx hb d_M_work_15 (by decide) (fun h => absurd h (by decide)) (fun _ => ?_)
    refine lv_iconst (v := nI 1) hx hb d_M_work_18 (by decide) ?_
    refine lv_goto (tgt := 23) hx hb d_M_work_19 (by decide) ?_
    refine lv_istore hx hb d_M_work_23 hl (by decide) rfl (fun ls hl => ?_)
    have hl : lv_has ls 12 [(4, .int (nI 1)), (0, .ref o), (1, .int (nI 3)), (2, .ref x), (3, .ref y)] := hl
    refine lv_iload hx hb d_M_work_25 (lv_at hl 0 rfl) ?_
    refine lv_if_eq (tgt := 40) hx hb d_M_work_27 (by decide) (fun h => absurd h (by decide)) (fun _ => ?_)
    refine lv_aload_n hx hb d_M_work_30 rfl (lv_at hl 1 rfl) ?_
    refine va_get (D := D) (ci := 1) (v := .ref (o + 20)) (C := "WideNumbersModel") (T := F_M) (N := 9) hx hb htw inM hown hK hO.1 0 rfl rfl 4 (by decide) (htw _ kw_280) (fun _ h9 => h9) rfl d_M_work_31 ?_
    refine x_callv (A := MS o) (va_runS (As := [.ref (o + 20)]) (rest := []) ⟨hx, hb, hml, hown, htw⟩ (m_clear l D cJ cI cQ cR (o + 20) f20) (xcS 1 htw kw_342 kw_2 kw_340 kw_341 rfl rfl ⟨by decide, by decide, by decide +kernel⟩ ⟨Nat.le_of_ble_eq_true rfl, Nat.le_of_ble_eq_true rfl⟩) (xPre hK h_20) rfl rfl hl.1 rfl (lv_room (Nat.le_of_ble_eq_true rfl)) d_M_work_34 ⟨Nat.le_of_ble_eq_true rfl, Nat.le_of_ble_eq_true rfl⟩) hlo (fun q h => by have h : q = o + 20 := h; rw [h]; exact ⟨by omega, by omega⟩) (fun H2 locs2 hB2 hlo => ?_)
    obtain ⟨hF2, f2, hf2, hN2⟩ := hB2
    have h_18 := hI_f h_18 hF2 (show o + 18 ≠ o + 20 by omega)
    have h_19 := hI_f h_19 hF2 (show o + 19 ≠ o + 20 by omega)
    have h_20 := hf2
    have h_21 := hI_f h_21 hF2 (show o + 21 ≠ o + 20 by omega)
    have h_22 := hI_f h_22 hF2 (show o + 22 ≠ o + 20 by omega)
    have h_23 := hI_f h_23 hF2 (show o + 23 ≠ o + 20 by omega)
    have h_24 := hI_f h_24 hF2 (show o + 24 ≠ o + 20 by omega)
    have h_X := hI_f h_X hF2 (show x ≠ o + 20 by omega)
    have h_Y := hI_f h_Y hF2 (show y ≠ o + 20 by omega)
    have hO := hO.f1 hF2 (by omega)
    have hG := MS1 hG hF2 (by omega)
    refine lv_goto (tgt := 468) hx hb d_M_work_37 (by decide) ?_
    exact W.vret hx hb hr (fun t ht hW => ⟨rfl, by rw [ht]; exact hG, by rw [ht]; exact ⟨⟨_, h_18⟩, ⟨_, h_19⟩, ⟨_, h_20⟩, ⟨_, h_21, hN21⟩, ⟨_, h_22⟩, ⟨_, h_23⟩, ⟨_, h_24⟩⟩, _, by rw [ht]; exact h_20, by rw [hvp, opv_z (by decide) (by decide)]; exact hN2⟩) hlo d_M_work_468
  · refine x_topi (v := nI 0) (by rw [if_neg hvp]; rfl) ?_
    have hvp : 0 < vy := by omega
    refine lv_if_eq (tgt := 22) hx hb d_M_work_15 (by decide) (fun _ => ?_) (fun h => absurd (by decide) h)
    refine lv_iconst (v := nI 0) hx hb d_M_work_22 (by decide) ?_
    refine lv_istore hx hb d_M_work_23 hl (by decide) rfl (fun ls hl => ?_)
    have hl : lv_has ls 12 [(4, .int (nI 0)), (0, .ref o), (1, .int (nI 3)), (2, .ref x), (3, .ref y)] := hl
    refine lv_iload hx hb d_M_work_25 (lv_at hl 0 rfl) ?_
    refine lv_if_eq (tgt := 40) hx hb d_M_work_27 (by decide) (fun _ => ?_) (fun h => absurd (by decide) h)
    refine lv_iload_n hx hb d_M_work_40 rfl (lv_at hl 2 rfl) ?_
    refine lv_if_ne (tgt := 58) hx hb d_M_work_41 (by decide) (fun _ => ?_) (fun h => absurd h (by decide))
    refine lv_iload_n hx hb d_M_work_58 rfl (lv_at hl 2 rfl) ?_
    refine lv_iconst (v := nI 1) hx hb d_M_work_59 (by decide) ?_
    refine lv_icmp_ne (tgt := 75) hx hb d_M_work_60 (by decide) (fun _ => ?_) (fun h => absurd h (by decide))
    refine lv_iload_n hx hb d_M_work_75 rfl (lv_at hl 2 rfl) ?_
    refine lv_iconst (v := nI 2) hx hb d_M_work_76 (by decide) ?_
    refine lv_icmp_ne (tgt := 100) hx hb d_M_work_77 (by decide) (fun _ => ?_) (fun h => absurd h (by decide))
    refine lv_iload_n hx hb d_M_work_100 rfl (lv_at hl 2 rfl) ?_
    refine lv_iconst (v := nI 5) hx hb d_M_work_101 (by decide) ?_
    refine lv_icmp_ge (tgt := 137) hx hb d_M_work_102 (by decide) (fun h => absurd h (by decide)) (fun _ => ?_)
    refine lv_aload_n hx hb d_M_work_105 rfl (lv_at hl 1 rfl) ?_
    refine lv_aload_n hx hb d_M_work_106 rfl (lv_at hl 3 rfl) ?_
    refine lv_aload_n hx hb d_M_work_107 rfl (lv_at hl 4 rfl) ?_
    refine x_callv (A := MS o) (va_runV (As := [.ref x, .ref y]) (rest := []) ⟨hx, hb, hml, hown, htw⟩ (m_divide l D cJ cI cQ cR o x y vx vy fl f22 f23 f24 fx fy (by omega) (by omega) hvx hvy hvp hNx hNy) (xcV 2 htw kw_359 kw_2 kw_356 kw_358 ks_M_divide rfl rfl ⟨by decide, by decide, by decide +kernel⟩ ⟨Nat.le_of_ble_eq_true rfl, Nat.le_of_ble_eq_true rfl⟩) (xPreV hK (hO.rv hK) ⟨hO, h_22, h_23, h_24, h_X, h_Y⟩) rfl rfl hl.1 rfl (lv_room (Nat.le_of_ble_eq_true rfl)) d_M_work_108 ⟨Nat.le_of_ble_eq_true rfl, Nat.le_of_ble_eq_true rfl⟩) hlo (fun q h => by rcases h with h | h | h <;> (rw [h]; exact ⟨by omega, by omega⟩)) (fun H7 locs7 hB7 hlo => ?_)
    obtain ⟨hF7, ⟨fw7, hw7⟩, f7, g7, hf7, hN7, hg7, hM7⟩ := hB7
    have h_18 := hI_f h_18 hF7 (nDv (by omega))
    have h_19 := hI_f h_19 hF7 (nDv (by omega))
    have h_20 := hI_f h_20 hF7 (nDv (by omega))
    have h_21 := hI_f h_21 hF7 (nDv (by omega))
    have h_22 := hw7
    have h_23 := hf7
    have h_24 := hg7
    have h_X := hI_f h_X hF7 (nDv (by omega))
    have h_Y := hI_f h_Y hF7 (nDv (by omega))
    have hO := hO.fd hF7
    have hG := MSd hG hF7
    refine lv_aload_n hx hb d_M_work_111 rfl (lv_at hl 1 rfl) ?_
    refine va_get (D := D) (ci := 1) (v := .ref (o + 20)) (C := "WideNumbersModel") (T := F_M) (N := 9) hx hb htw inM hown hK hO.1 0 rfl rfl 4 (by decide) (htw _ kw_280) (fun _ h9 => h9) rfl d_M_work_112 ?_
    refine lv_iload_n hx hb d_M_work_115 rfl (lv_at hl 2 rfl) ?_
    refine lv_iconst (v := nI 3) hx hb d_M_work_116 (by decide) ?_
    refine lv_icmp_ne (tgt := 127) hx hb d_M_work_117 (by decide) (fun h => absurd (by decide) h) (fun _ => ?_)
    refine lv_aload_n hx hb d_M_work_120 rfl (lv_at hl 1 rfl) ?_
    refine va_get (D := D) (ci := 1) (v := .ref (o + 23)) (C := "WideNumbersModel") (T := F_M) (N := 9) hx hb htw inM hown hK hO.1 0 rfl rfl 7 (by decide) (htw _ kw_283) (fun _ h9 => h9) rfl d_M_work_121 ?_
    refine lv_goto (tgt := 131) hx hb d_M_work_124 (by decide) ?_
    refine x_callv (A := MS o) (va_runS (As := [.ref (o + 20), .ref (o + 23)]) (rest := []) ⟨hx, hb, hml, hown, htw⟩ (m_take l D cJ cI cQ cR (o + 20) (o + 23) 16 (vx / vy) f20 f7 (by decide) (by omega) (fun j hj => hN7 j (by omega))) (xcS 2 htw kw_355 kw_2 kw_353 kw_354 rfl rfl ⟨by decide, by decide, by decide +kernel⟩ ⟨Nat.le_of_ble_eq_true rfl, Nat.le_of_ble_eq_true rfl⟩) (xPre hK ⟨h_20, h_23⟩) rfl rfl hl.1 rfl (lv_room (Nat.le_of_ble_eq_true rfl)) d_M_work_131 ⟨Nat.le_of_ble_eq_true rfl, Nat.le_of_ble_eq_true rfl⟩) hlo (fun q h => by have h : q = o + 20 := h; rw [h]; exact ⟨by omega, by omega⟩) (fun H8 locs8 hB8 hlo => ?_)
    obtain ⟨hF8, f8, hf8, hN8⟩ := hB8
    have h_18 := hI_f h_18 hF8 (show o + 18 ≠ o + 20 by omega)
    have h_19 := hI_f h_19 hF8 (show o + 19 ≠ o + 20 by omega)
    have h_20 := hf8
    have h_21 := hI_f h_21 hF8 (show o + 21 ≠ o + 20 by omega)
    have h_22 := hI_f h_22 hF8 (show o + 22 ≠ o + 20 by omega)
    have h_23 := hI_f h_23 hF8 (show o + 23 ≠ o + 20 by omega)
    have h_24 := hI_f h_24 hF8 (show o + 24 ≠ o + 20 by omega)
    have h_X := hI_f h_X hF8 (show x ≠ o + 20 by omega)
    have h_Y := hI_f h_Y hF8 (show y ≠ o + 20 by omega)
    have hO := hO.f1 hF8 (by omega)
    have hG := MS1 hG hF8 (by omega)
    refine lv_goto (tgt := 468) hx hb d_M_work_134 (by decide) ?_
    exact W.vret hx hb hr (fun t ht hW => ⟨rfl, by rw [ht]; exact hG, by rw [ht]; exact ⟨⟨_, h_18⟩, ⟨_, h_19⟩, ⟨_, h_20⟩, ⟨_, h_21, hN21⟩, ⟨_, h_22⟩, ⟨_, h_23⟩, ⟨_, h_24⟩⟩, _, by rw [ht]; exact h_20, hN8⟩) hlo d_M_work_468
set_option maxHeartbeats 4000000 in
set_option maxRecDepth 100000 in
theorem m_work_4 (l : Launch) (D : va_G) (cJ cI cQ cR : ClassId) (o x y vx vy : Nat) (fl : Int32) (fx fy : Nat → Int32) (hxr : o + 2 ≤ x ∧ x < o + 18) (hyr : o + 2 ≤ y ∧ y < o + 18) (hvx : vx < 2 ^ 256) (hvy : vy < 2 ^ 256) (hNx : NI fx 8 vx) (hNy : NI fy 8 vy) : Met l y_M_work w_M_work { frames := 3, cells := 0, slots := 0, locals := 77 } (xP D vwCl (TY cJ cI cQ cR) [.ref o, .int (nI 4), .ref x, .ref y] (fun H => MB D cR o fl H ∧ SM cI o H ∧ hI H cI x 8 fx ∧ hI H cI y 8 fy)) (xQv (fun H0 H => XF (MS o) H0 H ∧ SM cI o H ∧ ∃ f : Nat → Int32, hI H cI (o + 20) 8 f ∧ NI f 8 (opv 4 vx vy))) 0 0 (MS o) := by
  refine Met.ofW (cc := b_M_work) (maxL := 12) (ret := none) (by decide) rfl ?_
  intro p e s m args below meth c s₁ B hml hv
  obtain ⟨rfl, hK, ⟨hO, hSM, h_X, h_Y⟩⟩ := hv
  have hx := B.exec
  have hb := B.bytes
  have hr := B.returns
  have hts := atoms_spec (ws := w_M_work) B.pre
  have htw : ∀ w ∈ WT, w.before _ s = true := fun w h => hts w (List.mem_cons_of_mem _ h)
  have hown : s.vm.findClass "WideNumbersModel" = some m.cls := findClass_of_methodNamed B.named
  have hlocks := B.notSynchronized
  have hJ : ArrOfT s cJ .long := (hK.2 0 _ rfl).1
  have hI9 : ArrOfT s cI .int := (hK.2 1 _ rfl).1
  have hl := lv_entry ([.ref o, .int (nI 4), .ref x, .ref y]) (n := 12) (Nat.le_of_ble_eq_true rfl)
  rw [lg_entry_eq]
  generalize (lg_sl ([.ref o, .int (nI 4), .ref x, .ref y]) ++ List.replicate (12 - (lg_sl ([.ref o, .int (nI 4), .ref x, .ref y])).length) Slot.unset).toArray = ls at hl ⊢
  have hl : lv_has ls 12 [(0, .ref o), (1, .int (nI 4)), (2, .ref x), (3, .ref y)] := hl
  obtain ⟨⟨f18, h_18⟩, ⟨f19, h_19⟩, ⟨f20, h_20⟩, ⟨f21, h_21, hN21⟩, ⟨f22, h_22⟩, ⟨f23, h_23⟩, ⟨f24, h_24⟩⟩ := hSM
  have hG : XF (MS o) s.heap s.heap := XF.rf
  have hlo : ∀ q ∈ ([] : List Loc), MS o q.base := fun _ h => nomatch h
  refine lv_iload_n hx hb d_M_work_0 rfl (lv_at hl 1 rfl) ?_
  refine lv_iconst (v := nI 2) hx hb d_M_work_1 (by decide) ?_
  refine lv_icmp_le (tgt := 22) hx hb d_M_work_2 (by decide) (fun h => absurd h (by decide)) (fun _ => ?_)
  refine lv_iload_n hx hb d_M_work_5 rfl (lv_at hl 1 rfl) ?_
  refine lv_bipush (v := nI 7) hx hb d_M_work_6 (by decide) ?_
  refine lv_icmp_ge (tgt := 22) hx hb d_M_work_8 (by decide) (fun h => absurd h (by decide)) (fun _ => ?_)
  refine lv_aload_n hx hb d_M_work_11 rfl (lv_at hl 3 rfl) ?_
  refine x_calli (A := MS o) (va_runS (As := [.ref y]) (rest := []) ⟨hx, hb, hml, hown, htw⟩ (m_zero l D cJ cI cQ cR y vy fy hvy hNy) (xcS 1 htw kw_339 kw_2 kw_337 kw_338 rfl rfl ⟨by decide, by decide, by decide +kernel⟩ ⟨Nat.le_of_ble_eq_true rfl, Nat.le_of_ble_eq_true rfl⟩) (xPre hK h_Y) rfl rfl hl.1 rfl (lv_room (Nat.le_of_ble_eq_true rfl)) d_M_work_12 ⟨Nat.le_of_ble_eq_true rfl, Nat.le_of_ble_eq_true rfl⟩) hlo (fun _ h => h.elim) (fun r1 H1 locs1 hB1 hlo => ?_)
  obtain ⟨rfl, rfl⟩ := hB1
  by_cases hvp : vy = 0
  · refine x_topi (v := nI 1) (by rw [if_pos hvp]; rfl) ?_
    refine lv_if_eq (tgt := 22) hx hb d_M_work_15 (by decide) (fun h => absurd h (by decide)) (fun _ => ?_)
    refine lv_iconst (v := nI 1) hx hb d_M_work_18 (by decide) ?_
    refine lv_goto (tgt := 23) hx hb d_M_work_19 (by decide) ?_
    refine lv_istore hx hb d_M_work_23 hl (by decide) rfl (fun ls hl => ?_)
    have hl : lv_has ls 12 [(4, .int (nI 1)), (0, .ref o), (1, .int (nI 4)), (2, .ref x), (3, .ref y)] := hl
    refine lv_iload hx hb d_M_work_25 (lv_at hl 0 rfl) ?_
    refine lv_if_eq (tgt := 40) hx hb d_M_work_27 (by decide) (fun h => absurd h (by decide)) (fun _ => ?_)
    refine lv_aload_n hx hb d_M_work_30 rfl (lv_at hl 1 rfl) ?_
    refine va_get (D := D) (ci := 1) (v := .ref (o + 20)) (C := "WideNumbersModel") (T := F_M) (N := 9) hx hb htw inM hown hK hO.1 0 rfl rfl 4 (by decide) (htw _ kw_280) (fun _ h9 => h9) rfl d_M_work_31 ?_
    refine x_callv (A := MS o) (va_runS (As := [.ref (o + 20)]) (rest := []) ⟨hx, hb, hml, hown, htw⟩ (m_clear l D cJ cI cQ cR (o + 20) f20) (xcS 1 htw kw_342 kw_2 kw_340 kw_341 rfl rfl ⟨by decide, by decide, by decide +kernel⟩ ⟨Nat.le_of_ble_eq_true rfl, Nat.le_of_ble_eq_true rfl⟩) (xPre hK h_20) rfl rfl hl.1 rfl (lv_room (Nat.le_of_ble_eq_true rfl)) d_M_work_34 ⟨Nat.le_of_ble_eq_true rfl, Nat.le_of_ble_eq_true rfl⟩) hlo (fun q h => by have h : q = o + 20 := h; rw [h]; exact ⟨by omega, by omega⟩) (fun H2 locs2 hB2 hlo => ?_)
    obtain ⟨hF2, f2, hf2, hN2⟩ := hB2
    have h_18 := hI_f h_18 hF2 (show o + 18 ≠ o + 20 by omega)
    have h_19 := hI_f h_19 hF2 (show o + 19 ≠ o + 20 by omega)
    have h_20 := hf2
    have h_21 := hI_f h_21 hF2 (show o + 21 ≠ o + 20 by omega)
    have h_22 := hI_f h_22 hF2 (show o + 22 ≠ o + 20 by omega)
    have h_23 := hI_f h_23 hF2 (show o + 23 ≠ o + 20 by omega)
    have h_24 := hI_f h_24 hF2 (show o + 24 ≠ o + 20 by omega)
    have h_X := hI_f h_X hF2 (show x ≠ o + 20 by omega)
    have h_Y := hI_f h_Y hF2 (show y ≠ o + 20 by omega)
    have hO := hO.f1 hF2 (by omega)
    have hG := MS1 hG hF2 (by omega)
    refine lv_goto (tgt := 468) hx hb d_M_work_37 (by decide) ?_
    exact W.vret hx hb hr (fun t ht hW => ⟨rfl, by rw [ht]; exact hG, by rw [ht]; exact ⟨⟨_, h_18⟩, ⟨_, h_19⟩, ⟨_, h_20⟩, ⟨_, h_21, hN21⟩, ⟨_, h_22⟩, ⟨_, h_23⟩, ⟨_, h_24⟩⟩, _, by rw [ht]; exact h_20, by rw [hvp, opv_z (by decide) (by decide)]; exact hN2⟩) hlo d_M_work_468
  · refine x_topi (v := nI 0) (by rw [if_neg hvp]; rfl) ?_
    have hvp : 0 < vy := by omega
    refine lv_if_eq (tgt := 22) hx hb d_M_work_15 (by decide) (fun _ => ?_) (fun h => absurd (by decide) h)
    refine lv_iconst (v := nI 0) hx hb d_M_work_22 (by decide) ?_
    refine lv_istore hx hb d_M_work_23 hl (by decide) rfl (fun ls hl => ?_)
    have hl : lv_has ls 12 [(4, .int (nI 0)), (0, .ref o), (1, .int (nI 4)), (2, .ref x), (3, .ref y)] := hl
    refine lv_iload hx hb d_M_work_25 (lv_at hl 0 rfl) ?_
    refine lv_if_eq (tgt := 40) hx hb d_M_work_27 (by decide) (fun _ => ?_) (fun h => absurd (by decide) h)
    refine lv_iload_n hx hb d_M_work_40 rfl (lv_at hl 2 rfl) ?_
    refine lv_if_ne (tgt := 58) hx hb d_M_work_41 (by decide) (fun _ => ?_) (fun h => absurd h (by decide))
    refine lv_iload_n hx hb d_M_work_58 rfl (lv_at hl 2 rfl) ?_
    refine lv_iconst (v := nI 1) hx hb d_M_work_59 (by decide) ?_
    refine lv_icmp_ne (tgt := 75) hx hb d_M_work_60 (by decide) (fun _ => ?_) (fun h => absurd h (by decide))
    refine lv_iload_n hx hb d_M_work_75 rfl (lv_at hl 2 rfl) ?_
    refine lv_iconst (v := nI 2) hx hb d_M_work_76 (by decide) ?_
    refine lv_icmp_ne (tgt := 100) hx hb d_M_work_77 (by decide) (fun _ => ?_) (fun h => absurd h (by decide))
    refine lv_iload_n hx hb d_M_work_100 rfl (lv_at hl 2 rfl) ?_
    refine lv_iconst (v := nI 5) hx hb d_M_work_101 (by decide) ?_
    refine lv_icmp_ge (tgt := 137) hx hb d_M_work_102 (by decide) (fun h => absurd h (by decide)) (fun _ => ?_)
    refine lv_aload_n hx hb d_M_work_105 rfl (lv_at hl 1 rfl) ?_
    refine lv_aload_n hx hb d_M_work_106 rfl (lv_at hl 3 rfl) ?_
    refine lv_aload_n hx hb d_M_work_107 rfl (lv_at hl 4 rfl) ?_
    refine x_callv (A := MS o) (va_runV (As := [.ref x, .ref y]) (rest := []) ⟨hx, hb, hml, hown, htw⟩ (m_divide l D cJ cI cQ cR o x y vx vy fl f22 f23 f24 fx fy (by omega) (by omega) hvx hvy hvp hNx hNy) (xcV 2 htw kw_359 kw_2 kw_356 kw_358 ks_M_divide rfl rfl ⟨by decide, by decide, by decide +kernel⟩ ⟨Nat.le_of_ble_eq_true rfl, Nat.le_of_ble_eq_true rfl⟩) (xPreV hK (hO.rv hK) ⟨hO, h_22, h_23, h_24, h_X, h_Y⟩) rfl rfl hl.1 rfl (lv_room (Nat.le_of_ble_eq_true rfl)) d_M_work_108 ⟨Nat.le_of_ble_eq_true rfl, Nat.le_of_ble_eq_true rfl⟩) hlo (fun q h => by rcases h with h | h | h <;> (rw [h]; exact ⟨by omega, by omega⟩)) (fun H7 locs7 hB7 hlo => ?_)
    obtain ⟨hF7, ⟨fw7, hw7⟩, f7, g7, hf7, hN7, hg7, hM7⟩ := hB7
    have h_18 := hI_f h_18 hF7 (nDv (by omega))
    have h_19 := hI_f h_19 hF7 (nDv (by omega))
    have h_20 := hI_f h_20 hF7 (nDv (by omega))
    have h_21 := hI_f h_21 hF7 (nDv (by omega))
    have h_22 := hw7
    have h_23 := hf7
    have h_24 := hg7
    have h_X := hI_f h_X hF7 (nDv (by omega))
    have h_Y := hI_f h_Y hF7 (nDv (by omega))
    have hO := hO.fd hF7
    have hG := MSd hG hF7
    refine lv_aload_n hx hb d_M_work_111 rfl (lv_at hl 1 rfl) ?_
    refine va_get (D := D) (ci := 1) (v := .ref (o + 20)) (C := "WideNumbersModel") (T := F_M) (N := 9) hx hb htw inM hown hK hO.1 0 rfl rfl 4 (by decide) (htw _ kw_280) (fun _ h9 => h9) rfl d_M_work_112 ?_
    refine lv_iload_n hx hb d_M_work_115 rfl (lv_at hl 2 rfl) ?_
    refine lv_iconst (v := nI 3) hx hb d_M_work_116 (by decide) ?_
    refine lv_icmp_ne (tgt := 127) hx hb d_M_work_117 (by decide) (fun _ => ?_) (fun h => absurd h (by decide))
    refine lv_aload_n hx hb d_M_work_127 rfl (lv_at hl 1 rfl) ?_
    refine va_get (D := D) (ci := 1) (v := .ref (o + 24)) (C := "WideNumbersModel") (T := F_M) (N := 9) hx hb htw inM hown hK hO.1 0 rfl rfl 8 (by decide) (htw _ kw_284) (fun _ h9 => h9) rfl d_M_work_128 ?_
    refine x_callv (A := MS o) (va_runS (As := [.ref (o + 20), .ref (o + 24)]) (rest := []) ⟨hx, hb, hml, hown, htw⟩ (m_take l D cJ cI cQ cR (o + 20) (o + 24) 9 (vx % vy) f20 g7 (by decide) (by omega) (fun j hj => hM7 j (by omega))) (xcS 2 htw kw_355 kw_2 kw_353 kw_354 rfl rfl ⟨by decide, by decide, by decide +kernel⟩ ⟨Nat.le_of_ble_eq_true rfl, Nat.le_of_ble_eq_true rfl⟩) (xPre hK ⟨h_20, h_24⟩) rfl rfl hl.1 rfl (lv_room (Nat.le_of_ble_eq_true rfl)) d_M_work_131 ⟨Nat.le_of_ble_eq_true rfl, Nat.le_of_ble_eq_true rfl⟩) hlo (fun q h => by have h : q = o + 20 := h; rw [h]; exact ⟨by omega, by omega⟩) (fun H8 locs8 hB8 hlo => ?_)
    obtain ⟨hF8, f8, hf8, hN8⟩ := hB8
    have h_18 := hI_f h_18 hF8 (show o + 18 ≠ o + 20 by omega)
    have h_19 := hI_f h_19 hF8 (show o + 19 ≠ o + 20 by omega)
    have h_20 := hf8
    have h_21 := hI_f h_21 hF8 (show o + 21 ≠ o + 20 by omega)
    have h_22 := hI_f h_22 hF8 (show o + 22 ≠ o + 20 by omega)
    have h_23 := hI_f h_23 hF8 (show o + 23 ≠ o + 20 by omega)
    have h_24 := hI_f h_24 hF8 (show o + 24 ≠ o + 20 by omega)
    have h_X := hI_f h_X hF8 (show x ≠ o + 20 by omega)
    have h_Y := hI_f h_Y hF8 (show y ≠ o + 20 by omega)
    have hO := hO.f1 hF8 (by omega)
    have hG := MS1 hG hF8 (by omega)
    refine lv_goto (tgt := 468) hx hb d_M_work_134 (by decide) ?_
    exact W.vret hx hb hr (fun t ht hW => ⟨rfl, by rw [ht]; exact hG, by rw [ht]; exact ⟨⟨_, h_18⟩, ⟨_, h_19⟩, ⟨_, h_20⟩, ⟨_, h_21, hN21⟩, ⟨_, h_22⟩, ⟨_, h_23⟩, ⟨_, h_24⟩⟩, _, by rw [ht]; exact h_20, NI_e hN8 (show _ = if vy = 0 then 0 else vx % vy by rw [if_neg (by omega)])⟩) hlo d_M_work_468
set_option maxHeartbeats 4000000 in
set_option maxRecDepth 100000 in
theorem m_work_5 (l : Launch) (D : va_G) (cJ cI cQ cR : ClassId) (o x y vx vy : Nat) (fl : Int32) (fx fy : Nat → Int32) (hxr : o + 2 ≤ x ∧ x < o + 18) (hyr : o + 2 ≤ y ∧ y < o + 18) (hvx : vx < 2 ^ 256) (hvy : vy < 2 ^ 256) (hNx : NI fx 8 vx) (hNy : NI fy 8 vy) : Met l y_M_work w_M_work { frames := 3, cells := 0, slots := 0, locals := 77 } (xP D vwCl (TY cJ cI cQ cR) [.ref o, .int (nI 5), .ref x, .ref y] (fun H => MB D cR o fl H ∧ SM cI o H ∧ hI H cI x 8 fx ∧ hI H cI y 8 fy)) (xQv (fun H0 H => XF (MS o) H0 H ∧ SM cI o H ∧ ∃ f : Nat → Int32, hI H cI (o + 20) 8 f ∧ NI f 8 (opv 5 vx vy))) 0 0 (MS o) := by
  refine Met.ofW (cc := b_M_work) (maxL := 12) (ret := none) (by decide) rfl ?_
  intro p e s m args below meth c s₁ B hml hv
  obtain ⟨rfl, hK, ⟨hO, hSM, h_X, h_Y⟩⟩ := hv
  have hx := B.exec
  have hb := B.bytes
  have hr := B.returns
  have hts := atoms_spec (ws := w_M_work) B.pre
  have htw : ∀ w ∈ WT, w.before _ s = true := fun w h => hts w (List.mem_cons_of_mem _ h)
  have hown : s.vm.findClass "WideNumbersModel" = some m.cls := findClass_of_methodNamed B.named
  have hlocks := B.notSynchronized
  have hJ : ArrOfT s cJ .long := (hK.2 0 _ rfl).1
  have hI9 : ArrOfT s cI .int := (hK.2 1 _ rfl).1
  have hl := lv_entry ([.ref o, .int (nI 5), .ref x, .ref y]) (n := 12) (Nat.le_of_ble_eq_true rfl)
  rw [lg_entry_eq]
  generalize (lg_sl ([.ref o, .int (nI 5), .ref x, .ref y]) ++ List.replicate (12 - (lg_sl ([.ref o, .int (nI 5), .ref x, .ref y])).length) Slot.unset).toArray = ls at hl ⊢
  have hl : lv_has ls 12 [(0, .ref o), (1, .int (nI 5)), (2, .ref x), (3, .ref y)] := hl
  obtain ⟨⟨f18, h_18⟩, ⟨f19, h_19⟩, ⟨f20, h_20⟩, ⟨f21, h_21, hN21⟩, ⟨f22, h_22⟩, ⟨f23, h_23⟩, ⟨f24, h_24⟩⟩ := hSM
  have hG : XF (MS o) s.heap s.heap := XF.rf
  have hlo : ∀ q ∈ ([] : List Loc), MS o q.base := fun _ h => nomatch h
  refine lv_iload_n hx hb d_M_work_0 rfl (lv_at hl 1 rfl) ?_
  refine lv_iconst (v := nI 2) hx hb d_M_work_1 (by decide) ?_
  refine lv_icmp_le (tgt := 22) hx hb d_M_work_2 (by decide) (fun h => absurd h (by decide)) (fun _ => ?_)
  refine lv_iload_n hx hb d_M_work_5 rfl (lv_at hl 1 rfl) ?_
  refine lv_bipush (v := nI 7) hx hb d_M_work_6 (by decide) ?_
  refine lv_icmp_ge (tgt := 22) hx hb d_M_work_8 (by decide) (fun h => absurd h (by decide)) (fun _ => ?_)
  refine lv_aload_n hx hb d_M_work_11 rfl (lv_at hl 3 rfl) ?_
  refine x_calli (A := MS o) (va_runS (As := [.ref y]) (rest := []) ⟨hx, hb, hml, hown, htw⟩ (m_zero l D cJ cI cQ cR y vy fy hvy hNy) (xcS 1 htw kw_339 kw_2 kw_337 kw_338 rfl rfl ⟨by decide, by decide, by decide +kernel⟩ ⟨Nat.le_of_ble_eq_true rfl, Nat.le_of_ble_eq_true rfl⟩) (xPre hK h_Y) rfl rfl hl.1 rfl (lv_room (Nat.le_of_ble_eq_true rfl)) d_M_work_12 ⟨Nat.le_of_ble_eq_true rfl, Nat.le_of_ble_eq_true rfl⟩) hlo (fun _ h => h.elim) (fun r1 H1 locs1 hB1 hlo => ?_)
  obtain ⟨rfl, rfl⟩ := hB1
  by_cases hvp : vy = 0
  · refine x_topi (v := nI 1) (by rw [if_pos hvp]; rfl) ?_
    refine lv_if_eq (tgt := 22) hx hb d_M_work_15 (by decide) (fun h => absurd h (by decide)) (fun _ => ?_)
    refine lv_iconst (v := nI 1) hx hb d_M_work_18 (by decide) ?_
    refine lv_goto (tgt := 23) hx hb d_M_work_19 (by decide) ?_
    refine lv_istore hx hb d_M_work_23 hl (by decide) rfl (fun ls hl => ?_)
    have hl : lv_has ls 12 [(4, .int (nI 1)), (0, .ref o), (1, .int (nI 5)), (2, .ref x), (3, .ref y)] := hl
    refine lv_iload hx hb d_M_work_25 (lv_at hl 0 rfl) ?_
    refine lv_if_eq (tgt := 40) hx hb d_M_work_27 (by decide) (fun h => absurd h (by decide)) (fun _ => ?_)
    refine lv_aload_n hx hb d_M_work_30 rfl (lv_at hl 1 rfl) ?_
    refine va_get (D := D) (ci := 1) (v := .ref (o + 20)) (C := "WideNumbersModel") (T := F_M) (N := 9) hx hb htw inM hown hK hO.1 0 rfl rfl 4 (by decide) (htw _ kw_280) (fun _ h9 => h9) rfl d_M_work_31 ?_
    refine x_callv (A := MS o) (va_runS (As := [.ref (o + 20)]) (rest := []) ⟨hx, hb, hml, hown, htw⟩ (m_clear l D cJ cI cQ cR (o + 20) f20) (xcS 1 htw kw_342 kw_2 kw_340 kw_341 rfl rfl ⟨by decide, by decide, by decide +kernel⟩ ⟨Nat.le_of_ble_eq_true rfl, Nat.le_of_ble_eq_true rfl⟩) (xPre hK h_20) rfl rfl hl.1 rfl (lv_room (Nat.le_of_ble_eq_true rfl)) d_M_work_34 ⟨Nat.le_of_ble_eq_true rfl, Nat.le_of_ble_eq_true rfl⟩) hlo (fun q h => by have h : q = o + 20 := h; rw [h]; exact ⟨by omega, by omega⟩) (fun H2 locs2 hB2 hlo => ?_)
    obtain ⟨hF2, f2, hf2, hN2⟩ := hB2
    have h_18 := hI_f h_18 hF2 (show o + 18 ≠ o + 20 by omega)
    have h_19 := hI_f h_19 hF2 (show o + 19 ≠ o + 20 by omega)
    have h_20 := hf2
    have h_21 := hI_f h_21 hF2 (show o + 21 ≠ o + 20 by omega)
    have h_22 := hI_f h_22 hF2 (show o + 22 ≠ o + 20 by omega)
    have h_23 := hI_f h_23 hF2 (show o + 23 ≠ o + 20 by omega)
    have h_24 := hI_f h_24 hF2 (show o + 24 ≠ o + 20 by omega)
    have h_X := hI_f h_X hF2 (show x ≠ o + 20 by omega)
    have h_Y := hI_f h_Y hF2 (show y ≠ o + 20 by omega)
    have hO := hO.f1 hF2 (by omega)
    have hG := MS1 hG hF2 (by omega)
    refine lv_goto (tgt := 468) hx hb d_M_work_37 (by decide) ?_
    exact W.vret hx hb hr (fun t ht hW => ⟨rfl, by rw [ht]; exact hG, by rw [ht]; exact ⟨⟨_, h_18⟩, ⟨_, h_19⟩, ⟨_, h_20⟩, ⟨_, h_21, hN21⟩, ⟨_, h_22⟩, ⟨_, h_23⟩, ⟨_, h_24⟩⟩, _, by rw [ht]; exact h_20, by rw [hvp, opv_z (by decide) (by decide)]; exact hN2⟩) hlo d_M_work_468
  · refine x_topi (v := nI 0) (by rw [if_neg hvp]; rfl) ?_
    have hvp : 0 < vy := by omega
    refine lv_if_eq (tgt := 22) hx hb d_M_work_15 (by decide) (fun _ => ?_) (fun h => absurd (by decide) h)
    refine lv_iconst (v := nI 0) hx hb d_M_work_22 (by decide) ?_
    refine lv_istore hx hb d_M_work_23 hl (by decide) rfl (fun ls hl => ?_)
    have hl : lv_has ls 12 [(4, .int (nI 0)), (0, .ref o), (1, .int (nI 5)), (2, .ref x), (3, .ref y)] := hl
    refine lv_iload hx hb d_M_work_25 (lv_at hl 0 rfl) ?_
    refine lv_if_eq (tgt := 40) hx hb d_M_work_27 (by decide) (fun _ => ?_) (fun h => absurd (by decide) h)
    refine lv_iload_n hx hb d_M_work_40 rfl (lv_at hl 2 rfl) ?_
    refine lv_if_ne (tgt := 58) hx hb d_M_work_41 (by decide) (fun _ => ?_) (fun h => absurd h (by decide))
    refine lv_iload_n hx hb d_M_work_58 rfl (lv_at hl 2 rfl) ?_
    refine lv_iconst (v := nI 1) hx hb d_M_work_59 (by decide) ?_
    refine lv_icmp_ne (tgt := 75) hx hb d_M_work_60 (by decide) (fun _ => ?_) (fun h => absurd h (by decide))
    refine lv_iload_n hx hb d_M_work_75 rfl (lv_at hl 2 rfl) ?_
    refine lv_iconst (v := nI 2) hx hb d_M_work_76 (by decide) ?_
    refine lv_icmp_ne (tgt := 100) hx hb d_M_work_77 (by decide) (fun _ => ?_) (fun h => absurd h (by decide))
    refine lv_iload_n hx hb d_M_work_100 rfl (lv_at hl 2 rfl) ?_
    refine lv_iconst (v := nI 5) hx hb d_M_work_101 (by decide) ?_
    refine lv_icmp_ge (tgt := 137) hx hb d_M_work_102 (by decide) (fun _ => ?_) (fun h => absurd (by decide) h)
    refine lv_iload_n hx hb d_M_work_137 rfl (lv_at hl 2 rfl) ?_
    refine lv_bipush (v := nI 7) hx hb d_M_work_138 (by decide) ?_
    refine lv_icmp_ge (tgt := 167) hx hb d_M_work_140 (by decide) (fun h => absurd h (by decide)) (fun _ => ?_)
    refine lv_aload_n hx hb d_M_work_143 rfl (lv_at hl 1 rfl) ?_
    refine lv_aload_n hx hb d_M_work_144 rfl (lv_at hl 1 rfl) ?_
    refine va_get (D := D) (ci := 1) (v := .ref (o + 20)) (C := "WideNumbersModel") (T := F_M) (N := 9) hx hb htw inM hown hK hO.1 0 rfl rfl 4 (by decide) (htw _ kw_280) (fun _ h9 => h9) rfl d_M_work_145 ?_
    refine lv_aload_n hx hb d_M_work_148 rfl (lv_at hl 3 rfl) ?_
    refine lv_aload_n hx hb d_M_work_149 rfl (lv_at hl 4 rfl) ?_
    refine lv_iload_n hx hb d_M_work_150 rfl (lv_at hl 2 rfl) ?_
    refine lv_bipush (v := nI 6) hx hb d_M_work_151 (by decide) ?_
    refine lv_icmp_ne (tgt := 160) hx hb d_M_work_153 (by decide) (fun _ => ?_) (fun h => absurd h (by decide))
    refine lv_iconst (v := nI 0) hx hb d_M_work_160 (by decide) ?_
    refine x_callv (A := MS o) (va_runV (As := [.ref (o + 20), .ref x, .ref y, .int (nI 0)]) (rest := []) ⟨hx, hb, hml, hown, htw⟩ (m_signed l D cJ cI cQ cR o x y vx vy fl fx fy hxr hyr hvx hvy hNx hNy (nI 0) (by decide) hvp) (xcV 4 htw kw_367 kw_2 kw_364 kw_366 ks_M_signed rfl rfl ⟨by decide, by decide, by decide +kernel⟩ ⟨Nat.le_of_ble_eq_true rfl, Nat.le_of_ble_eq_true rfl⟩) (xPreV hK (hO.rv hK) ⟨hO, ⟨⟨_, h_18⟩, ⟨_, h_19⟩, ⟨_, h_20⟩, ⟨_, h_21, hN21⟩, ⟨_, h_22⟩, ⟨_, h_23⟩, ⟨_, h_24⟩⟩, h_X, h_Y⟩) rfl rfl hl.1 rfl (lv_room (Nat.le_of_ble_eq_true rfl)) d_M_work_161 ⟨Nat.le_of_ble_eq_true rfl, Nat.le_of_ble_eq_true rfl⟩) hlo (fun _ h => h) (fun H7 locs7 hB7 hlo => ?_)
    obtain ⟨hF7, ⟨⟨_, h_18⟩, ⟨_, h_19⟩, _, ⟨_, h_21, hN21⟩, ⟨_, h_22⟩, ⟨_, h_23⟩, ⟨_, h_24⟩⟩, f7, h_20, hN7⟩ := hB7
    have hG := MSS hG hF7
    refine lv_goto (tgt := 468) hx hb d_M_work_164 (by decide) ?_
    exact W.vret hx hb hr (fun t ht hW => ⟨rfl, by rw [ht]; exact hG, by rw [ht]; exact ⟨⟨_, h_18⟩, ⟨_, h_19⟩, ⟨_, h_20⟩, ⟨_, h_21, hN21⟩, ⟨_, h_22⟩, ⟨_, h_23⟩, ⟨_, h_24⟩⟩, _, by rw [ht]; exact h_20, NI_e hN7 (if_pos nI_0)⟩) hlo d_M_work_468
set_option maxHeartbeats 4000000 in
set_option maxRecDepth 100000 in
theorem m_work_6 (l : Launch) (D : va_G) (cJ cI cQ cR : ClassId) (o x y vx vy : Nat) (fl : Int32) (fx fy : Nat → Int32) (hxr : o + 2 ≤ x ∧ x < o + 18) (hyr : o + 2 ≤ y ∧ y < o + 18) (hvx : vx < 2 ^ 256) (hvy : vy < 2 ^ 256) (hNx : NI fx 8 vx) (hNy : NI fy 8 vy) : Met l y_M_work w_M_work { frames := 3, cells := 0, slots := 0, locals := 77 } (xP D vwCl (TY cJ cI cQ cR) [.ref o, .int (nI 6), .ref x, .ref y] (fun H => MB D cR o fl H ∧ SM cI o H ∧ hI H cI x 8 fx ∧ hI H cI y 8 fy)) (xQv (fun H0 H => XF (MS o) H0 H ∧ SM cI o H ∧ ∃ f : Nat → Int32, hI H cI (o + 20) 8 f ∧ NI f 8 (opv 6 vx vy))) 0 0 (MS o) := by
  refine Met.ofW (cc := b_M_work) (maxL := 12) (ret := none) (by decide) rfl ?_
  intro p e s m args below meth c s₁ B hml hv
  obtain ⟨rfl, hK, ⟨hO, hSM, h_X, h_Y⟩⟩ := hv
  have hx := B.exec
  have hb := B.bytes
  have hr := B.returns
  have hts := atoms_spec (ws := w_M_work) B.pre
  have htw : ∀ w ∈ WT, w.before _ s = true := fun w h => hts w (List.mem_cons_of_mem _ h)
  have hown : s.vm.findClass "WideNumbersModel" = some m.cls := findClass_of_methodNamed B.named
  have hlocks := B.notSynchronized
  have hJ : ArrOfT s cJ .long := (hK.2 0 _ rfl).1
  have hI9 : ArrOfT s cI .int := (hK.2 1 _ rfl).1
  have hl := lv_entry ([.ref o, .int (nI 6), .ref x, .ref y]) (n := 12) (Nat.le_of_ble_eq_true rfl)
  rw [lg_entry_eq]
  generalize (lg_sl ([.ref o, .int (nI 6), .ref x, .ref y]) ++ List.replicate (12 - (lg_sl ([.ref o, .int (nI 6), .ref x, .ref y])).length) Slot.unset).toArray = ls at hl ⊢
  have hl : lv_has ls 12 [(0, .ref o), (1, .int (nI 6)), (2, .ref x), (3, .ref y)] := hl
  obtain ⟨⟨f18, h_18⟩, ⟨f19, h_19⟩, ⟨f20, h_20⟩, ⟨f21, h_21, hN21⟩, ⟨f22, h_22⟩, ⟨f23, h_23⟩, ⟨f24, h_24⟩⟩ := hSM
  have hG : XF (MS o) s.heap s.heap := XF.rf
  have hlo : ∀ q ∈ ([] : List Loc), MS o q.base := fun _ h => nomatch h
  refine lv_iload_n hx hb d_M_work_0 rfl (lv_at hl 1 rfl) ?_
  refine lv_iconst (v := nI 2) hx hb d_M_work_1 (by decide) ?_
  refine lv_icmp_le (tgt := 22) hx hb d_M_work_2 (by decide) (fun h => absurd h (by decide)) (fun _ => ?_)
  refine lv_iload_n hx hb d_M_work_5 rfl (lv_at hl 1 rfl) ?_
  refine lv_bipush (v := nI 7) hx hb d_M_work_6 (by decide) ?_
  refine lv_icmp_ge (tgt := 22) hx hb d_M_work_8 (by decide) (fun h => absurd h (by decide)) (fun _ => ?_)
  refine lv_aload_n hx hb d_M_work_11 rfl (lv_at hl 3 rfl) ?_
  refine x_calli (A := MS o) (va_runS (As := [.ref y]) (rest := []) ⟨hx, hb, hml, hown, htw⟩ (m_zero l D cJ cI cQ cR y vy fy hvy hNy) (xcS 1 htw kw_339 kw_2 kw_337 kw_338 rfl rfl ⟨by decide, by decide, by decide +kernel⟩ ⟨Nat.le_of_ble_eq_true rfl, Nat.le_of_ble_eq_true rfl⟩) (xPre hK h_Y) rfl rfl hl.1 rfl (lv_room (Nat.le_of_ble_eq_true rfl)) d_M_work_12 ⟨Nat.le_of_ble_eq_true rfl, Nat.le_of_ble_eq_true rfl⟩) hlo (fun _ h => h.elim) (fun r1 H1 locs1 hB1 hlo => ?_)
  obtain ⟨rfl, rfl⟩ := hB1
  by_cases hvp : vy = 0
  · refine x_topi (v := nI 1) (by rw [if_pos hvp]; rfl) ?_
    refine lv_if_eq (tgt := 22) hx hb d_M_work_15 (by decide) (fun h => absurd h (by decide)) (fun _ => ?_)
    refine lv_iconst (v := nI 1) hx hb d_M_work_18 (by decide) ?_
    refine lv_goto (tgt := 23) hx hb d_M_work_19 (by decide) ?_
    refine lv_istore hx hb d_M_work_23 hl (by decide) rfl (fun ls hl => ?_)
    have hl : lv_has ls 12 [(4, .int (nI 1)), (0, .ref o), (1, .int (nI 6)), (2, .ref x), (3, .ref y)] := hl
    refine lv_iload hx hb d_M_work_25 (lv_at hl 0 rfl) ?_
    refine lv_if_eq (tgt := 40) hx hb d_M_work_27 (by decide) (fun h => absurd h (by decide)) (fun _ => ?_)
    refine lv_aload_n hx hb d_M_work_30 rfl (lv_at hl 1 rfl) ?_
    refine va_get (D := D) (ci := 1) (v := .ref (o + 20)) (C := "WideNumbersModel") (T := F_M) (N := 9) hx hb htw inM hown hK hO.1 0 rfl rfl 4 (by decide) (htw _ kw_280) (fun _ h9 => h9) rfl d_M_work_31 ?_
    refine x_callv (A := MS o) (va_runS (As := [.ref (o + 20)]) (rest := []) ⟨hx, hb, hml, hown, htw⟩ (m_clear l D cJ cI cQ cR (o + 20) f20) (xcS 1 htw kw_342 kw_2 kw_340 kw_341 rfl rfl ⟨by decide, by decide, by decide +kernel⟩ ⟨Nat.le_of_ble_eq_true rfl, Nat.le_of_ble_eq_true rfl⟩) (xPre hK h_20) rfl rfl hl.1 rfl (lv_room (Nat.le_of_ble_eq_true rfl)) d_M_work_34 ⟨Nat.le_of_ble_eq_true rfl, Nat.le_of_ble_eq_true rfl⟩) hlo (fun q h => by have h : q = o + 20 := h; rw [h]; exact ⟨by omega, by omega⟩) (fun H2 locs2 hB2 hlo => ?_)
    obtain ⟨hF2, f2, hf2, hN2⟩ := hB2
    have h_18 := hI_f h_18 hF2 (show o + 18 ≠ o + 20 by omega)
    have h_19 := hI_f h_19 hF2 (show o + 19 ≠ o + 20 by omega)
    have h_20 := hf2
    have h_21 := hI_f h_21 hF2 (show o + 21 ≠ o + 20 by omega)
    have h_22 := hI_f h_22 hF2 (show o + 22 ≠ o + 20 by omega)
    have h_23 := hI_f h_23 hF2 (show o + 23 ≠ o + 20 by omega)
    have h_24 := hI_f h_24 hF2 (show o + 24 ≠ o + 20 by omega)
    have h_X := hI_f h_X hF2 (show x ≠ o + 20 by omega)
    have h_Y := hI_f h_Y hF2 (show y ≠ o + 20 by omega)
    have hO := hO.f1 hF2 (by omega)
    have hG := MS1 hG hF2 (by omega)
    refine lv_goto (tgt := 468) hx hb d_M_work_37 (by decide) ?_
    exact W.vret hx hb hr (fun t ht hW => ⟨rfl, by rw [ht]; exact hG, by rw [ht]; exact ⟨⟨_, h_18⟩, ⟨_, h_19⟩, ⟨_, h_20⟩, ⟨_, h_21, hN21⟩, ⟨_, h_22⟩, ⟨_, h_23⟩, ⟨_, h_24⟩⟩, _, by rw [ht]; exact h_20, by rw [hvp, opv_z (by decide) (by decide)]; exact hN2⟩) hlo d_M_work_468
  · refine x_topi (v := nI 0) (by rw [if_neg hvp]; rfl) ?_
    have hvp : 0 < vy := by omega
    refine lv_if_eq (tgt := 22) hx hb d_M_work_15 (by decide) (fun _ => ?_) (fun h => absurd (by decide) h)
    refine lv_iconst (v := nI 0) hx hb d_M_work_22 (by decide) ?_
    refine lv_istore hx hb d_M_work_23 hl (by decide) rfl (fun ls hl => ?_)
    have hl : lv_has ls 12 [(4, .int (nI 0)), (0, .ref o), (1, .int (nI 6)), (2, .ref x), (3, .ref y)] := hl
    refine lv_iload hx hb d_M_work_25 (lv_at hl 0 rfl) ?_
    refine lv_if_eq (tgt := 40) hx hb d_M_work_27 (by decide) (fun _ => ?_) (fun h => absurd (by decide) h)
    refine lv_iload_n hx hb d_M_work_40 rfl (lv_at hl 2 rfl) ?_
    refine lv_if_ne (tgt := 58) hx hb d_M_work_41 (by decide) (fun _ => ?_) (fun h => absurd h (by decide))
    refine lv_iload_n hx hb d_M_work_58 rfl (lv_at hl 2 rfl) ?_
    refine lv_iconst (v := nI 1) hx hb d_M_work_59 (by decide) ?_
    refine lv_icmp_ne (tgt := 75) hx hb d_M_work_60 (by decide) (fun _ => ?_) (fun h => absurd h (by decide))
    refine lv_iload_n hx hb d_M_work_75 rfl (lv_at hl 2 rfl) ?_
    refine lv_iconst (v := nI 2) hx hb d_M_work_76 (by decide) ?_
    refine lv_icmp_ne (tgt := 100) hx hb d_M_work_77 (by decide) (fun _ => ?_) (fun h => absurd h (by decide))
    refine lv_iload_n hx hb d_M_work_100 rfl (lv_at hl 2 rfl) ?_
    refine lv_iconst (v := nI 5) hx hb d_M_work_101 (by decide) ?_
    refine lv_icmp_ge (tgt := 137) hx hb d_M_work_102 (by decide) (fun _ => ?_) (fun h => absurd (by decide) h)
    refine lv_iload_n hx hb d_M_work_137 rfl (lv_at hl 2 rfl) ?_
    refine lv_bipush (v := nI 7) hx hb d_M_work_138 (by decide) ?_
    refine lv_icmp_ge (tgt := 167) hx hb d_M_work_140 (by decide) (fun h => absurd h (by decide)) (fun _ => ?_)
    refine lv_aload_n hx hb d_M_work_143 rfl (lv_at hl 1 rfl) ?_
    refine lv_aload_n hx hb d_M_work_144 rfl (lv_at hl 1 rfl) ?_
    refine va_get (D := D) (ci := 1) (v := .ref (o + 20)) (C := "WideNumbersModel") (T := F_M) (N := 9) hx hb htw inM hown hK hO.1 0 rfl rfl 4 (by decide) (htw _ kw_280) (fun _ h9 => h9) rfl d_M_work_145 ?_
    refine lv_aload_n hx hb d_M_work_148 rfl (lv_at hl 3 rfl) ?_
    refine lv_aload_n hx hb d_M_work_149 rfl (lv_at hl 4 rfl) ?_
    refine lv_iload_n hx hb d_M_work_150 rfl (lv_at hl 2 rfl) ?_
    refine lv_bipush (v := nI 6) hx hb d_M_work_151 (by decide) ?_
    refine lv_icmp_ne (tgt := 160) hx hb d_M_work_153 (by decide) (fun h => absurd (by decide) h) (fun _ => ?_)
    refine lv_iconst (v := nI 1) hx hb d_M_work_156 (by decide) ?_
    refine lv_goto (tgt := 161) hx hb d_M_work_157 (by decide) ?_
    refine x_callv (A := MS o) (va_runV (As := [.ref (o + 20), .ref x, .ref y, .int (nI 1)]) (rest := []) ⟨hx, hb, hml, hown, htw⟩ (m_signed l D cJ cI cQ cR o x y vx vy fl fx fy hxr hyr hvx hvy hNx hNy (nI 1) (by decide) hvp) (xcV 4 htw kw_367 kw_2 kw_364 kw_366 ks_M_signed rfl rfl ⟨by decide, by decide, by decide +kernel⟩ ⟨Nat.le_of_ble_eq_true rfl, Nat.le_of_ble_eq_true rfl⟩) (xPreV hK (hO.rv hK) ⟨hO, ⟨⟨_, h_18⟩, ⟨_, h_19⟩, ⟨_, h_20⟩, ⟨_, h_21, hN21⟩, ⟨_, h_22⟩, ⟨_, h_23⟩, ⟨_, h_24⟩⟩, h_X, h_Y⟩) rfl rfl hl.1 rfl (lv_room (Nat.le_of_ble_eq_true rfl)) d_M_work_161 ⟨Nat.le_of_ble_eq_true rfl, Nat.le_of_ble_eq_true rfl⟩) hlo (fun _ h => h) (fun H7 locs7 hB7 hlo => ?_)
    obtain ⟨hF7, ⟨⟨_, h_18⟩, ⟨_, h_19⟩, _, ⟨_, h_21, hN21⟩, ⟨_, h_22⟩, ⟨_, h_23⟩, ⟨_, h_24⟩⟩, f7, h_20, hN7⟩ := hB7
    have hG := MSS hG hF7
    refine lv_goto (tgt := 468) hx hb d_M_work_164 (by decide) ?_
    exact W.vret hx hb hr (fun t ht hW => ⟨rfl, by rw [ht]; exact hG, by rw [ht]; exact ⟨⟨_, h_18⟩, ⟨_, h_19⟩, ⟨_, h_20⟩, ⟨_, h_21, hN21⟩, ⟨_, h_22⟩, ⟨_, h_23⟩, ⟨_, h_24⟩⟩, _, by rw [ht]; exact h_20, NI_e hN7 (if_neg (by decide))⟩) hlo d_M_work_468
set_option maxHeartbeats 4000000 in
set_option maxRecDepth 100000 in
theorem m_work_7 (l : Launch) (D : va_G) (cJ cI cQ cR : ClassId) (o x y vx vy : Nat) (fl : Int32) (fx fy : Nat → Int32) (hxr : o + 2 ≤ x ∧ x < o + 18) (hyr : o + 2 ≤ y ∧ y < o + 18) (hvx : vx < 2 ^ 256) (hvy : vy < 2 ^ 256) (hNx : NI fx 8 vx) (hNy : NI fy 8 vy) : Met l y_M_work w_M_work { frames := 3, cells := 0, slots := 0, locals := 77 } (xP D vwCl (TY cJ cI cQ cR) [.ref o, .int (nI 7), .ref x, .ref y] (fun H => MB D cR o fl H ∧ SM cI o H ∧ hI H cI x 8 fx ∧ hI H cI y 8 fy)) (xQv (fun H0 H => XF (MS o) H0 H ∧ SM cI o H ∧ ∃ f : Nat → Int32, hI H cI (o + 20) 8 f ∧ NI f 8 (opv 7 vx vy))) 0 0 (MS o) := by
  refine Met.ofW (cc := b_M_work) (maxL := 12) (ret := none) (by decide) rfl ?_
  intro p e s m args below meth c s₁ B hml hv
  obtain ⟨rfl, hK, ⟨hO, hSM, h_X, h_Y⟩⟩ := hv
  have hx := B.exec
  have hb := B.bytes
  have hr := B.returns
  have hts := atoms_spec (ws := w_M_work) B.pre
  have htw : ∀ w ∈ WT, w.before _ s = true := fun w h => hts w (List.mem_cons_of_mem _ h)
  have hown : s.vm.findClass "WideNumbersModel" = some m.cls := findClass_of_methodNamed B.named
  have hlocks := B.notSynchronized
  have hJ : ArrOfT s cJ .long := (hK.2 0 _ rfl).1
  have hI9 : ArrOfT s cI .int := (hK.2 1 _ rfl).1
  have hl := lv_entry ([.ref o, .int (nI 7), .ref x, .ref y]) (n := 12) (Nat.le_of_ble_eq_true rfl)
  rw [lg_entry_eq]
  generalize (lg_sl ([.ref o, .int (nI 7), .ref x, .ref y]) ++ List.replicate (12 - (lg_sl ([.ref o, .int (nI 7), .ref x, .ref y])).length) Slot.unset).toArray = ls at hl ⊢
  have hl : lv_has ls 12 [(0, .ref o), (1, .int (nI 7)), (2, .ref x), (3, .ref y)] := hl
  obtain ⟨⟨f18, h_18⟩, ⟨f19, h_19⟩, ⟨f20, h_20⟩, ⟨f21, h_21, hN21⟩, ⟨f22, h_22⟩, ⟨f23, h_23⟩, ⟨f24, h_24⟩⟩ := hSM
  have hG : XF (MS o) s.heap s.heap := XF.rf
  have hlo : ∀ q ∈ ([] : List Loc), MS o q.base := fun _ h => nomatch h
  refine lv_iload_n hx hb d_M_work_0 rfl (lv_at hl 1 rfl) ?_
  refine lv_iconst (v := nI 2) hx hb d_M_work_1 (by decide) ?_
  refine lv_icmp_le (tgt := 22) hx hb d_M_work_2 (by decide) (fun h => absurd h (by decide)) (fun _ => ?_)
  refine lv_iload_n hx hb d_M_work_5 rfl (lv_at hl 1 rfl) ?_
  refine lv_bipush (v := nI 7) hx hb d_M_work_6 (by decide) ?_
  refine lv_icmp_ge (tgt := 22) hx hb d_M_work_8 (by decide) (fun _ => ?_) (fun h => absurd (by decide) h)
  refine lv_iconst (v := nI 0) hx hb d_M_work_22 (by decide) ?_
  refine lv_istore hx hb d_M_work_23 hl (by decide) rfl (fun ls hl => ?_)
  have hl : lv_has ls 12 [(4, .int (nI 0)), (0, .ref o), (1, .int (nI 7)), (2, .ref x), (3, .ref y)] := hl
  refine lv_iload hx hb d_M_work_25 (lv_at hl 0 rfl) ?_
  refine lv_if_eq (tgt := 40) hx hb d_M_work_27 (by decide) (fun _ => ?_) (fun h => absurd (by decide) h)
  refine lv_iload_n hx hb d_M_work_40 rfl (lv_at hl 2 rfl) ?_
  refine lv_if_ne (tgt := 58) hx hb d_M_work_41 (by decide) (fun _ => ?_) (fun h => absurd h (by decide))
  refine lv_iload_n hx hb d_M_work_58 rfl (lv_at hl 2 rfl) ?_
  refine lv_iconst (v := nI 1) hx hb d_M_work_59 (by decide) ?_
  refine lv_icmp_ne (tgt := 75) hx hb d_M_work_60 (by decide) (fun _ => ?_) (fun h => absurd h (by decide))
  refine lv_iload_n hx hb d_M_work_75 rfl (lv_at hl 2 rfl) ?_
  refine lv_iconst (v := nI 2) hx hb d_M_work_76 (by decide) ?_
  refine lv_icmp_ne (tgt := 100) hx hb d_M_work_77 (by decide) (fun _ => ?_) (fun h => absurd h (by decide))
  refine lv_iload_n hx hb d_M_work_100 rfl (lv_at hl 2 rfl) ?_
  refine lv_iconst (v := nI 5) hx hb d_M_work_101 (by decide) ?_
  refine lv_icmp_ge (tgt := 137) hx hb d_M_work_102 (by decide) (fun _ => ?_) (fun h => absurd (by decide) h)
  refine lv_iload_n hx hb d_M_work_137 rfl (lv_at hl 2 rfl) ?_
  refine lv_bipush (v := nI 7) hx hb d_M_work_138 (by decide) ?_
  refine lv_icmp_ge (tgt := 167) hx hb d_M_work_140 (by decide) (fun _ => ?_) (fun h => absurd (by decide) h)
  refine lv_iload_n hx hb d_M_work_167 rfl (lv_at hl 2 rfl) ?_
  refine lv_bipush (v := nI 7) hx hb d_M_work_168 (by decide) ?_
  refine lv_icmp_ne (tgt := 182) hx hb d_M_work_170 (by decide) (fun h => absurd (by decide) h) (fun _ => ?_)
  refine lv_aload_n hx hb d_M_work_173 rfl (lv_at hl 1 rfl) ?_
  refine lv_aload_n hx hb d_M_work_174 rfl (lv_at hl 3 rfl) ?_
  refine lv_aload_n hx hb d_M_work_175 rfl (lv_at hl 4 rfl) ?_
  refine x_callv (A := MS o) (va_runV (As := [.ref x, .ref y]) (rest := []) ⟨hx, hb, hml, hown, htw⟩ (m_power l D cJ cI cQ cR o x y vx vy fl fx fy hxr hyr hvx hvy hNx hNy) (xcV 2 htw kw_382 kw_2 kw_379 kw_381 ks_M_power rfl rfl ⟨by decide, by decide, by decide +kernel⟩ ⟨Nat.le_of_ble_eq_true rfl, Nat.le_of_ble_eq_true rfl⟩) (xPreV hK (hO.rv hK) ⟨hO, ⟨⟨_, h_18⟩, ⟨_, h_19⟩, ⟨_, h_20⟩, ⟨_, h_21, hN21⟩, ⟨_, h_22⟩, ⟨_, h_23⟩, ⟨_, h_24⟩⟩, h_X, h_Y⟩) rfl rfl hl.1 rfl (lv_room (Nat.le_of_ble_eq_true rfl)) d_M_work_176 ⟨Nat.le_of_ble_eq_true rfl, Nat.le_of_ble_eq_true rfl⟩) hlo (fun _ h => h) (fun H7 locs7 hB7 hlo => ?_)
  obtain ⟨hF7, ⟨⟨_, h_18⟩, ⟨_, h_19⟩, _, ⟨_, h_21, hN21⟩, ⟨_, h_22⟩, ⟨_, h_23⟩, ⟨_, h_24⟩⟩, f7, h_20, hN7⟩ := hB7
  have hG := MSS hG hF7
  refine lv_goto (tgt := 468) hx hb d_M_work_179 (by decide) ?_
  exact W.vret hx hb hr (fun t ht hW => ⟨rfl, by rw [ht]; exact hG, by rw [ht]; exact ⟨⟨_, h_18⟩, ⟨_, h_19⟩, ⟨_, h_20⟩, ⟨_, h_21, hN21⟩, ⟨_, h_22⟩, ⟨_, h_23⟩, ⟨_, h_24⟩⟩, _, by rw [ht]; exact h_20, hN7⟩) hlo d_M_work_468
set_option maxHeartbeats 4000000 in
set_option maxRecDepth 100000 in
theorem m_work_8 (l : Launch) (D : va_G) (cJ cI cQ cR : ClassId) (o x y vx vy : Nat) (fl : Int32) (fx fy : Nat → Int32) (hxr : o + 2 ≤ x ∧ x < o + 18) (hyr : o + 2 ≤ y ∧ y < o + 18) (hvx : vx < 2 ^ 256) (hvy : vy < 2 ^ 256) (hNx : NI fx 8 vx) (hNy : NI fy 8 vy) : Met l y_M_work w_M_work { frames := 3, cells := 0, slots := 0, locals := 77 } (xP D vwCl (TY cJ cI cQ cR) [.ref o, .int (nI 8), .ref x, .ref y] (fun H => MB D cR o fl H ∧ SM cI o H ∧ hI H cI x 8 fx ∧ hI H cI y 8 fy)) (xQv (fun H0 H => XF (MS o) H0 H ∧ SM cI o H ∧ ∃ f : Nat → Int32, hI H cI (o + 20) 8 f ∧ NI f 8 (opv 8 vx vy))) 0 0 (MS o) := by
  refine Met.ofW (cc := b_M_work) (maxL := 12) (ret := none) (by decide) rfl ?_
  intro p e s m args below meth c s₁ B hml hv
  obtain ⟨rfl, hK, ⟨hO, hSM, h_X, h_Y⟩⟩ := hv
  have hx := B.exec
  have hb := B.bytes
  have hr := B.returns
  have hts := atoms_spec (ws := w_M_work) B.pre
  have htw : ∀ w ∈ WT, w.before _ s = true := fun w h => hts w (List.mem_cons_of_mem _ h)
  have hown : s.vm.findClass "WideNumbersModel" = some m.cls := findClass_of_methodNamed B.named
  have hlocks := B.notSynchronized
  have hJ : ArrOfT s cJ .long := (hK.2 0 _ rfl).1
  have hI9 : ArrOfT s cI .int := (hK.2 1 _ rfl).1
  have hl := lv_entry ([.ref o, .int (nI 8), .ref x, .ref y]) (n := 12) (Nat.le_of_ble_eq_true rfl)
  rw [lg_entry_eq]
  generalize (lg_sl ([.ref o, .int (nI 8), .ref x, .ref y]) ++ List.replicate (12 - (lg_sl ([.ref o, .int (nI 8), .ref x, .ref y])).length) Slot.unset).toArray = ls at hl ⊢
  have hl : lv_has ls 12 [(0, .ref o), (1, .int (nI 8)), (2, .ref x), (3, .ref y)] := hl
  obtain ⟨⟨f18, h_18⟩, ⟨f19, h_19⟩, ⟨f20, h_20⟩, ⟨f21, h_21, hN21⟩, ⟨f22, h_22⟩, ⟨f23, h_23⟩, ⟨f24, h_24⟩⟩ := hSM
  have hG : XF (MS o) s.heap s.heap := XF.rf
  have hlo : ∀ q ∈ ([] : List Loc), MS o q.base := fun _ h => nomatch h
  refine lv_iload_n hx hb d_M_work_0 rfl (lv_at hl 1 rfl) ?_
  refine lv_iconst (v := nI 2) hx hb d_M_work_1 (by decide) ?_
  refine lv_icmp_le (tgt := 22) hx hb d_M_work_2 (by decide) (fun h => absurd h (by decide)) (fun _ => ?_)
  refine lv_iload_n hx hb d_M_work_5 rfl (lv_at hl 1 rfl) ?_
  refine lv_bipush (v := nI 7) hx hb d_M_work_6 (by decide) ?_
  refine lv_icmp_ge (tgt := 22) hx hb d_M_work_8 (by decide) (fun _ => ?_) (fun h => absurd (by decide) h)
  refine lv_iconst (v := nI 0) hx hb d_M_work_22 (by decide) ?_
  refine lv_istore hx hb d_M_work_23 hl (by decide) rfl (fun ls hl => ?_)
  have hl : lv_has ls 12 [(4, .int (nI 0)), (0, .ref o), (1, .int (nI 8)), (2, .ref x), (3, .ref y)] := hl
  refine lv_iload hx hb d_M_work_25 (lv_at hl 0 rfl) ?_
  refine lv_if_eq (tgt := 40) hx hb d_M_work_27 (by decide) (fun _ => ?_) (fun h => absurd (by decide) h)
  refine lv_iload_n hx hb d_M_work_40 rfl (lv_at hl 2 rfl) ?_
  refine lv_if_ne (tgt := 58) hx hb d_M_work_41 (by decide) (fun _ => ?_) (fun h => absurd h (by decide))
  refine lv_iload_n hx hb d_M_work_58 rfl (lv_at hl 2 rfl) ?_
  refine lv_iconst (v := nI 1) hx hb d_M_work_59 (by decide) ?_
  refine lv_icmp_ne (tgt := 75) hx hb d_M_work_60 (by decide) (fun _ => ?_) (fun h => absurd h (by decide))
  refine lv_iload_n hx hb d_M_work_75 rfl (lv_at hl 2 rfl) ?_
  refine lv_iconst (v := nI 2) hx hb d_M_work_76 (by decide) ?_
  refine lv_icmp_ne (tgt := 100) hx hb d_M_work_77 (by decide) (fun _ => ?_) (fun h => absurd h (by decide))
  refine lv_iload_n hx hb d_M_work_100 rfl (lv_at hl 2 rfl) ?_
  refine lv_iconst (v := nI 5) hx hb d_M_work_101 (by decide) ?_
  refine lv_icmp_ge (tgt := 137) hx hb d_M_work_102 (by decide) (fun _ => ?_) (fun h => absurd (by decide) h)
  refine lv_iload_n hx hb d_M_work_137 rfl (lv_at hl 2 rfl) ?_
  refine lv_bipush (v := nI 7) hx hb d_M_work_138 (by decide) ?_
  refine lv_icmp_ge (tgt := 167) hx hb d_M_work_140 (by decide) (fun _ => ?_) (fun h => absurd (by decide) h)
  refine lv_iload_n hx hb d_M_work_167 rfl (lv_at hl 2 rfl) ?_
  refine lv_bipush (v := nI 7) hx hb d_M_work_168 (by decide) ?_
  refine lv_icmp_ne (tgt := 182) hx hb d_M_work_170 (by decide) (fun _ => ?_) (fun h => absurd h (by decide))
  refine lv_iload_n hx hb d_M_work_182 rfl (lv_at hl 2 rfl) ?_
  refine lv_bipush (v := nI 8) hx hb d_M_work_183 (by decide) ?_
  refine lv_icmp_ne (tgt := 197) hx hb d_M_work_185 (by decide) (fun h => absurd (by decide) h) (fun _ => ?_)
  refine lv_aload_n hx hb d_M_work_188 rfl (lv_at hl 1 rfl) ?_
  refine lv_aload_n hx hb d_M_work_189 rfl (lv_at hl 3 rfl) ?_
  refine lv_aload_n hx hb d_M_work_190 rfl (lv_at hl 4 rfl) ?_
  refine x_callv (A := MS o) (va_runV (As := [.ref x, .ref y]) (rest := []) ⟨hx, hb, hml, hown, htw⟩ (m_extend l D cJ cI cQ cR o x y vx vy fl fx fy hxr hyr hvx hvy hNx hNy) (xcV 2 htw kw_392 kw_2 kw_389 kw_391 ks_M_extend rfl rfl ⟨by decide, by decide, by decide +kernel⟩ ⟨Nat.le_of_ble_eq_true rfl, Nat.le_of_ble_eq_true rfl⟩) (xPreV hK (hO.rv hK) ⟨hO, ⟨⟨_, h_18⟩, ⟨_, h_19⟩, ⟨_, h_20⟩, ⟨_, h_21, hN21⟩, ⟨_, h_22⟩, ⟨_, h_23⟩, ⟨_, h_24⟩⟩, h_X, h_Y⟩) rfl rfl hl.1 rfl (lv_room (Nat.le_of_ble_eq_true rfl)) d_M_work_191 ⟨Nat.le_of_ble_eq_true rfl, Nat.le_of_ble_eq_true rfl⟩) hlo (fun _ h => h) (fun H7 locs7 hB7 hlo => ?_)
  obtain ⟨hF7, ⟨⟨_, h_18⟩, ⟨_, h_19⟩, _, ⟨_, h_21, hN21⟩, ⟨_, h_22⟩, ⟨_, h_23⟩, ⟨_, h_24⟩⟩, f7, h_20, hN7⟩ := hB7
  have hG := MSS hG hF7
  refine lv_goto (tgt := 468) hx hb d_M_work_194 (by decide) ?_
  exact W.vret hx hb hr (fun t ht hW => ⟨rfl, by rw [ht]; exact hG, by rw [ht]; exact ⟨⟨_, h_18⟩, ⟨_, h_19⟩, ⟨_, h_20⟩, ⟨_, h_21, hN21⟩, ⟨_, h_22⟩, ⟨_, h_23⟩, ⟨_, h_24⟩⟩, _, by rw [ht]; exact h_20, hN7⟩) hlo d_M_work_468
