-- the law's helpers
theorem SC.f {cJ : ClassId} {o : Nat} {A : Nat → Prop} {H H1 : Heap} (h : SC cJ o H) (hF : XF A H H1) (ha : ∀ q, o ≤ q → q < o + 24 → ¬ A q) : SC cJ o H1 := by
  obtain ⟨⟨f18, h18⟩, ⟨f19, h19⟩, ⟨f20, h20⟩, ⟨f21, h21⟩, ⟨f22, h22⟩, ⟨f23, h23⟩⟩ := h
  exact ⟨⟨_, hL_f h18 hF (ha _ (by omega) (by omega))⟩, ⟨_, hL_f h19 hF (ha _ (by omega) (by omega))⟩, ⟨_, hL_f h20 hF (ha _ (by omega) (by omega))⟩, ⟨_, hL_f h21 hF (ha _ (by omega) (by omega))⟩, ⟨_, hL_f h22 hF (ha _ (by omega) (by omega))⟩, ⟨_, hL_f h23 hF (ha _ (by omega) (by omega))⟩⟩
theorem CO.f {D : va_G} {cJ cQ : ClassId} {o : Nat} {V : Nat → Nat} {A : Nat → Prop} {H H1 : Heap} (h : CO D cJ cQ o V H) (hF : XF A H H1) (ha : ∀ q, o ≤ q → q < o + 24 → ¬ A q) : CO D cJ cQ o V H1 := ⟨h.1.f hF (ha _ (by omega) (by omega)) (ha _ (by omega) (by omega)), h.2.1.f hF ha, h.2.2.f hF (fun r hr => ha _ (by omega) (by omega))⟩
def LA (o q : Nat) : Nat → Prop := fun z => CA o z ∨ z = q
theorem LAq {o q : Nat} {H H1 : Heap} (h : XF (fun z => z = q) H H1) : XF (LA o q) H H1 := h.wk (fun _ e => Or.inr e)
theorem XFn {A : Nat → Prop} {H H1 : Heap} (h : XF (fun _ => False) H H1) : XF A H H1 := h.wk (fun _ e => e.elim)
set_option maxHeartbeats 4000000 in
set_option maxRecDepth 100000 in
theorem l_set (l : Launch) (D : va_G) (cJ cI cQ cR : ClassId) (b0 sa : Nat) (hst : l.stackTraces = false) (o : Nat) (V : Nat → Nat) (hV : ∀ r, r < 16 → V r < 2 ^ 256) (r : Int32) (p0 p1 p2 p3 : Nat) (h0 : p0 < 18446744073709551616) (h1 : p1 < 18446744073709551616) (h2 : p2 < 18446744073709551616) (h3 : p3 < 18446744073709551616) : Met l y_L_set w_L_set { frames := 9, cells := 1, slots := 6, locals := 160 } (xPX D vwCl (TY cJ cI cQ cR) b0 sa [.ref o, .int r, .long (lN p0), .long (lN p1), .long (lN p2), .long (lN p3)] (fun H => CO D cJ cQ o V H)) (xQi (fun x H0 H => XF (CA o) H0 H ∧ ((x = nI 0 ∧ ∃ kr : Nat, kr < 16 ∧ r = nI kr ∧ CO D cJ cQ o (va_up V kr (sv p0 p1 p2 p3)) H) ∨ (x = nI 1 ∧ ¬ (vd r 16) ∧ CO D cJ cQ o V H)))) 1 6 (CA o) := by
  refine va_MetW (cc := b_L_set) (maxL := 11) (ret := some .int) (hh := [(0, 12, 15, 13)]) (by decide) rfl ?_
  intro p e s m args below meth c s₁ B hml hv
  obtain ⟨rfl, hK, hE, hC⟩ := hv
  have hx := B.exec
  have hb := B.bytes
  have hr := B.returns
  have hts := atoms_spec (ws := w_L_set) B.pre
  have htw : ∀ w ∈ WT, w.before _ s = true := fun w h => hts w (List.mem_cons_of_mem _ h)
  have hown : s.vm.findClass "WideNumbersLaw" = some m.cls := findClass_of_methodNamed B.named
  have hlocks := B.notSynchronized
  have htab : c.exceptionTable.toList = tableOf [(0, 12, 15, 13)] := vx_table (x := y_L_law) B (hts _ List.mem_cons_self)
  have hJ : ArrOfT s cJ .long := (hK.2 0 _ rfl).1
  have hl := lv_entry ([.ref o, .int r, .long (lN p0), .long (lN p1), .long (lN p2), .long (lN p3)]) (n := 11) (Nat.le_of_ble_eq_true rfl)
  rw [lg_entry_eq]
  generalize (lg_sl ([.ref o, .int r, .long (lN p0), .long (lN p1), .long (lN p2), .long (lN p3)]) ++ List.replicate (11 - (lg_sl ([.ref o, .int r, .long (lN p0), .long (lN p1), .long (lN p2), .long (lN p3)])).length) Slot.unset).toArray = ls at hl ⊢
  have hlo : ∀ z9 ∈ ([] : List Loc), (CA o) z9.base := fun _ h => nomatch h
  have hl : lv_has ls 11 [(0, .ref o), (1, .int r), (2, .long (lN p0)), (4, .long (lN p1)), (6, .long (lN p2)), (8, .long (lN p3))] := hl
  refine lv_aload_n hx hb d_L_set_0 rfl (lv_at hl 0 rfl) ?_
  refine lv_iload_n hx hb d_L_set_1 rfl (lv_at hl 1 rfl) ?_
  refine lv_lload_n hx hb d_L_set_2 rfl (lv_at hl 2 rfl) ?_
  refine lv_lload hx hb d_L_set_3 (lv_at hl 3 rfl) ?_
  refine lv_lload hx hb d_L_set_5 (lv_at hl 4 rfl) ?_
  refine lv_lload hx hb d_L_set_7 (lv_at hl 5 rfl) ?_
  refine x_xcallv (A := CA o) (vx_runV (As := [.int r, .long (lN p0), .long (lN p1), .long (lN p2), .long (lN p3)]) (rest := []) ⟨hx, hb, hml, hown, htw⟩ (c_set l D cJ cI cQ cR b0 sa hst o V hV r p0 p1 p2 p3 h0 h1 h2 h3) (xcV 5 htw kw_50 kw_1 kw_47 kw_48 kw_49 rfl rfl ⟨by decide, by decide, by decide +kernel⟩ ⟨Nat.le_of_ble_eq_true rfl, Nat.le_of_ble_eq_true rfl⟩) (xPreXV hK hE (fun _ _ _ => rfl) (hC.1.rv hK) hC) rfl rfl hl.1 rfl (lv_room (Nat.le_of_ble_eq_true rfl)) d_L_set_9 ⟨Nat.le_of_ble_eq_true rfl, Nat.le_of_ble_eq_true rfl⟩) hlo (fun _ h => h) (fun q9 ce H1 locs1 hB1 hlo hc9 hv9 hcl9 => ?_) (fun H1 locs1 hB1 hlo => ?_)
  · obtain ⟨hinv, hF⟩ := hB1
    refine vx_catch hown [] ⟨0, 12, 15, 13⟩ [] (by rw [htab]; rfl) (fun _ h => nomatch h) (by decide) (by decide) (htw _ kw_46) (va_Nw.use rfl hE.1.1) hc9 hv9 hcl9 ?_
    refine W.eq (g2 := F0 m 15 ls [.ref q9]) rfl ?_
    refine lv_astore hx hb d_L_set_15 hl (by decide) rfl (fun ls hl => ?_)
    have hl : lv_has ls 11 [(10, .ref q9), (0, .ref o), (1, .int r), (2, .long (lN p0)), (4, .long (lN p1)), (6, .long (lN p2)), (8, .long (lN p3))] := hl
    refine lv_iconst (v := nI 1) hx hb d_L_set_17 (by decide) ?_
    exact W.iret hx hb hr (fun t ht hW => ⟨_, rfl, by rw [ht]; exact XFn hF, Or.inr ⟨rfl, hinv, by rw [ht]; exact hC.f hF (fun _ _ _ h => h)⟩⟩) hlo d_L_set_18
  · obtain ⟨hF, kr, hkr, er, hC⟩ := hB1
    refine lv_goto (tgt := 19) hx hb d_L_set_12 (by decide) ?_
    refine lv_iconst (v := nI 0) hx hb d_L_set_19 (by decide) ?_
    exact W.iret hx hb hr (fun t ht hW => ⟨_, rfl, by rw [ht]; exact hF, Or.inl ⟨rfl, kr, hkr, er, by rw [ht]; exact hC⟩⟩) hlo d_L_set_20
set_option maxHeartbeats 4000000 in
set_option maxRecDepth 100000 in
theorem l_two (l : Launch) (D : va_G) (cJ cI cQ cR : ClassId) (b0 sa : Nat) (hst : l.stackTraces = false) (o : Nat) (V : Nat → Nat) (hV : ∀ r, r < 16 → V r < 2 ^ 256) (op to a b : Int32) : Met l y_L_two w_L_two { frames := 9, cells := 4, slots := 24, locals := 176 } (xPX D vwCl (TY cJ cI cQ cR) b0 sa [.ref o, .int op, .int to, .int a, .int b] (fun H => CO D cJ cQ o V H)) (xQi (fun x H0 H => XF (CA o) H0 H ∧ ((x = nI 0 ∧ ∃ ko kt ka kb : Nat, ko < 16 ∧ op = nI ko ∧ kt < 16 ∧ to = nI kt ∧ ka < 16 ∧ a = nI ka ∧ kb < 16 ∧ b = nI kb ∧ CO D cJ cQ o (va_up V kt (opv ko (V ka) (V kb))) H) ∨ (x = nI 1 ∧ ¬ (vd op 16 ∧ vd to 16 ∧ vd a 16 ∧ vd b 16) ∧ CO D cJ cQ o V H)))) 4 24 (CA o) := by
  refine va_MetW (cc := b_L_two) (maxL := 6) (ret := some .int) (hh := [(0, 9, 12, 13)]) (by decide) rfl ?_
  intro p e s m args below meth c s₁ B hml hv
  obtain ⟨rfl, hK, hE, hC⟩ := hv
  have hx := B.exec
  have hb := B.bytes
  have hr := B.returns
  have hts := atoms_spec (ws := w_L_two) B.pre
  have htw : ∀ w ∈ WT, w.before _ s = true := fun w h => hts w (List.mem_cons_of_mem _ h)
  have hown : s.vm.findClass "WideNumbersLaw" = some m.cls := findClass_of_methodNamed B.named
  have hlocks := B.notSynchronized
  have htab : c.exceptionTable.toList = tableOf [(0, 9, 12, 13)] := vx_table (x := y_L_law) B (hts _ List.mem_cons_self)
  have hJ : ArrOfT s cJ .long := (hK.2 0 _ rfl).1
  have hl := lv_entry ([.ref o, .int op, .int to, .int a, .int b]) (n := 6) (Nat.le_of_ble_eq_true rfl)
  rw [lg_entry_eq]
  generalize (lg_sl ([.ref o, .int op, .int to, .int a, .int b]) ++ List.replicate (6 - (lg_sl ([.ref o, .int op, .int to, .int a, .int b])).length) Slot.unset).toArray = ls at hl ⊢
  have hlo : ∀ z9 ∈ ([] : List Loc), (CA o) z9.base := fun _ h => nomatch h
  have hl : lv_has ls 6 [(0, .ref o), (1, .int op), (2, .int to), (3, .int a), (4, .int b)] := hl
  refine lv_aload_n hx hb d_L_two_0 rfl (lv_at hl 0 rfl) ?_
  refine lv_iload_n hx hb d_L_two_1 rfl (lv_at hl 1 rfl) ?_
  refine lv_iload_n hx hb d_L_two_2 rfl (lv_at hl 2 rfl) ?_
  refine lv_iload_n hx hb d_L_two_3 rfl (lv_at hl 3 rfl) ?_
  refine lv_iload hx hb d_L_two_4 (lv_at hl 4 rfl) ?_
  refine x_xcallv (A := CA o) (vx_runV (As := [.int op, .int to, .int a, .int b]) (rest := []) ⟨hx, hb, hml, hown, htw⟩ (c_two l D cJ cI cQ cR b0 sa hst o V hV op to a b) (xcV 4 htw kw_140 kw_1 kw_137 kw_138 kw_139 rfl rfl ⟨by decide, by decide, by decide +kernel⟩ ⟨Nat.le_of_ble_eq_true rfl, Nat.le_of_ble_eq_true rfl⟩) (xPreXV hK hE (fun _ _ _ => rfl) (hC.1.rv hK) hC) rfl rfl hl.1 rfl (lv_room (Nat.le_of_ble_eq_true rfl)) d_L_two_6 ⟨Nat.le_of_ble_eq_true rfl, Nat.le_of_ble_eq_true rfl⟩) hlo (fun _ h => h) (fun q9 ce H1 locs1 hB1 hlo hc9 hv9 hcl9 => ?_) (fun H1 locs1 hB1 hlo => ?_)
  · obtain ⟨hinv, hF⟩ := hB1
    refine vx_catch hown [] ⟨0, 9, 12, 13⟩ [] (by rw [htab]; rfl) (fun _ h => nomatch h) (by decide) (by decide) (htw _ kw_46) (va_Nw.use rfl hE.1.1) hc9 hv9 hcl9 ?_
    refine W.eq (g2 := F0 m 12 ls [.ref q9]) rfl ?_
    refine lv_astore hx hb d_L_two_12 hl (by decide) rfl (fun ls hl => ?_)
    have hl : lv_has ls 6 [(5, .ref q9), (0, .ref o), (1, .int op), (2, .int to), (3, .int a), (4, .int b)] := hl
    refine lv_iconst (v := nI 1) hx hb d_L_two_14 (by decide) ?_
    exact W.iret hx hb hr (fun t ht hW => ⟨_, rfl, by rw [ht]; exact XFn hF, Or.inr ⟨rfl, hinv, by rw [ht]; exact hC.f hF (fun _ _ _ h => h)⟩⟩) hlo d_L_two_15
  · obtain ⟨hF, ko, kt, ka, kb, g1, g2, g3, g4, g5, g6, g7, g8, hC⟩ := hB1
    refine lv_goto (tgt := 16) hx hb d_L_two_9 (by decide) ?_
    refine lv_iconst (v := nI 0) hx hb d_L_two_16 (by decide) ?_
    exact W.iret hx hb hr (fun t ht hW => ⟨_, rfl, by rw [ht]; exact hF, Or.inl ⟨rfl, ko, kt, ka, kb, g1, g2, g3, g4, g5, g6, g7, g8, by rw [ht]; exact hC⟩⟩) hlo d_L_two_17
set_option maxHeartbeats 4000000 in
set_option maxRecDepth 100000 in
theorem l_modular (l : Launch) (D : va_G) (cJ cI cQ cR : ClassId) (b0 sa : Nat) (hst : l.stackTraces = false) (o : Nat) (V : Nat → Nat) (hV : ∀ r, r < 16 → V r < 2 ^ 256) (to a b c1 z : Int32) : Met l y_L_modular w_L_modular { frames := 9, cells := 4, slots := 24, locals := 156 } (xPX D vwCl (TY cJ cI cQ cR) b0 sa [.ref o, .int to, .int a, .int b, .int c1, .int z] (fun H => CO D cJ cQ o V H)) (xQi (fun x H0 H => XF (CA o) H0 H ∧ ((x = nI 0 ∧ ∃ kt ka kb kc : Nat, kt < 16 ∧ to = nI kt ∧ ka < 16 ∧ a = nI ka ∧ kb < 16 ∧ b = nI kb ∧ kc < 16 ∧ c1 = nI kc ∧ CO D cJ cQ o (va_up V kt (mdv z (V ka) (V kb) (V kc))) H) ∨ (x = nI 1 ∧ ¬ (vd to 16 ∧ vd a 16 ∧ vd b 16 ∧ vd c1 16) ∧ CO D cJ cQ o V H)))) 4 24 (CA o) := by
  refine va_MetW (cc := b_L_modular) (maxL := 7) (ret := some .int) (hh := [(0, 11, 14, 13)]) (by decide) rfl ?_
  intro p e s m args below meth c s₁ B hml hv
  obtain ⟨rfl, hK, hE, hC⟩ := hv
  have hx := B.exec
  have hb := B.bytes
  have hr := B.returns
  have hts := atoms_spec (ws := w_L_modular) B.pre
  have htw : ∀ w ∈ WT, w.before _ s = true := fun w h => hts w (List.mem_cons_of_mem _ h)
  have hown : s.vm.findClass "WideNumbersLaw" = some m.cls := findClass_of_methodNamed B.named
  have hlocks := B.notSynchronized
  have htab : c.exceptionTable.toList = tableOf [(0, 11, 14, 13)] := vx_table (x := y_L_law) B (hts _ List.mem_cons_self)
  have hJ : ArrOfT s cJ .long := (hK.2 0 _ rfl).1
  have hl := lv_entry ([.ref o, .int to, .int a, .int b, .int c1, .int z]) (n := 7) (Nat.le_of_ble_eq_true rfl)
  rw [lg_entry_eq]
  generalize (lg_sl ([.ref o, .int to, .int a, .int b, .int c1, .int z]) ++ List.replicate (7 - (lg_sl ([.ref o, .int to, .int a, .int b, .int c1, .int z])).length) Slot.unset).toArray = ls at hl ⊢
  have hlo : ∀ z9 ∈ ([] : List Loc), (CA o) z9.base := fun _ h => nomatch h
  have hl : lv_has ls 7 [(0, .ref o), (1, .int to), (2, .int a), (3, .int b), (4, .int c1), (5, .int z)] := hl
  refine lv_aload_n hx hb d_L_modular_0 rfl (lv_at hl 0 rfl) ?_
  refine lv_iload_n hx hb d_L_modular_1 rfl (lv_at hl 1 rfl) ?_
  refine lv_iload_n hx hb d_L_modular_2 rfl (lv_at hl 2 rfl) ?_
  refine lv_iload_n hx hb d_L_modular_3 rfl (lv_at hl 3 rfl) ?_
  refine lv_iload hx hb d_L_modular_4 (lv_at hl 4 rfl) ?_
  refine lv_iload hx hb d_L_modular_6 (lv_at hl 5 rfl) ?_
  refine x_xcallv (A := CA o) (vx_runV (As := [.int to, .int a, .int b, .int c1, .int z]) (rest := []) ⟨hx, hb, hml, hown, htw⟩ (c_modular l D cJ cI cQ cR b0 sa hst o V hV to a b c1 z) (xcV 5 htw kw_243 kw_1 kw_240 kw_241 kw_242 rfl rfl ⟨by decide, by decide, by decide +kernel⟩ ⟨Nat.le_of_ble_eq_true rfl, Nat.le_of_ble_eq_true rfl⟩) (xPreXV hK hE (fun _ _ _ => rfl) (hC.1.rv hK) hC) rfl rfl hl.1 rfl (lv_room (Nat.le_of_ble_eq_true rfl)) d_L_modular_8 ⟨Nat.le_of_ble_eq_true rfl, Nat.le_of_ble_eq_true rfl⟩) hlo (fun _ h => h) (fun q9 ce H1 locs1 hB1 hlo hc9 hv9 hcl9 => ?_) (fun H1 locs1 hB1 hlo => ?_)
  · obtain ⟨hinv, hF⟩ := hB1
    refine vx_catch hown [] ⟨0, 11, 14, 13⟩ [] (by rw [htab]; rfl) (fun _ h => nomatch h) (by decide) (by decide) (htw _ kw_46) (va_Nw.use rfl hE.1.1) hc9 hv9 hcl9 ?_
    refine W.eq (g2 := F0 m 14 ls [.ref q9]) rfl ?_
    refine lv_astore hx hb d_L_modular_14 hl (by decide) rfl (fun ls hl => ?_)
    have hl : lv_has ls 7 [(6, .ref q9), (0, .ref o), (1, .int to), (2, .int a), (3, .int b), (4, .int c1), (5, .int z)] := hl
    refine lv_iconst (v := nI 1) hx hb d_L_modular_16 (by decide) ?_
    exact W.iret hx hb hr (fun t ht hW => ⟨_, rfl, by rw [ht]; exact XFn hF, Or.inr ⟨rfl, hinv, by rw [ht]; exact hC.f hF (fun _ _ _ h => h)⟩⟩) hlo d_L_modular_17
  · obtain ⟨hF, kt, ka, kb, kc, g1, g2, g3, g4, g5, g6, g7, g8, hC⟩ := hB1
    refine lv_goto (tgt := 18) hx hb d_L_modular_11 (by decide) ?_
    refine lv_iconst (v := nI 0) hx hb d_L_modular_18 (by decide) ?_
    exact W.iret hx hb hr (fun t ht hW => ⟨_, rfl, by rw [ht]; exact hF, Or.inl ⟨rfl, kt, ka, kb, kc, g1, g2, g3, g4, g5, g6, g7, g8, by rw [ht]; exact hC⟩⟩) hlo d_L_modular_19
set_option maxHeartbeats 4000000 in
set_option maxRecDepth 100000 in
theorem l_turn (l : Launch) (D : va_G) (cJ cI cQ cR : ClassId) (b0 sa : Nat) (hst : l.stackTraces = false) (o : Nat) (V : Nat → Nat) (hV : ∀ r, r < 16 → V r < 2 ^ 256) (to a z : Int32) : Met l y_L_turn w_L_turn { frames := 9, cells := 2, slots := 12, locals := 154 } (xPX D vwCl (TY cJ cI cQ cR) b0 sa [.ref o, .int to, .int a, .int z] (fun H => CO D cJ cQ o V H)) (xQi (fun x H0 H => XF (CA o) H0 H ∧ ((x = nI 0 ∧ ∃ kt ka : Nat, kt < 16 ∧ to = nI kt ∧ ka < 16 ∧ a = nI ka ∧ CO D cJ cQ o (va_up V kt (trn z (V ka))) H) ∨ (x = nI 1 ∧ ¬ (vd to 16 ∧ vd a 16) ∧ CO D cJ cQ o V H)))) 2 12 (CA o) := by
  refine va_MetW (cc := b_L_turn) (maxL := 5) (ret := some .int) (hh := [(0, 7, 10, 13)]) (by decide) rfl ?_
  intro p e s m args below meth c s₁ B hml hv
  obtain ⟨rfl, hK, hE, hC⟩ := hv
  have hx := B.exec
  have hb := B.bytes
  have hr := B.returns
  have hts := atoms_spec (ws := w_L_turn) B.pre
  have htw : ∀ w ∈ WT, w.before _ s = true := fun w h => hts w (List.mem_cons_of_mem _ h)
  have hown : s.vm.findClass "WideNumbersLaw" = some m.cls := findClass_of_methodNamed B.named
  have hlocks := B.notSynchronized
  have htab : c.exceptionTable.toList = tableOf [(0, 7, 10, 13)] := vx_table (x := y_L_law) B (hts _ List.mem_cons_self)
  have hJ : ArrOfT s cJ .long := (hK.2 0 _ rfl).1
  have hl := lv_entry ([.ref o, .int to, .int a, .int z]) (n := 5) (Nat.le_of_ble_eq_true rfl)
  rw [lg_entry_eq]
  generalize (lg_sl ([.ref o, .int to, .int a, .int z]) ++ List.replicate (5 - (lg_sl ([.ref o, .int to, .int a, .int z])).length) Slot.unset).toArray = ls at hl ⊢
  have hlo : ∀ z9 ∈ ([] : List Loc), (CA o) z9.base := fun _ h => nomatch h
  have hl : lv_has ls 5 [(0, .ref o), (1, .int to), (2, .int a), (3, .int z)] := hl
  refine lv_aload_n hx hb d_L_turn_0 rfl (lv_at hl 0 rfl) ?_
  refine lv_iload_n hx hb d_L_turn_1 rfl (lv_at hl 1 rfl) ?_
  refine lv_iload_n hx hb d_L_turn_2 rfl (lv_at hl 2 rfl) ?_
  refine lv_iload_n hx hb d_L_turn_3 rfl (lv_at hl 3 rfl) ?_
  refine x_xcallv (A := CA o) (vx_runV (As := [.int to, .int a, .int z]) (rest := []) ⟨hx, hb, hml, hown, htw⟩ (c_turn l D cJ cI cQ cR b0 sa hst o V hV to a z) (xcV 3 htw kw_250 kw_1 kw_247 kw_248 kw_249 rfl rfl ⟨by decide, by decide, by decide +kernel⟩ ⟨Nat.le_of_ble_eq_true rfl, Nat.le_of_ble_eq_true rfl⟩) (xPreXV hK hE (fun _ _ _ => rfl) (hC.1.rv hK) hC) rfl rfl hl.1 rfl (lv_room (Nat.le_of_ble_eq_true rfl)) d_L_turn_4 ⟨Nat.le_of_ble_eq_true rfl, Nat.le_of_ble_eq_true rfl⟩) hlo (fun _ h => h) (fun q9 ce H1 locs1 hB1 hlo hc9 hv9 hcl9 => ?_) (fun H1 locs1 hB1 hlo => ?_)
  · obtain ⟨hinv, hF⟩ := hB1
    refine vx_catch hown [] ⟨0, 7, 10, 13⟩ [] (by rw [htab]; rfl) (fun _ h => nomatch h) (by decide) (by decide) (htw _ kw_46) (va_Nw.use rfl hE.1.1) hc9 hv9 hcl9 ?_
    refine W.eq (g2 := F0 m 10 ls [.ref q9]) rfl ?_
    refine lv_astore hx hb d_L_turn_10 hl (by decide) rfl (fun ls hl => ?_)
    have hl : lv_has ls 5 [(4, .ref q9), (0, .ref o), (1, .int to), (2, .int a), (3, .int z)] := hl
    refine lv_iconst (v := nI 1) hx hb d_L_turn_12 (by decide) ?_
    exact W.iret hx hb hr (fun t ht hW => ⟨_, rfl, by rw [ht]; exact XFn hF, Or.inr ⟨rfl, hinv, by rw [ht]; exact hC.f hF (fun _ _ _ h => h)⟩⟩) hlo d_L_turn_13
  · obtain ⟨hF, kt, ka, g1, g2, g3, g4, hC⟩ := hB1
    refine lv_goto (tgt := 14) hx hb d_L_turn_7 (by decide) ?_
    refine lv_iconst (v := nI 0) hx hb d_L_turn_14 (by decide) ?_
    exact W.iret hx hb hr (fun t ht hW => ⟨_, rfl, by rw [ht]; exact hF, Or.inl ⟨rfl, kt, ka, g1, g2, g3, g4, by rw [ht]; exact hC⟩⟩) hlo d_L_turn_15
set_option maxHeartbeats 4000000 in
set_option maxRecDepth 100000 in
theorem l_get (l : Launch) (D : va_G) (cJ cI cQ cR : ClassId) (b0 sa : Nat) (hst : l.stackTraces = false) (o : Nat) (V : Nat → Nat) (hV : ∀ r, r < 16 → V r < 2 ^ 256) (r pt : Int32) (q : Nat) (fq : Nat → Int64) (hq : q < o ∨ o + 24 ≤ q) : Met l y_L_get w_L_get { frames := 9, cells := 2, slots := 12, locals := 154 } (xPX D vwCl (TY cJ cI cQ cR) b0 sa [.ref o, .int r, .int pt, .ref q] (fun H => CO D cJ cQ o V H ∧ hL H cJ q 1 fq)) (xQi (fun x H0 H => XF (LA o q) H0 H ∧ ((x = nI 0 ∧ ∃ kr kp : Nat, kr < 16 ∧ r = nI kr ∧ kp < 4 ∧ pt = nI kp ∧ CO D cJ cQ o (V) H ∧ ∃ f : Nat → Int64, hL H cJ q 1 f ∧ f 0 = lN (gp (V kr) kp)) ∨ (x = nI 1 ∧ ¬ (vd r 16 ∧ vd pt 4) ∧ CO D cJ cQ o V H ∧ ∃ f : Nat → Int64, hL H cJ q 1 f)))) 2 12 (LA o q) := by
  refine va_MetW (cc := b_L_get) (maxL := 5) (ret := some .int) (hh := [(0, 9, 12, 13)]) (by decide) rfl ?_
  intro p e s m args below meth c s₁ B hml hv
  obtain ⟨rfl, hK, hE, ⟨hC, hq1⟩⟩ := hv
  have hx := B.exec
  have hb := B.bytes
  have hr := B.returns
  have hts := atoms_spec (ws := w_L_get) B.pre
  have htw : ∀ w ∈ WT, w.before _ s = true := fun w h => hts w (List.mem_cons_of_mem _ h)
  have hown : s.vm.findClass "WideNumbersLaw" = some m.cls := findClass_of_methodNamed B.named
  have hlocks := B.notSynchronized
  have htab : c.exceptionTable.toList = tableOf [(0, 9, 12, 13)] := vx_table (x := y_L_law) B (hts _ List.mem_cons_self)
  have hJ : ArrOfT s cJ .long := (hK.2 0 _ rfl).1
  have hl := lv_entry ([.ref o, .int r, .int pt, .ref q]) (n := 5) (Nat.le_of_ble_eq_true rfl)
  rw [lg_entry_eq]
  generalize (lg_sl ([.ref o, .int r, .int pt, .ref q]) ++ List.replicate (5 - (lg_sl ([.ref o, .int r, .int pt, .ref q])).length) Slot.unset).toArray = ls at hl ⊢
  have hlo : ∀ z9 ∈ ([] : List Loc), (LA o q) z9.base := fun _ h => nomatch h
  have hl : lv_has ls 5 [(0, .ref o), (1, .int r), (2, .int pt), (3, .ref q)] := hl
  refine lv_aload_n hx hb d_L_get_0 rfl (lv_at hl 3 rfl) ?_
  refine lv_iconst (v := nI 0) hx hb d_L_get_1 (by decide) ?_
  refine lv_aload_n hx hb d_L_get_2 rfl (lv_at hl 0 rfl) ?_
  refine lv_iload_n hx hb d_L_get_3 rfl (lv_at hl 1 rfl) ?_
  refine lv_iload_n hx hb d_L_get_4 rfl (lv_at hl 2 rfl) ?_
  refine x_xcalll (A := LA o q) (vx_runV (As := [.int r, .int pt]) (rest := [.int (nI 0), .ref q]) ⟨hx, hb, hml, hown, htw⟩ (c_get l D cJ cI cQ cR b0 sa hst o V hV r pt) (xcV 2 htw kw_133 kw_1 kw_130 kw_131 kw_132 rfl rfl ⟨by decide, by decide, by decide +kernel⟩ ⟨Nat.le_of_ble_eq_true rfl, Nat.le_of_ble_eq_true rfl⟩) (xPreXV hK hE (fun _ _ _ => rfl) (hC.1.rv hK) hC) rfl rfl hl.1 rfl (lv_room (Nat.le_of_ble_eq_true rfl)) d_L_get_5 ⟨Nat.le_of_ble_eq_true rfl, Nat.le_of_ble_eq_true rfl⟩) hlo (fun _ h => Or.inl h) (fun q9 ce H1 locs1 hB1 hlo hc9 hv9 hcl9 => ?_) (fun x1 H1 locs1 hB1 hlo => ?_)
  · obtain ⟨hinv, hF⟩ := hB1
    refine vx_catch hown [] ⟨0, 9, 12, 13⟩ [] (by rw [htab]; rfl) (fun _ h => nomatch h) (by decide) (by decide) (htw _ kw_46) (va_Nw.use rfl hE.1.1) hc9 hv9 hcl9 ?_
    refine W.eq (g2 := F0 m 12 ls [.ref q9]) rfl ?_
    refine lv_astore hx hb d_L_get_12 hl (by decide) rfl (fun ls hl => ?_)
    have hl : lv_has ls 5 [(4, .ref q9), (0, .ref o), (1, .int r), (2, .int pt), (3, .ref q)] := hl
    refine lv_iconst (v := nI 1) hx hb d_L_get_14 (by decide) ?_
    exact W.iret hx hb hr (fun t ht hW => ⟨_, rfl, by rw [ht]; exact XFn hF, Or.inr ⟨rfl, hinv, by rw [ht]; exact hC.f hF (fun _ _ _ h => h), fq, by rw [ht]; exact hL_f hq1 hF (fun h => h)⟩⟩) hlo d_L_get_15
  · obtain ⟨rfl, kr, kp, g1, g2, g3, g4, e5⟩ := hB1
    refine x_last (A := LA o q) hx hb hJ hq1 hlo (Or.inr rfl) (0) (rfl) (by omega) (by omega) d_L_get_8 (fun H2 locs2 h2 hF2 hlo => ?_)
    refine lv_goto (tgt := 16) hx hb d_L_get_9 (by decide) ?_
    refine lv_iconst (v := nI 0) hx hb d_L_get_16 (by decide) ?_
    exact W.iret hx hb hr (fun t ht hW => ⟨_, rfl, by rw [ht]; exact LAq hF2, Or.inl ⟨rfl, kr, kp, g1, g2, g3, g4, by rw [ht]; exact hC.f hF2 (fun z h1 h2 h => by have h : z = q := h; omega), _, by rw [ht]; exact h2, by rw [pk_uLs]; exact e5⟩⟩) hlo d_L_get_17
set_option maxHeartbeats 4000000 in
set_option maxRecDepth 100000 in
theorem l_compare (l : Launch) (D : va_G) (cJ cI cQ cR : ClassId) (b0 sa : Nat) (hst : l.stackTraces = false) (o : Nat) (V : Nat → Nat) (hV : ∀ r, r < 16 → V r < 2 ^ 256) (a b z : Int32) (q : Nat) (fq : Nat → Int64) (hq : q < o ∨ o + 24 ≤ q) : Met l y_L_compare w_L_compare { frames := 9, cells := 2, slots := 12, locals := 155 } (xPX D vwCl (TY cJ cI cQ cR) b0 sa [.ref o, .int a, .int b, .int z, .ref q] (fun H => CO D cJ cQ o V H ∧ hL H cJ q 1 fq)) (xQi (fun x H0 H => XF (LA o q) H0 H ∧ ((x = nI 0 ∧ ∃ ka kb : Nat, ka < 16 ∧ a = nI ka ∧ kb < 16 ∧ b = nI kb ∧ CO D cJ cQ o (V) H ∧ ∃ f : Nat → Int64, hL H cJ q 1 f ∧ f 0 = (cmpv z (V ka) (V kb)).toInt64) ∨ (x = nI 1 ∧ ¬ (vd a 16 ∧ vd b 16) ∧ CO D cJ cQ o V H ∧ ∃ f : Nat → Int64, hL H cJ q 1 f)))) 2 12 (LA o q) := by
  refine va_MetW (cc := b_L_compare) (maxL := 6) (ret := some .int) (hh := [(0, 12, 15, 13)]) (by decide) rfl ?_
  intro p e s m args below meth c s₁ B hml hv
  obtain ⟨rfl, hK, hE, ⟨hC, hq1⟩⟩ := hv
  have hx := B.exec
  have hb := B.bytes
  have hr := B.returns
  have hts := atoms_spec (ws := w_L_compare) B.pre
  have htw : ∀ w ∈ WT, w.before _ s = true := fun w h => hts w (List.mem_cons_of_mem _ h)
  have hown : s.vm.findClass "WideNumbersLaw" = some m.cls := findClass_of_methodNamed B.named
  have hlocks := B.notSynchronized
  have htab : c.exceptionTable.toList = tableOf [(0, 12, 15, 13)] := vx_table (x := y_L_law) B (hts _ List.mem_cons_self)
  have hJ : ArrOfT s cJ .long := (hK.2 0 _ rfl).1
  have hl := lv_entry ([.ref o, .int a, .int b, .int z, .ref q]) (n := 6) (Nat.le_of_ble_eq_true rfl)
  rw [lg_entry_eq]
  generalize (lg_sl ([.ref o, .int a, .int b, .int z, .ref q]) ++ List.replicate (6 - (lg_sl ([.ref o, .int a, .int b, .int z, .ref q])).length) Slot.unset).toArray = ls at hl ⊢
  have hlo : ∀ z9 ∈ ([] : List Loc), (LA o q) z9.base := fun _ h => nomatch h
  have hl : lv_has ls 6 [(0, .ref o), (1, .int a), (2, .int b), (3, .int z), (4, .ref q)] := hl
  refine lv_aload hx hb d_L_compare_0 (lv_at hl 4 rfl) ?_
  refine lv_iconst (v := nI 0) hx hb d_L_compare_2 (by decide) ?_
  refine lv_aload_n hx hb d_L_compare_3 rfl (lv_at hl 0 rfl) ?_
  refine lv_iload_n hx hb d_L_compare_4 rfl (lv_at hl 1 rfl) ?_
  refine lv_iload_n hx hb d_L_compare_5 rfl (lv_at hl 2 rfl) ?_
  refine lv_iload_n hx hb d_L_compare_6 rfl (lv_at hl 3 rfl) ?_
  refine x_xcalli (A := LA o q) (vx_runV (As := [.int a, .int b, .int z]) (rest := [.int (nI 0), .ref q]) ⟨hx, hb, hml, hown, htw⟩ (c_compare l D cJ cI cQ cR b0 sa hst o V hV a b z) (xcV 3 htw kw_260 kw_1 kw_257 kw_258 kw_259 rfl rfl ⟨by decide, by decide, by decide +kernel⟩ ⟨Nat.le_of_ble_eq_true rfl, Nat.le_of_ble_eq_true rfl⟩) (xPreXV hK hE (fun _ _ _ => rfl) (hC.1.rv hK) hC) rfl rfl hl.1 rfl (lv_room (Nat.le_of_ble_eq_true rfl)) d_L_compare_7 ⟨Nat.le_of_ble_eq_true rfl, Nat.le_of_ble_eq_true rfl⟩) hlo (fun _ h => Or.inl h) (fun q9 ce H1 locs1 hB1 hlo hc9 hv9 hcl9 => ?_) (fun x1 H1 locs1 hB1 hlo => ?_)
  · obtain ⟨hinv, hF⟩ := hB1
    refine vx_catch hown [] ⟨0, 12, 15, 13⟩ [] (by rw [htab]; rfl) (fun _ h => nomatch h) (by decide) (by decide) (htw _ kw_46) (va_Nw.use rfl hE.1.1) hc9 hv9 hcl9 ?_
    refine W.eq (g2 := F0 m 15 ls [.ref q9]) rfl ?_
    refine lv_astore hx hb d_L_compare_15 hl (by decide) rfl (fun ls hl => ?_)
    have hl : lv_has ls 6 [(5, .ref q9), (0, .ref o), (1, .int a), (2, .int b), (3, .int z), (4, .ref q)] := hl
    refine lv_iconst (v := nI 1) hx hb d_L_compare_17 (by decide) ?_
    exact W.iret hx hb hr (fun t ht hW => ⟨_, rfl, by rw [ht]; exact XFn hF, Or.inr ⟨rfl, hinv, by rw [ht]; exact hC.f hF (fun _ _ _ h => h), fq, by rw [ht]; exact hL_f hq1 hF (fun h => h)⟩⟩) hlo d_L_compare_18
  · obtain ⟨rfl, ka, kb, g1, g2, g3, g4, e5⟩ := hB1
    refine lv_i2l (v := (x1).toInt64) hx hb d_L_compare_10 (rfl) ?_
    refine x_last (A := LA o q) hx hb hJ hq1 hlo (Or.inr rfl) (0) (rfl) (by omega) (by omega) d_L_compare_11 (fun H2 locs2 h2 hF2 hlo => ?_)
    refine lv_goto (tgt := 19) hx hb d_L_compare_12 (by decide) ?_
    refine lv_iconst (v := nI 0) hx hb d_L_compare_19 (by decide) ?_
    exact W.iret hx hb hr (fun t ht hW => ⟨_, rfl, by rw [ht]; exact LAq hF2, Or.inl ⟨rfl, ka, kb, g1, g2, g3, g4, by rw [ht]; exact hC.f hF2 (fun z h1 h2 h => by have h : z = q := h; omega), _, by rw [ht]; exact h2, by rw [pk_uLs, e5]⟩⟩) hlo d_L_compare_20
set_option maxHeartbeats 4000000 in
set_option maxRecDepth 100000 in
theorem l_bytes (l : Launch) (D : va_G) (cJ cI cQ cR : ClassId) (b0 sa : Nat) (hst : l.stackTraces = false) (o : Nat) (V : Nat → Nat) (hV : ∀ r, r < 16 → V r < 2 ^ 256) (a : Int32) (q : Nat) (fq : Nat → Int64) (hq : q < o ∨ o + 24 ≤ q) : Met l y_L_bytes w_L_bytes { frames := 9, cells := 1, slots := 6, locals := 152 } (xPX D vwCl (TY cJ cI cQ cR) b0 sa [.ref o, .int a, .ref q] (fun H => CO D cJ cQ o V H ∧ hL H cJ q 1 fq)) (xQi (fun x H0 H => XF (LA o q) H0 H ∧ ((x = nI 0 ∧ ∃ ka n : Nat, ka < 16 ∧ a = nI ka ∧ byv (V ka) n ∧ CO D cJ cQ o (V) H ∧ ∃ f : Nat → Int64, hL H cJ q 1 f ∧ f 0 = (nI n).toInt64) ∨ (x = nI 1 ∧ ¬ (vd a 16) ∧ CO D cJ cQ o V H ∧ ∃ f : Nat → Int64, hL H cJ q 1 f)))) 1 6 (LA o q) := by
  refine va_MetW (cc := b_L_bytes) (maxL := 4) (ret := some .int) (hh := [(0, 9, 12, 13)]) (by decide) rfl ?_
  intro p e s m args below meth c s₁ B hml hv
  obtain ⟨rfl, hK, hE, ⟨hC, hq1⟩⟩ := hv
  have hx := B.exec
  have hb := B.bytes
  have hr := B.returns
  have hts := atoms_spec (ws := w_L_bytes) B.pre
  have htw : ∀ w ∈ WT, w.before _ s = true := fun w h => hts w (List.mem_cons_of_mem _ h)
  have hown : s.vm.findClass "WideNumbersLaw" = some m.cls := findClass_of_methodNamed B.named
  have hlocks := B.notSynchronized
  have htab : c.exceptionTable.toList = tableOf [(0, 9, 12, 13)] := vx_table (x := y_L_law) B (hts _ List.mem_cons_self)
  have hJ : ArrOfT s cJ .long := (hK.2 0 _ rfl).1
  have hl := lv_entry ([.ref o, .int a, .ref q]) (n := 4) (Nat.le_of_ble_eq_true rfl)
  rw [lg_entry_eq]
  generalize (lg_sl ([.ref o, .int a, .ref q]) ++ List.replicate (4 - (lg_sl ([.ref o, .int a, .ref q])).length) Slot.unset).toArray = ls at hl ⊢
  have hlo : ∀ z9 ∈ ([] : List Loc), (LA o q) z9.base := fun _ h => nomatch h
  have hl : lv_has ls 4 [(0, .ref o), (1, .int a), (2, .ref q)] := hl
  refine lv_aload_n hx hb d_L_bytes_0 rfl (lv_at hl 2 rfl) ?_
  refine lv_iconst (v := nI 0) hx hb d_L_bytes_1 (by decide) ?_
  refine lv_aload_n hx hb d_L_bytes_2 rfl (lv_at hl 0 rfl) ?_
  refine lv_iload_n hx hb d_L_bytes_3 rfl (lv_at hl 1 rfl) ?_
  refine x_xcalli (A := LA o q) (vx_runV (As := [.int a]) (rest := [.int (nI 0), .ref q]) ⟨hx, hb, hml, hown, htw⟩ (c_bytes l D cJ cI cQ cR b0 sa hst o V hV a) (xcV 1 htw kw_267 kw_1 kw_264 kw_265 kw_266 rfl rfl ⟨by decide, by decide, by decide +kernel⟩ ⟨Nat.le_of_ble_eq_true rfl, Nat.le_of_ble_eq_true rfl⟩) (xPreXV hK hE (fun _ _ _ => rfl) (hC.1.rv hK) hC) rfl rfl hl.1 rfl (lv_room (Nat.le_of_ble_eq_true rfl)) d_L_bytes_4 ⟨Nat.le_of_ble_eq_true rfl, Nat.le_of_ble_eq_true rfl⟩) hlo (fun _ h => Or.inl h) (fun q9 ce H1 locs1 hB1 hlo hc9 hv9 hcl9 => ?_) (fun x1 H1 locs1 hB1 hlo => ?_)
  · obtain ⟨hinv, hF⟩ := hB1
    refine vx_catch hown [] ⟨0, 9, 12, 13⟩ [] (by rw [htab]; rfl) (fun _ h => nomatch h) (by decide) (by decide) (htw _ kw_46) (va_Nw.use rfl hE.1.1) hc9 hv9 hcl9 ?_
    refine W.eq (g2 := F0 m 12 ls [.ref q9]) rfl ?_
    refine lv_astore_n hx hb d_L_bytes_12 rfl hl (by decide) rfl (fun ls hl => ?_)
    have hl : lv_has ls 4 [(3, .ref q9), (0, .ref o), (1, .int a), (2, .ref q)] := hl
    refine lv_iconst (v := nI 1) hx hb d_L_bytes_13 (by decide) ?_
    exact W.iret hx hb hr (fun t ht hW => ⟨_, rfl, by rw [ht]; exact XFn hF, Or.inr ⟨rfl, hinv, by rw [ht]; exact hC.f hF (fun _ _ _ h => h), fq, by rw [ht]; exact hL_f hq1 hF (fun h => h)⟩⟩) hlo d_L_bytes_14
  · obtain ⟨rfl, ka, n, g1, g2, e5, g3, _⟩ := hB1
    refine lv_i2l (v := (x1).toInt64) hx hb d_L_bytes_7 (rfl) ?_
    refine x_last (A := LA o q) hx hb hJ hq1 hlo (Or.inr rfl) (0) (rfl) (by omega) (by omega) d_L_bytes_8 (fun H2 locs2 h2 hF2 hlo => ?_)
    refine lv_goto (tgt := 15) hx hb d_L_bytes_9 (by decide) ?_
    refine lv_iconst (v := nI 0) hx hb d_L_bytes_15 (by decide) ?_
    exact W.iret hx hb hr (fun t ht hW => ⟨_, rfl, by rw [ht]; exact LAq hF2, Or.inl ⟨rfl, ka, n, g1, g2, g3, by rw [ht]; exact hC.f hF2 (fun z h1 h2 h => by have h : z = q := h; omega), _, by rw [ht]; exact h2, by rw [pk_uLs, e5]⟩⟩) hlo d_L_bytes_16
