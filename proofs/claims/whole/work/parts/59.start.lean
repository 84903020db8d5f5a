set_option maxHeartbeats 4000000 in
set_option maxRecDepth 100000 in
/-- from the entry, for every script of at most 5120 ints, the law comes to its end with true -/
theorem whole_start {p : Program} {e : Env} {s : State} {m : MethodId} {below : List Frame} {meth : Method} {c : Code} (l : Launch) (hst : l.stackTraces = false) {b L : Nat} {xs : Nat → Int32} (hL : L ≤ 5120) (C0 : lw_At p s m meth c b L xs) : W p l e room_1 s m #[Value.ref b] below meth c s.heap [] 0 0 (lw_Z below #[Value.ref b] s) (entryFrame m ([Value.ref b] : List Value).toArray 8) := by
  obtain ⟨hx, hb, hr, hml, hown, hts, hX, hbl, hlocks, hgv⟩ := C0
  have htw : ∀ w ∈ WT, w.before #[Value.ref b] s = true := fun w h => hts w (List.mem_filter.mp h).1
  have hgs := flat_of_before _ hgv
  obtain ⟨D, cJ, cI, cQ, cR, hK, hA⟩ := law_K hts htw
  obtain ⟨sa, hE⟩ := law_E hts htw hgs
  obtain ⟨o, ho⟩ : ∃ o, s.heap.size = o := ⟨_, rfl⟩
  rw [ho] at hE
  have hJ2 : s.vm.findClass ("[" ++ FieldType.long.toString) = some cJ := (hK.2 0 _ rfl).2
  have hC : LCt p l s m c D cJ cI cQ cR sa o b L xs := ⟨hx, hb, hml, hown, htw, hX, hbl, hK, hE, hst, ho, hL⟩
  have hl := lv_entry ([.ref b]) (n := 8) (Nat.le_of_ble_eq_true rfl)
  rw [lg_entry_eq]
  generalize (lg_sl ([.ref b]) ++ List.replicate (8 - (lg_sl ([.ref b])).length) Slot.unset).toArray = ls at hl ⊢
  have hlo : ∀ q ∈ ([] : List Loc), o ≤ q.base := fun _ h => nomatch h
  have hF0 : XF (fun z => o ≤ z) s.heap s.heap := XF.rf
  have hl : lv_has ls 8 [(0, .ref b)] := hl
  refine x_newo (ci := 0) (fs := [.null, .null, .null, .null, .null, .null, .null]) (C := "WideNumbers") (T := F_C) (N := 7) hx hb htw inC t_C t_C_ok hown (htw _ kw_10) (htw _ kw_11) (htw _ kw_1) hK rfl (fun j hj => by rcases (show j = 0 ∨ j = 1 ∨ j = 2 ∨ j = 3 ∨ j = 4 ∨ j = 5 ∨ j = 6 by omega) with rfl | rfl | rfl | rfl | rfl | rfl | rfl <;> rfl) (Nat.le_of_ble_eq_true rfl) (Nat.le_of_ble_eq_true rfl) (o := o) ho d_L_law_0 (fun H1 hP hsz hN => ?_)
  refine lv_dup hx hb d_L_law_3 rfl ?_
  have hF0 := hF0.e hN
  refine x_callv (A := fun z => o ≤ z) (va_runI (As := []) (rest := [.ref o]) ⟨hx, hb, hml, hown, htw⟩ (c_init l D cJ cI cQ cR o) (xcI 0 htw kw_14 kw_1 kw_12 kw_13 rfl rfl rfl ⟨by decide, by decide, by decide +kernel⟩ ⟨Nat.le_of_ble_eq_true rfl, Nat.le_of_ble_eq_true rfl⟩) (xPreN hK hA ⟨hsz, hP⟩) rfl rfl hl.1 rfl (lv_room (Nat.le_of_ble_eq_true rfl)) d_L_law_4 ⟨Nat.le_of_ble_eq_true rfl, Nat.le_of_ble_eq_true rfl⟩) hlo (fun z h => by have h : @Eq Nat z (o) := h; show o ≤ z; omega) (fun H2 locs2 hB hlo => ?_)
  obtain ⟨hF2, hsz, hCO⟩ := hB
  have hF0 := hF0.tr hF2 (fun z h => by have h : z = o := h; omega)
  refine lv_astore_n hx hb d_L_law_7 rfl hl (by decide) rfl (fun ls hl => ?_)
  have hl : lv_has ls 8 [(1, .ref o), (0, .ref b)] := hl
  refine x_newo (ci := 1) (fs := [.int (nI 0), .null, .null, .null, .null, .null, .null, .null, .null]) (C := "WideNumbersModel") (T := F_M) (N := 9) hx hb htw inM t_M t_M_ok hown (htw _ kw_268) (htw _ kw_269) (htw _ kw_2) hK rfl (fun j hj => by rcases (show j = 0 ∨ j = 1 ∨ j = 2 ∨ j = 3 ∨ j = 4 ∨ j = 5 ∨ j = 6 ∨ j = 7 ∨ j = 8 by omega) with rfl | rfl | rfl | rfl | rfl | rfl | rfl | rfl | rfl <;> rfl) (Nat.le_of_ble_eq_true rfl) (Nat.le_of_ble_eq_true rfl) (o := o + 24) hsz d_L_law_8 (fun H3 hP hsz hN => ?_)
  refine lv_dup hx hb d_L_law_11 rfl ?_
  have hF0 := hF0.e hN
  have hCO := hCO.f hN (fun _ _ _ h => h)
  refine x_callv (A := fun z => o ≤ z) (va_runI (As := []) (rest := [.ref (o + 24)]) ⟨hx, hb, hml, hown, htw⟩ (m_init l D cJ cI cQ cR (o + 24)) (xcI 0 htw kw_272 kw_2 kw_270 kw_271 rfl rfl rfl ⟨by decide, by decide, by decide +kernel⟩ ⟨Nat.le_of_ble_eq_true rfl, Nat.le_of_ble_eq_true rfl⟩) (xPreN hK hA ⟨hsz, hP⟩) rfl rfl hl.1 rfl (lv_room (Nat.le_of_ble_eq_true rfl)) d_L_law_12 ⟨Nat.le_of_ble_eq_true rfl, Nat.le_of_ble_eq_true rfl⟩) hlo (fun z h => by have h : @Eq Nat z (o + 24) := h; show o ≤ z; omega) (fun H4 locs4 hB hlo => ?_)
  obtain ⟨hF4, hsz, hMO⟩ := hB
  have hF0 := hF0.tr hF4 (fun z h => by have h : z = o + 24 := h; omega)
  have hCO := hCO.f hF4 (fun z h1 h2 h => by have h : z = o + 24 := h; omega)
  refine lv_astore_n hx hb d_L_law_15 rfl hl (by decide) rfl (fun ls hl => ?_)
  have hl : lv_has ls 8 [(2, .ref (o + 24)), (1, .ref o), (0, .ref b)] := hl
  refine lv_iconst (v := nI 1) hx hb d_L_law_16 (by decide) ?_
  refine x_newr (atype := .long) (z := (1, .inr (.inl fun _ => 0))) hx hb (htw _ kw_42) hJ2 1 (by decide) (by decide) (by decide) (Nat.le_of_ble_eq_true rfl) (Nat.le_of_ble_eq_true rfl) hsz rfl d_L_law_17 (fun H5 hq hsz hN => ?_)
  have hF0 := hF0.e hN
  have hCO := hCO.f hN (fun _ _ _ h => h)
  have hMO := hMO.f hN (fun _ _ _ h => h)
  refine lv_astore_n hx hb d_L_law_19 rfl hl (by decide) rfl (fun ls hl => ?_)
  have hl : lv_has ls 8 [(3, .ref (o + 49)), (2, .ref (o + 24)), (1, .ref o), (0, .ref b)] := hl
  refine lv_iconst (v := nI (10 * 0)) hx hb d_L_law_20 (by decide) ?_
  refine lv_istore hx hb d_L_law_21 hl (by decide) rfl (fun ls hl => ?_)
  have hl : lv_has ls 8 [(4, .int (nI (10 * 0))), (3, .ref (o + 49)), (2, .ref (o + 24)), (1, .ref o), (0, .ref b)] := hl
  have hl : lv_has ls 8 [(4, .int (nI (10 * 0))), (0, .ref b), (1, .ref o), (2, .ref (o + 24)), (3, .ref (o + 49))] := lv_sub hl [0, 4, 3, 2, 1] rfl
  refine W.widen (k := 50 + 4 * 0) (n := 443 + 24 * 0) (by decide) (by decide) ?_
  exact law_loop hC hr hlocks (V := fun _ => 0) hl ⟨hlo, hF0, fun _ _ => pw_pos 256, hCO, ⟨_, hMO⟩, _, hq⟩
