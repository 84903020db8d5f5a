-- the reference with its registers
def RI (cI : ClassId) (o : Nat) (V : Nat → Nat) (H : Heap) : Prop := ∀ r, r < 16 → ∃ f : Nat → Int32, hI H cI (o + 2 + r) 8 f ∧ NI f 8 (V r)
def MO (D : va_G) (cI cR : ClassId) (o : Nat) (fl : Int32) (V : Nat → Nat) (H : Heap) : Prop := MB D cR o fl H ∧ SM cI o H ∧ RI cI o V H
def MA (o : Nat) : Nat → Prop := fun q => o ≤ q ∧ q < o + 25
theorem RI.f {cI : ClassId} {o : Nat} {V : Nat → Nat} {A : Nat → Prop} {H H1 : Heap} (h : RI cI o V H) (hF : XF A H H1) (ha : ∀ r, r < 16 → ¬ A (o + 2 + r)) : RI cI o V H1 := fun r hr => by
  obtain ⟨f, h1, h2⟩ := h r hr
  exact ⟨f, hI_f h1 hF (ha r hr), h2⟩
theorem RI.fS {cI : ClassId} {o : Nat} {V : Nat → Nat} {H H1 : Heap} (h : RI cI o V H) (hF : XF (MS o) H H1) : RI cI o V H1 := h.f hF (fun r hr => nMS (by omega))
theorem RI.f0 {cI : ClassId} {o : Nat} {V : Nat → Nat} {H H1 : Heap} (h : RI cI o V H) (hF : XF (fun q => q = o) H H1) : RI cI o V H1 := h.f hF (fun r hr e => by have e : o + 2 + r = o := e; omega)
theorem RI.put {cI : ClassId} {o k v : Nat} {V : Nat → Nat} {f : Nat → Int32} {H H1 : Heap} (h : RI cI o V H) (hF : XF (fun q => q = o + 2 + k) H H1) (hf : hI H1 cI (o + 2 + k) 8 f) (hN : NI f 8 v) : RI cI o (va_up V k v) H1 := fun r hr => by
  by_cases e : r = k
  · subst e
    exact ⟨f, hf, by rw [va_up_self]; exact hN⟩
  · obtain ⟨g, h1, h2⟩ := h r hr
    exact ⟨g, hI_f h1 hF (show o + 2 + r ≠ o + 2 + k by omega), by rw [va_up_ne _ _ e]; exact h2⟩
theorem SM.f1 {cI : ClassId} {o z : Nat} {H H1 : Heap} (h : SM cI o H) (hF : XF (fun q => q = z) H H1) (hz : z < o + 18) : SM cI o H1 := by
  obtain ⟨⟨f18, h18⟩, ⟨f19, h19⟩, ⟨f20, h20⟩, ⟨f21, h21, h21n⟩, ⟨f22, h22⟩, ⟨f23, h23⟩, ⟨f24, h24⟩⟩ := h
  exact ⟨⟨_, hI_f h18 hF (show o + 18 ≠ z by omega)⟩, ⟨_, hI_f h19 hF (show o + 19 ≠ z by omega)⟩, ⟨_, hI_f h20 hF (show o + 20 ≠ z by omega)⟩, ⟨_, hI_f h21 hF (show o + 21 ≠ z by omega), h21n⟩, ⟨_, hI_f h22 hF (show o + 22 ≠ z by omega)⟩, ⟨_, hI_f h23 hF (show o + 23 ≠ z by omega)⟩, ⟨_, hI_f h24 hF (show o + 24 ≠ z by omega)⟩⟩
theorem MAlo {o : Nat} {locs : List Loc} (h : ∀ q ∈ locs, q.base = o) : ∀ q ∈ locs, MA o q.base := fun q hq => by rw [h q hq]; exact ⟨by omega, by omega⟩
theorem MAx {o : Nat} {H H1 H2 : Heap} (h : XF (MA o) H H1) (hF : XF (MS o) H1 H2) : XF (MA o) H H2 := h.tr hF (fun q h => ⟨by have := h.1; omega, h.2⟩)
theorem MA0 {o : Nat} {H H1 : Heap} (h : XF (fun q => q = o) H H1) : XF (MA o) H H1 := h.wk (fun q h => by have h : q = o := h; rw [h]; exact ⟨by omega, by omega⟩)
theorem MB.rf {D : va_G} {cR : ClassId} {o : Nat} {fl : Int32} {H : Heap} (_ : MB D cR o fl H) : XF (MS o) H H := XF.rf
theorem flip_eq {v : Nat} (h : v < 2 ^ 256) : v ^^^ 2 ^ 255 = if 2 ^ 255 ≤ v then v - 2 ^ 255 else v + 2 ^ 255 := by
  have h1 : (v ^^^ 2 ^ 255) % 2 ^ 255 = v % 2 ^ 255 := by
    rw [Nat.xor_mod_two_pow, Nat.mod_self, Nat.xor_zero]
  have h2 : (v ^^^ 2 ^ 255) / 2 ^ 255 = v / 2 ^ 255 ^^^ 1 := by
    rw [Nat.xor_div_two_pow, Nat.div_self (pw_pos 255)]
  generalize v ^^^ 2 ^ 255 = X at h1 h2 ⊢
  rcases (show v / 2 ^ 255 = 0 ∨ v / 2 ^ 255 = 1 by omega) with e | e
  · rw [e] at h2
    rw [if_neg (by omega)]
    have h2 : X / 2 ^ 255 = 1 := h2
    omega
  · rw [e] at h2
    rw [if_pos (by omega)]
    have h2 : X / 2 ^ 255 = 0 := h2
    omega
theorem flip_lt {v : Nat} (h : v < 2 ^ 256) : v ^^^ 2 ^ 255 < 2 ^ 256 := Nat.xor_lt_two_pow h (by decide)
theorem d255 : ∀ j, j < 7 → dg (2 ^ 255) j = 0 := by decide +kernel
theorem flip_N {f : Nat → Int32} {v : Nat} (h : NI f 8 v) : NI (upd f 7 (nI (dg v 7 ^^^ 2147483648))) 8 (v ^^^ 2 ^ 255) := by
  intro j hj
  rw [dg_xor]
  by_cases e : j = 7
  · subst e
    rw [pk_us, show dg (2 ^ 255) 7 = 2147483648 by decide]
  · rw [pk_un e, h j hj, d255 j (by omega), Nat.xor_zero]
theorem ordv_c {a b c d : Nat} (h1 : a < b ↔ c < d) (h2 : a = b ↔ c = d) : ordv a b = ordv c d := by
  unfold ordv
  simp only [h1, h2]
theorem cmp_flip {z : Int32} {a b : Nat} (hz : z ≠ 0) (ha : a < 2 ^ 256) (hb : b < 2 ^ 256) : cmpv z a b = ordv (a ^^^ 2 ^ 255) (b ^^^ 2 ^ 255) := by
  rw [flip_eq ha, flip_eq hb]
  unfold cmpv
  rw [if_neg hz]
  by_cases h1 : 2 ^ 255 ≤ a <;> by_cases h2 : 2 ^ 255 ≤ b
  · rw [if_neg (fun h => h.2 h2), if_neg (fun h => h.1 h1), if_pos h1, if_pos h2]
    exact ordv_c (by omega) (by omega)
  · rw [if_pos ⟨h1, h2⟩, if_pos h1, if_neg h2]
    unfold ordv
    rw [if_pos (by omega)]
  · rw [if_neg (fun h => h1 h.1), if_pos ⟨h1, h2⟩, if_neg h1, if_pos h2]
    unfold ordv
    rw [if_neg (by omega), if_neg (by omega)]
  · rw [if_neg (fun h => h1 h.1), if_neg (fun h => h2 h.2), if_neg h1, if_neg h2]
    exact ordv_c (by omega) (by omega)
theorem byv_un {v n k : Nat} (h1 : byv v n) (h2 : byv v k) : n = k := by
  have g : ∀ {x y : Nat}, byv v x → byv v y → x ≤ y := fun {x y} p q => Decidable.byContradiction (fun h => by
    rcases p.2 with e | e
    · omega
    · have e2 : 2 ^ (8 * y) ≤ 2 ^ (8 * (x - 1)) := pw_le (by omega)
      have e3 := q.1
      omega)
  exact Nat.le_antisymm (g h1 h2) (g h2 h1)
theorem by_mods (v i : Nat) : v % 2 ^ (8 * (i + 1)) = v % 2 ^ (8 * i) + 2 ^ (8 * i) * (v / 2 ^ (8 * i) % 256) := by
  rw [show 8 * (i + 1) = 8 * i + 8 by omega, Nat.pow_add, Nat.mod_mul]
theorem by_0 {v i n : Nat} (h : byv (v % 2 ^ (8 * i)) n) (h0 : v / 2 ^ (8 * i) % 256 = 0) : byv (v % 2 ^ (8 * (i + 1))) n := by
  rw [by_mods, h0, Nat.mul_zero, Nat.add_zero]
  exact h
theorem by_1 {v i : Nat} (h0 : v / 2 ^ (8 * i) % 256 ≠ 0) : byv (v % 2 ^ (8 * (i + 1))) (i + 1) := by
  refine ⟨Nat.mod_lt _ (pw_pos _), Or.inr ?_⟩
  rw [by_mods, show 8 * (i + 1 - 1) = 8 * i by omega]
  have h1 : 2 ^ (8 * i) * 1 ≤ 2 ^ (8 * i) * (v / 2 ^ (8 * i) % 256) := Nat.mul_le_mul_left _ (by omega)
  omega
theorem by_4 {v k : Nat} : dg v (k / 4) / 2 ^ (8 * (k % 4)) % 256 = v / 2 ^ (8 * k) % 256 := by
  rw [← by_8 v k, show 8 * k / 32 = k / 4 by omega, show 8 * k % 32 = 8 * (k % 4) by omega]
theorem XF_q {D : va_G} {cR : ClassId} {o : Nat} {fl : Int32} {H : Heap} (k : Nat) (_ : MB D cR o fl H) : XF (fun q => q = k) H H := XF.rf
theorem nI_ngt {q : Nat} (h : q < 16) : ¬ nI 15 < nI q := fun hc => absurd (nI_le (show q ≤ 15 by omega) (by decide)) (Int32.not_le.mpr hc)
theorem nI_lt16 {k : Nat} (hk : k < 2 ^ 31) (h : ¬ nI 15 < nI k) : k < 16 := by
  have := (nI_leI hk (by decide)).mp (Int32.not_lt.mp h)
  omega
set_option maxHeartbeats 4000000 in
set_option maxRecDepth 100000 in
theorem m_fail (l : Launch) (D : va_G) (cJ cI cQ cR : ClassId) (o : Nat) (fl v : Int32) : Met l y_M_fail w_M_fail { frames := 0, cells := 0, slots := 0, locals := 0 } (xP D vwCl (TY cJ cI cQ cR) [.ref o, .int v] (fun H => MB D cR o fl H)) (xQi (fun r H0 H => XF (fun q => q = o) H0 H ∧ r = 0 ∧ MB D cR o v H)) 0 0 (fun q => q = o) := by
  refine Met.ofW (cc := b_M_fail) (maxL := 2) (ret := some .int) (by decide) rfl ?_
  intro p e s m args below meth c s₁ B hml hv
  obtain ⟨rfl, hK, hO⟩ := hv
  have hx := B.exec
  have hb := B.bytes
  have hr := B.returns
  have hts := atoms_spec (ws := w_M_fail) B.pre
  have htw : ∀ w ∈ WT, w.before _ s = true := fun w h => hts w (List.mem_cons_of_mem _ h)
  have hown : s.vm.findClass "WideNumbersModel" = some m.cls := findClass_of_methodNamed B.named
  have hlocks := B.notSynchronized
  have hJ : ArrOfT s cJ .long := (hK.2 0 _ rfl).1
  have hI9 : ArrOfT s cI .int := (hK.2 1 _ rfl).1
  have hl := lv_entry ([.ref o, .int v]) (n := 2) (Nat.le_of_ble_eq_true rfl)
  rw [lg_entry_eq]
  generalize (lg_sl ([.ref o, .int v]) ++ List.replicate (2 - (lg_sl ([.ref o, .int v])).length) Slot.unset).toArray = ls at hl ⊢
  have hl : lv_has ls 2 [(0, .ref o), (1, .int v)] := hl
  refine lv_aload_n hx hb d_M_fail_0 rfl (lv_at hl 0 rfl) ?_
  refine lv_iload_n hx hb d_M_fail_1 rfl (lv_at hl 1 rfl) ?_
  refine x_fail hx hb htw hown hK hO (fun _ h => nomatch h) d_M_fail_2 (fun H1 locs1 hO hF1 hlo => ?_)
  refine lv_iconst (v := nI 0) hx hb d_M_fail_5 (by decide) ?_
  exact W.iret hx hb hr (fun t ht hW => ⟨_, rfl, by rw [ht]; exact hF1, rfl, by rw [ht]; exact hO⟩) hlo d_M_fail_6
set_option maxHeartbeats 4000000 in
set_option maxRecDepth 100000 in
theorem m_thrown (l : Launch) (D : va_G) (cJ cI cQ cR : ClassId) (o : Nat) (fl : Int32) : Met l y_M_thrown w_M_thrown { frames := 0, cells := 0, slots := 0, locals := 0 } (xP D vwCl (TY cJ cI cQ cR) [.ref o] (fun H => MB D cR o fl H)) (xQi (fun r H0 H => H = H0 ∧ r = fl)) 0 0 (fun _ => False) := by
  refine Met.ofW (cc := b_M_thrown) (maxL := 1) (ret := some .int) (by decide) rfl ?_
  intro p e s m args below meth c s₁ B hml hv
  obtain ⟨rfl, hK, hO⟩ := hv
  have hx := B.exec
  have hb := B.bytes
  have hr := B.returns
  have hts := atoms_spec (ws := w_M_thrown) B.pre
  have htw : ∀ w ∈ WT, w.before _ s = true := fun w h => hts w (List.mem_cons_of_mem _ h)
  have hown : s.vm.findClass "WideNumbersModel" = some m.cls := findClass_of_methodNamed B.named
  have hlocks := B.notSynchronized
  have hJ : ArrOfT s cJ .long := (hK.2 0 _ rfl).1
  have hI9 : ArrOfT s cI .int := (hK.2 1 _ rfl).1
  have hl := lv_entry ([.ref o]) (n := 1) (Nat.le_of_ble_eq_true rfl)
  rw [lg_entry_eq]
  generalize (lg_sl ([.ref o]) ++ List.replicate (1 - (lg_sl ([.ref o])).length) Slot.unset).toArray = ls at hl ⊢
  have hl : lv_has ls 1 [(0, .ref o)] := hl
  refine lv_aload_n hx hb d_M_thrown_0 rfl (lv_at hl 0 rfl) ?_
  refine va_get (D := D) (ci := 1) (v := .int fl) (C := "WideNumbersModel") (T := F_M) (N := 9) hx hb htw inM hown hK hO.1 0 rfl rfl 0 (by decide) (htw _ kw_276) (fun _ h9 => h9) rfl d_M_thrown_1 ?_
  exact W.iret hx hb hr (fun t ht hW => ⟨_, rfl, ht, rfl⟩) (fun _ h => nomatch h) d_M_thrown_4
set_option maxHeartbeats 4000000 in
set_option maxRecDepth 100000 in
theorem m_set (l : Launch) (D : va_G) (cJ cI cQ cR : ClassId) (o : Nat) (fl : Int32) (V : Nat → Nat) (hV : ∀ r, r < 16 → V r < 2 ^ 256) (r : Int32) (p0 p1 p2 p3 : Nat) (h0 : p0 < 18446744073709551616) (h1 : p1 < 18446744073709551616) (h2 : p2 < 18446744073709551616) (h3 : p3 < 18446744073709551616) : Met l y_M_set_IJJJJV w_M_set_IJJJJV { frames := 1, cells := 0, slots := 0, locals := 21 } (xP D vwCl (TY cJ cI cQ cR) [.ref o, .int r, .long (lN p0), .long (lN p1), .long (lN p2), .long (lN p3)] (fun H => MO D cI cR o fl V H)) (xQv (fun H0 H => XF (MA o) H0 H ∧ ((∃ kr : Nat, kr < 16 ∧ r = nI kr ∧ MO D cI cR o (nI 0) (va_up V kr (sv p0 p1 p2 p3)) H) ∨ (¬ (vd r 16) ∧ MO D cI cR o (nI 1) V H)))) 0 0 (MA o) := by
  refine Met.ofW (cc := b_M_set_IJJJJV) (maxL := 13) (ret := none) (by decide) rfl ?_
  intro p e s m args below meth c s₁ B hml hv
  obtain ⟨rfl, hK, ⟨hO, hSM, hR⟩⟩ := hv
  have hx := B.exec
  have hb := B.bytes
  have hr := B.returns
  have hts := atoms_spec (ws := w_M_set_IJJJJV) B.pre
  have htw : ∀ w ∈ WT, w.before _ s = true := fun w h => hts w (List.mem_cons_of_mem _ h)
  have hown : s.vm.findClass "WideNumbersModel" = some m.cls := findClass_of_methodNamed B.named
  have hlocks := B.notSynchronized
  have hJ : ArrOfT s cJ .long := (hK.2 0 _ rfl).1
  have hI9 : ArrOfT s cI .int := (hK.2 1 _ rfl).1
  have hl := lv_entry ([.ref o, .int r, .long (lN p0), .long (lN p1), .long (lN p2), .long (lN p3)]) (n := 13) (Nat.le_of_ble_eq_true rfl)
  rw [lg_entry_eq]
  generalize (lg_sl ([.ref o, .int r, .long (lN p0), .long (lN p1), .long (lN p2), .long (lN p3)]) ++ List.replicate (13 - (lg_sl ([.ref o, .int r, .long (lN p0), .long (lN p1), .long (lN p2), .long (lN p3)])).length) Slot.unset).toArray = ls at hl ⊢
  have hl : lv_has ls 13 [(0, .ref o), (1, .int r), (2, .long (lN p0)), (4, .long (lN p1)), (6, .long (lN p2)), (8, .long (lN p3))] := hl
  have hR9 : ArrOfT s cR (.array .int) := (hK.2 3 _ rfl).1
  refine lv_aload_n hx hb d_M_set_IJJJJV_0 rfl (lv_at hl 0 rfl) ?_
  refine lv_iconst (v := nI 0) hx hb d_M_set_IJJJJV_1 (by decide) ?_
  refine x_fail hx hb htw hown hK hO (fun _ h => nomatch h) d_M_set_IJJJJV_2 (fun H1 locs1 hO hF1 hlo => ?_)
  have hSM := hSM.f1 hF1 (by omega)
  have hR := hR.f0 hF1
  refine lv_aload_n hx hb d_M_set_IJJJJV_5 rfl (lv_at hl 0 rfl) ?_
  refine lv_iload_n hx hb d_M_set_IJJJJV_6 rfl (lv_at hl 1 rfl) ?_
  refine x_calli (A := fun q => q = o) (va_runV (As := [.int r]) (rest := []) ⟨hx, hb, hml, hown, htw⟩ (m_out l D cJ cI cQ cR o r) (xcV 1 htw kw_316 kw_2 kw_313 kw_315 ks_M_out rfl rfl ⟨by decide, by decide, by decide +kernel⟩ ⟨Nat.le_of_ble_eq_true rfl, Nat.le_of_ble_eq_true rfl⟩) (xPreV hK (hO.rv hK) trivial) rfl rfl hl.1 rfl (lv_room (Nat.le_of_ble_eq_true rfl)) d_M_set_IJJJJV_7 ⟨Nat.le_of_ble_eq_true rfl, Nat.le_of_ble_eq_true rfl⟩) hlo (fun _ h => h.elim) (fun x9 H9 locs9 hB9 hlo => ?_)
  obtain ⟨rfl, hB9⟩ := hB9
  rcases hB9.symm with ⟨rfl, hinv⟩ | ⟨rfl, kr, hkr, rfl⟩
  · refine x_topi (v := nI 1) (rfl) ?_
    refine lv_if_eq (tgt := 21) hx hb d_M_set_IJJJJV_10 (by decide) (fun h => absurd h (by decide)) (fun _ => ?_)
    refine lv_aload_n hx hb d_M_set_IJJJJV_13 rfl (lv_at hl 0 rfl) ?_
    refine lv_iconst (v := nI 1) hx hb d_M_set_IJJJJV_14 (by decide) ?_
    refine x_fail hx hb htw hown hK hO hlo d_M_set_IJJJJV_15 (fun H2 locs2 hO hF2 hlo => ?_)
    have hSM := hSM.f1 hF2 (by omega)
    have hR := hR.f0 hF2
    refine lv_goto (tgt := 104) hx hb d_M_set_IJJJJV_18 (by decide) ?_
    exact W.vret hx hb hr (fun t ht hW => ⟨rfl, by rw [ht]; exact MA0 (hF1.tr hF2 (fun _ h => h)), Or.inr ⟨hinv, by rw [ht]; exact ⟨hO, hSM, hR⟩⟩⟩) (MAlo hlo) d_M_set_IJJJJV_104
  refine x_topi (v := nI 0) (rfl) ?_
  refine lv_if_eq (tgt := 21) hx hb d_M_set_IJJJJV_10 (by decide) (fun _ => ?_) (fun h => absurd (by decide) h)
  have hl : lv_has ls 13 [(0, .ref o), (1, .int (nI kr)), (2, .long (lN p0)), (4, .long (lN p1)), (6, .long (lN p2)), (8, .long (lN p3))] := hl
  obtain ⟨fkr, h_kr, hNkr⟩ := hR kr hkr
  have hvkr := hV kr hkr
  have hlo := MAlo hlo
  have hG := XF_q (o + 2 + kr) hO
  refine lv_iconst (v := nI 0) hx hb d_M_set_IJJJJV_21 (by decide) ?_
  refine lv_istore hx hb d_M_set_IJJJJV_22 hl (by decide) rfl (fun ls hl => ?_)
  have hl : lv_has ls 13 [(10, .int (nI 0)), (0, .ref o), (1, .int (nI kr)), (2, .long (lN p0)), (4, .long (lN p1)), (6, .long (lN p2)), (8, .long (lN p3))] := hl
  refine lv_iload hx hb d_M_set_IJJJJV_24 (lv_at hl 0 rfl) ?_
  refine lv_iconst (v := nI 4) hx hb d_M_set_IJJJJV_26 (by decide) ?_
  refine lv_icmp_ge (tgt := 104) hx hb d_M_set_IJJJJV_27 (by decide) (fun h => absurd h (by decide)) (fun _ => ?_)
  refine lv_iload hx hb d_M_set_IJJJJV_30 (lv_at hl 0 rfl) ?_
  refine lv_if_ne (tgt := 40) hx hb d_M_set_IJJJJV_32 (by decide) (fun h => absurd (by decide) h) (fun _ => ?_)
  refine lv_lload hx hb d_M_set_IJJJJV_35 (lv_at hl 6 rfl) ?_
  refine lv_goto (tgt := 63) hx hb d_M_set_IJJJJV_37 (by decide) ?_
  refine lv_lstore hx hb d_M_set_IJJJJV_63 hl (by decide) rfl (fun ls hl => ?_)
  have hl : lv_has ls 13 [(11, .long (lN p3)), (10, .int (nI 0)), (0, .ref o), (1, .int (nI kr)), (2, .long (lN p0)), (4, .long (lN p1)), (6, .long (lN p2)), (8, .long (lN p3))] := hl
  refine lv_aload_n hx hb d_M_set_IJJJJV_65 rfl (lv_at hl 2 rfl) ?_
  refine va_get (D := D) (ci := 1) (v := .ref (o + 1)) (C := "WideNumbersModel") (T := F_M) (N := 9) hx hb htw inM hown hK hO.1 0 rfl rfl 1 (by decide) (htw _ kw_277) (fun _ h9 => h9) rfl d_M_set_IJJJJV_66 ?_
  refine lv_iload_n hx hb d_M_set_IJJJJV_69 rfl (lv_at hl 3 rfl) ?_
  refine x_aald hx hb rfl hR9 hO.2 kr rfl hkr (by omega) (v := o + 2 + kr) (if_pos hkr) d_M_set_IJJJJV_70 ?_
  refine lv_iconst (v := nI 2) hx hb d_M_set_IJJJJV_71 (by decide) ?_
  refine lv_iload hx hb d_M_set_IJJJJV_72 (lv_at hl 1 rfl) ?_
  refine lv_imul hx hb d_M_set_IJJJJV_74 ?_
  refine x_topi (v := nI 0) (by decide) ?_
  refine lv_lload hx hb d_M_set_IJJJJV_75 (lv_at hl 0 rfl) ?_
  refine lv_l2i (v := nI p3) hx hb d_M_set_IJJJJV_77 (lN_i _) ?_
  refine x_topi (v := nI (p3 % 4294967296)) ((iN_mod _).symm) ?_
  refine x_iast (A := MA o) hx hb hI9 h_kr hlo (⟨by omega, by omega⟩) (0) (rfl) (by omega) (by omega) d_M_set_IJJJJV_78 (fun K0 lock0 h_kr hK0 hlo => ?_)
  have hO := hO.f1 hK0 (by omega)
  have hG := hG.tr hK0 (fun _ h => h)
  refine lv_aload_n hx hb d_M_set_IJJJJV_79 rfl (lv_at hl 2 rfl) ?_
  refine va_get (D := D) (ci := 1) (v := .ref (o + 1)) (C := "WideNumbersModel") (T := F_M) (N := 9) hx hb htw inM hown hK hO.1 0 rfl rfl 1 (by decide) (htw _ kw_277) (fun _ h9 => h9) rfl d_M_set_IJJJJV_80 ?_
  refine lv_iload_n hx hb d_M_set_IJJJJV_83 rfl (lv_at hl 3 rfl) ?_
  refine x_aald hx hb rfl hR9 hO.2 kr rfl hkr (by omega) (v := o + 2 + kr) (if_pos hkr) d_M_set_IJJJJV_84 ?_
  refine lv_iconst (v := nI 2) hx hb d_M_set_IJJJJV_85 (by decide) ?_
  refine lv_iload hx hb d_M_set_IJJJJV_86 (lv_at hl 1 rfl) ?_
  refine lv_imul hx hb d_M_set_IJJJJV_88 ?_
  refine x_topi (v := nI 0) (by decide) ?_
  refine lv_iconst (v := nI 1) hx hb d_M_set_IJJJJV_89 (by decide) ?_
  refine lv_iadd hx hb d_M_set_IJJJJV_90 ?_
  refine x_topi (v := nI 1) (by decide) ?_
  refine lv_lload hx hb d_M_set_IJJJJV_91 (lv_at hl 0 rfl) ?_
  refine lv_bipush (v := nI 32) hx hb d_M_set_IJJJJV_93 (by decide) ?_
  refine lv_lushr (v := lN (p3 / 4294967296)) hx hb d_M_set_IJJJJV_95 (jN_shr (k := 32) (by omega) (by decide)) ?_
  refine lv_l2i (v := nI (p3 / 4294967296)) hx hb d_M_set_IJJJJV_96 (lN_i _) ?_
  refine x_iast (A := MA o) hx hb hI9 h_kr hlo (⟨by omega, by omega⟩) (1) (rfl) (by omega) (by omega) d_M_set_IJJJJV_97 (fun L0 locl0 h_kr hL0 hlo => ?_)
  have hO := hO.f1 hL0 (by omega)
  have hG := hG.tr hL0 (fun _ h => h)
  refine lv_iinc (v := nI 1) (k := 1) hx hb d_M_set_IJJJJV_98 hl rfl (by decide) (by decide) rfl (fun ls hl => ?_)
  have hl : lv_has ls 13 [(10, .int (nI 1)), (11, .long (lN p3)), (0, .ref o), (1, .int (nI kr)), (2, .long (lN p0)), (4, .long (lN p1)), (6, .long (lN p2)), (8, .long (lN p3))] := hl
  refine lv_goto (tgt := 24) hx hb d_M_set_IJJJJV_101 (by decide) ?_
  refine lv_iload hx hb d_M_set_IJJJJV_24 (lv_at hl 0 rfl) ?_
  refine lv_iconst (v := nI 4) hx hb d_M_set_IJJJJV_26 (by decide) ?_
  refine lv_icmp_ge (tgt := 104) hx hb d_M_set_IJJJJV_27 (by decide) (fun h => absurd h (by decide)) (fun _ => ?_)
  refine lv_iload hx hb d_M_set_IJJJJV_30 (lv_at hl 0 rfl) ?_
  refine lv_if_ne (tgt := 40) hx hb d_M_set_IJJJJV_32 (by decide) (fun _ => ?_) (fun h => absurd h (by decide))
  refine lv_iload hx hb d_M_set_IJJJJV_40 (lv_at hl 0 rfl) ?_
  refine lv_iconst (v := nI 1) hx hb d_M_set_IJJJJV_42 (by decide) ?_
  refine lv_icmp_ne (tgt := 51) hx hb d_M_set_IJJJJV_43 (by decide) (fun h => absurd (by decide) h) (fun _ => ?_)
  refine lv_lload hx hb d_M_set_IJJJJV_46 (lv_at hl 6 rfl) ?_
  refine lv_goto (tgt := 63) hx hb d_M_set_IJJJJV_48 (by decide) ?_
  refine lv_lstore hx hb d_M_set_IJJJJV_63 hl (by decide) rfl (fun ls hl => ?_)
  have hl : lv_has ls 13 [(11, .long (lN p2)), (10, .int (nI 1)), (0, .ref o), (1, .int (nI kr)), (2, .long (lN p0)), (4, .long (lN p1)), (6, .long (lN p2)), (8, .long (lN p3))] := hl
  refine lv_aload_n hx hb d_M_set_IJJJJV_65 rfl (lv_at hl 2 rfl) ?_
  refine va_get (D := D) (ci := 1) (v := .ref (o + 1)) (C := "WideNumbersModel") (T := F_M) (N := 9) hx hb htw inM hown hK hO.1 0 rfl rfl 1 (by decide) (htw _ kw_277) (fun _ h9 => h9) rfl d_M_set_IJJJJV_66 ?_
  refine lv_iload_n hx hb d_M_set_IJJJJV_69 rfl (lv_at hl 3 rfl) ?_
  refine x_aald hx hb rfl hR9 hO.2 kr rfl hkr (by omega) (v := o + 2 + kr) (if_pos hkr) d_M_set_IJJJJV_70 ?_
  refine lv_iconst (v := nI 2) hx hb d_M_set_IJJJJV_71 (by decide) ?_
  refine lv_iload hx hb d_M_set_IJJJJV_72 (lv_at hl 1 rfl) ?_
  refine lv_imul hx hb d_M_set_IJJJJV_74 ?_
  refine x_topi (v := nI 2) (by decide) ?_
  refine lv_lload hx hb d_M_set_IJJJJV_75 (lv_at hl 0 rfl) ?_
  refine lv_l2i (v := nI p2) hx hb d_M_set_IJJJJV_77 (lN_i _) ?_
  refine x_topi (v := nI (p2 % 4294967296)) ((iN_mod _).symm) ?_
  refine x_iast (A := MA o) hx hb hI9 h_kr hlo (⟨by omega, by omega⟩) (2) (rfl) (by omega) (by omega) d_M_set_IJJJJV_78 (fun K1 lock1 h_kr hK1 hlo => ?_)
  have hO := hO.f1 hK1 (by omega)
  have hG := hG.tr hK1 (fun _ h => h)
  refine lv_aload_n hx hb d_M_set_IJJJJV_79 rfl (lv_at hl 2 rfl) ?_
  refine va_get (D := D) (ci := 1) (v := .ref (o + 1)) (C := "WideNumbersModel") (T := F_M) (N := 9) hx hb htw inM hown hK hO.1 0 rfl rfl 1 (by decide) (htw _ kw_277) (fun _ h9 => h9) rfl d_M_set_IJJJJV_80 ?_
  refine lv_iload_n hx hb d_M_set_IJJJJV_83 rfl (lv_at hl 3 rfl) ?_
  refine x_aald hx hb rfl hR9 hO.2 kr rfl hkr (by omega) (v := o + 2 + kr) (if_pos hkr) d_M_set_IJJJJV_84 ?_
  refine lv_iconst (v := nI 2) hx hb d_M_set_IJJJJV_85 (by decide) ?_
  refine lv_iload hx hb d_M_set_IJJJJV_86 (lv_at hl 1 rfl) ?_
  refine lv_imul hx hb d_M_set_IJJJJV_88 ?_
  refine x_topi (v := nI 2) (by decide) ?_
  refine lv_iconst (v := nI 1) hx hb d_M_set_IJJJJV_89 (by decide) ?_
  refine lv_iadd hx hb d_M_set_IJJJJV_90 ?_
  refine x_topi (v := nI 3) (by decide) ?_
  refine lv_lload hx hb d_M_set_IJJJJV_91 (lv_at hl 0 rfl) ?_
  refine lv_bipush (v := nI 32) hx hb d_M_set_IJJJJV_93 (by decide) ?_
  refine lv_lushr (v := lN (p2 / 4294967296)) hx hb d_M_set_IJJJJV_95 (jN_shr (k := 32) (by omega) (by decide)) ?_
  refine lv_l2i (v := nI (p2 / 4294967296)) hx hb d_M_set_IJJJJV_96 (lN_i _) ?_
  refine x_iast (A := MA o) hx hb hI9 h_kr hlo (⟨by omega, by omega⟩) (3) (rfl) (by omega) (by omega) d_M_set_IJJJJV_97 (fun L1 locl1 h_kr hL1 hlo => ?_)
  have hO := hO.f1 hL1 (by omega)
  have hG := hG.tr hL1 (fun _ h => h)
  refine lv_iinc (v := nI 2) (k := 1) hx hb d_M_set_IJJJJV_98 hl rfl (by decide) (by decide) rfl (fun ls hl => ?_)
  have hl : lv_has ls 13 [(10, .int (nI 2)), (11, .long (lN p2)), (0, .ref o), (1, .int (nI kr)), (2, .long (lN p0)), (4, .long (lN p1)), (6, .long (lN p2)), (8, .long (lN p3))] := hl
  refine lv_goto (tgt := 24) hx hb d_M_set_IJJJJV_101 (by decide) ?_
  refine lv_iload hx hb d_M_set_IJJJJV_24 (lv_at hl 0 rfl) ?_
  refine lv_iconst (v := nI 4) hx hb d_M_set_IJJJJV_26 (by decide) ?_
  refine lv_icmp_ge (tgt := 104) hx hb d_M_set_IJJJJV_27 (by decide) (fun h => absurd h (by decide)) (fun _ => ?_)
  refine lv_iload hx hb d_M_set_IJJJJV_30 (lv_at hl 0 rfl) ?_
  refine lv_if_ne (tgt := 40) hx hb d_M_set_IJJJJV_32 (by decide) (fun _ => ?_) (fun h => absurd h (by decide))
  refine lv_iload hx hb d_M_set_IJJJJV_40 (lv_at hl 0 rfl) ?_
  refine lv_iconst (v := nI 1) hx hb d_M_set_IJJJJV_42 (by decide) ?_
  refine lv_icmp_ne (tgt := 51) hx hb d_M_set_IJJJJV_43 (by decide) (fun _ => ?_) (fun h => absurd h (by decide))
  refine lv_iload hx hb d_M_set_IJJJJV_51 (lv_at hl 0 rfl) ?_
  refine lv_iconst (v := nI 2) hx hb d_M_set_IJJJJV_53 (by decide) ?_
  refine lv_icmp_ne (tgt := 62) hx hb d_M_set_IJJJJV_54 (by decide) (fun h => absurd (by decide) h) (fun _ => ?_)
  refine lv_lload hx hb d_M_set_IJJJJV_57 (lv_at hl 5 rfl) ?_
  refine lv_goto (tgt := 63) hx hb d_M_set_IJJJJV_59 (by decide) ?_
  refine lv_lstore hx hb d_M_set_IJJJJV_63 hl (by decide) rfl (fun ls hl => ?_)
  have hl : lv_has ls 13 [(11, .long (lN p1)), (10, .int (nI 2)), (0, .ref o), (1, .int (nI kr)), (2, .long (lN p0)), (4, .long (lN p1)), (6, .long (lN p2)), (8, .long (lN p3))] := hl
  refine lv_aload_n hx hb d_M_set_IJJJJV_65 rfl (lv_at hl 2 rfl) ?_
  refine va_get (D := D) (ci := 1) (v := .ref (o + 1)) (C := "WideNumbersModel") (T := F_M) (N := 9) hx hb htw inM hown hK hO.1 0 rfl rfl 1 (by decide) (htw _ kw_277) (fun _ h9 => h9) rfl d_M_set_IJJJJV_66 ?_
  refine lv_iload_n hx hb d_M_set_IJJJJV_69 rfl (lv_at hl 3 rfl) ?_
  refine x_aald hx hb rfl hR9 hO.2 kr rfl hkr (by omega) (v := o + 2 + kr) (if_pos hkr) d_M_set_IJJJJV_70 ?_
  refine lv_iconst (v := nI 2) hx hb d_M_set_IJJJJV_71 (by decide) ?_
  refine lv_iload hx hb d_M_set_IJJJJV_72 (lv_at hl 1 rfl) ?_
  refine lv_imul hx hb d_M_set_IJJJJV_74 ?_
  refine x_topi (v := nI 4) (by decide) ?_
  refine lv_lload hx hb d_M_set_IJJJJV_75 (lv_at hl 0 rfl) ?_
  refine lv_l2i (v := nI p1) hx hb d_M_set_IJJJJV_77 (lN_i _) ?_
  refine x_topi (v := nI (p1 % 4294967296)) ((iN_mod _).symm) ?_
  refine x_iast (A := MA o) hx hb hI9 h_kr hlo (⟨by omega, by omega⟩) (4) (rfl) (by omega) (by omega) d_M_set_IJJJJV_78 (fun K2 lock2 h_kr hK2 hlo => ?_)
  have hO := hO.f1 hK2 (by omega)
  have hG := hG.tr hK2 (fun _ h => h)
  refine lv_aload_n hx hb d_M_set_IJJJJV_79 rfl (lv_at hl 2 rfl) ?_
  refine va_get (D := D) (ci := 1) (v := .ref (o + 1)) (C := "WideNumbersModel") (T := F_M) (N := 9) hx hb htw inM hown hK hO.1 0 rfl rfl 1 (by decide) (htw _ kw_277) (fun _ h9 => h9) rfl d_M_set_IJJJJV_80 ?_
  refine lv_iload_n hx hb d_M_set_IJJJJV_83 rfl (lv_at hl 3 rfl) ?_
  refine x_aald hx hb rfl hR9 hO.2 kr rfl hkr (by omega) (v := o + 2 + kr) (if_pos hkr) d_M_set_IJJJJV_84 ?_
  refine lv_iconst (v := nI 2) hx hb d_M_set_IJJJJV_85 (by decide) ?_
  refine lv_iload hx hb d_M_set_IJJJJV_86 (lv_at hl 1 rfl) ?_
  refine lv_imul hx hb d_M_set_IJJJJV_88 ?_
  refine x_topi (v := nI 4) (by decide) ?_
  refine lv_iconst (v := nI 1) hx hb d_M_set_IJJJJV_89 (by decide) ?_
  refine lv_iadd hx hb d_M_set_IJJJJV_90 ?_
  refine x_topi (v := nI 5) (by decide) ?_
  refine lv_lload hx hb d_M_set_IJJJJV_91 (lv_at hl 0 rfl) ?_
  refine lv_bipush (v := nI 32) hx hb d_M_set_IJJJJV_93 (by decide) ?_
  refine lv_lushr (v := lN (p1 / 4294967296)) hx hb d_M_set_IJJJJV_95 (jN_shr (k := 32) (by omega) (by decide)) ?_
  refine lv_l2i (v := nI (p1 / 4294967296)) hx hb d_M_set_IJJJJV_96 (lN_i _) ?_
  refine x_iast (A := MA o) hx hb hI9 h_kr hlo (⟨by omega, by omega⟩) (5) (rfl) (by omega) (by omega) d_M_set_IJJJJV_97 (fun L2 locl2 h_kr hL2 hlo => ?_)
  have hO := hO.f1 hL2 (by omega)
  have hG := hG.tr hL2 (fun _ h => h)
  refine lv_iinc (v := nI 3) (k := 1) hx hb d_M_set_IJJJJV_98 hl rfl (by decide) (by decide) rfl (fun ls hl => ?_)
  have hl : lv_has ls 13 [(10, .int (nI 3)), (11, .long (lN p1)), (0, .ref o), (1, .int (nI kr)), (2, .long (lN p0)), (4, .long (lN p1)), (6, .long (lN p2)), (8, .long (lN p3))] := hl
  refine lv_goto (tgt := 24) hx hb d_M_set_IJJJJV_101 (by decide) ?_
  refine lv_iload hx hb d_M_set_IJJJJV_24 (lv_at hl 0 rfl) ?_
  refine lv_iconst (v := nI 4) hx hb d_M_set_IJJJJV_26 (by decide) ?_
  refine lv_icmp_ge (tgt := 104) hx hb d_M_set_IJJJJV_27 (by decide) (fun h => absurd h (by decide)) (fun _ => ?_)
  refine lv_iload hx hb d_M_set_IJJJJV_30 (lv_at hl 0 rfl) ?_
  refine lv_if_ne (tgt := 40) hx hb d_M_set_IJJJJV_32 (by decide) (fun _ => ?_) (fun h => absurd h (by decide))
  refine lv_iload hx hb d_M_set_IJJJJV_40 (lv_at hl 0 rfl) ?_
  refine lv_iconst (v := nI 1) hx hb d_M_set_IJJJJV_42 (by decide) ?_
  refine lv_icmp_ne (tgt := 51) hx hb d_M_set_IJJJJV_43 (by decide) (fun _ => ?_) (fun h => absurd h (by decide))
  refine lv_iload hx hb d_M_set_IJJJJV_51 (lv_at hl 0 rfl) ?_
  refine lv_iconst (v := nI 2) hx hb d_M_set_IJJJJV_53 (by decide) ?_
  refine lv_icmp_ne (tgt := 62) hx hb d_M_set_IJJJJV_54 (by decide) (fun _ => ?_) (fun h => absurd h (by decide))
  refine lv_lload_n hx hb d_M_set_IJJJJV_62 rfl (lv_at hl 4 rfl) ?_
  refine lv_lstore hx hb d_M_set_IJJJJV_63 hl (by decide) rfl (fun ls hl => ?_)
  have hl : lv_has ls 13 [(11, .long (lN p0)), (10, .int (nI 3)), (0, .ref o), (1, .int (nI kr)), (2, .long (lN p0)), (4, .long (lN p1)), (6, .long (lN p2)), (8, .long (lN p3))] := hl
  refine lv_aload_n hx hb d_M_set_IJJJJV_65 rfl (lv_at hl 2 rfl) ?_
  refine va_get (D := D) (ci := 1) (v := .ref (o + 1)) (C := "WideNumbersModel") (T := F_M) (N := 9) hx hb htw inM hown hK hO.1 0 rfl rfl 1 (by decide) (htw _ kw_277) (fun _ h9 => h9) rfl d_M_set_IJJJJV_66 ?_
  refine lv_iload_n hx hb d_M_set_IJJJJV_69 rfl (lv_at hl 3 rfl) ?_
  refine x_aald hx hb rfl hR9 hO.2 kr rfl hkr (by omega) (v := o + 2 + kr) (if_pos hkr) d_M_set_IJJJJV_70 ?_
  refine lv_iconst (v := nI 2) hx hb d_M_set_IJJJJV_71 (by decide) ?_
  refine lv_iload hx hb d_M_set_IJJJJV_72 (lv_at hl 1 rfl) ?_
  refine lv_imul hx hb d_M_set_IJJJJV_74 ?_
  refine x_topi (v := nI 6) (by decide) ?_
  refine lv_lload hx hb d_M_set_IJJJJV_75 (lv_at hl 0 rfl) ?_
  refine lv_l2i (v := nI p0) hx hb d_M_set_IJJJJV_77 (lN_i _) ?_
  refine x_topi (v := nI (p0 % 4294967296)) ((iN_mod _).symm) ?_
  refine x_iast (A := MA o) hx hb hI9 h_kr hlo (⟨by omega, by omega⟩) (6) (rfl) (by omega) (by omega) d_M_set_IJJJJV_78 (fun K3 lock3 h_kr hK3 hlo => ?_)
  have hO := hO.f1 hK3 (by omega)
  have hG := hG.tr hK3 (fun _ h => h)
  refine lv_aload_n hx hb d_M_set_IJJJJV_79 rfl (lv_at hl 2 rfl) ?_
  refine va_get (D := D) (ci := 1) (v := .ref (o + 1)) (C := "WideNumbersModel") (T := F_M) (N := 9) hx hb htw inM hown hK hO.1 0 rfl rfl 1 (by decide) (htw _ kw_277) (fun _ h9 => h9) rfl d_M_set_IJJJJV_80 ?_
  refine lv_iload_n hx hb d_M_set_IJJJJV_83 rfl (lv_at hl 3 rfl) ?_
  refine x_aald hx hb rfl hR9 hO.2 kr rfl hkr (by omega) (v := o + 2 + kr) (if_pos hkr) d_M_set_IJJJJV_84 ?_
  refine lv_iconst (v := nI 2) hx hb d_M_set_IJJJJV_85 (by decide) ?_
  refine lv_iload hx hb d_M_set_IJJJJV_86 (lv_at hl 1 rfl) ?_
  refine lv_imul hx hb d_M_set_IJJJJV_88 ?_
  refine x_topi (v := nI 6) (by decide) ?_
  refine lv_iconst (v := nI 1) hx hb d_M_set_IJJJJV_89 (by decide) ?_
  refine lv_iadd hx hb d_M_set_IJJJJV_90 ?_
  refine x_topi (v := nI 7) (by decide) ?_
  refine lv_lload hx hb d_M_set_IJJJJV_91 (lv_at hl 0 rfl) ?_
  refine lv_bipush (v := nI 32) hx hb d_M_set_IJJJJV_93 (by decide) ?_
  refine lv_lushr (v := lN (p0 / 4294967296)) hx hb d_M_set_IJJJJV_95 (jN_shr (k := 32) (by omega) (by decide)) ?_
  refine lv_l2i (v := nI (p0 / 4294967296)) hx hb d_M_set_IJJJJV_96 (lN_i _) ?_
  refine x_iast (A := MA o) hx hb hI9 h_kr hlo (⟨by omega, by omega⟩) (7) (rfl) (by omega) (by omega) d_M_set_IJJJJV_97 (fun L3 locl3 h_kr hL3 hlo => ?_)
  have hO := hO.f1 hL3 (by omega)
  have hG := hG.tr hL3 (fun _ h => h)
  refine lv_iinc (v := nI 4) (k := 1) hx hb d_M_set_IJJJJV_98 hl rfl (by decide) (by decide) rfl (fun ls hl => ?_)
  have hl : lv_has ls 13 [(10, .int (nI 4)), (11, .long (lN p0)), (0, .ref o), (1, .int (nI kr)), (2, .long (lN p0)), (4, .long (lN p1)), (6, .long (lN p2)), (8, .long (lN p3))] := hl
  refine lv_goto (tgt := 24) hx hb d_M_set_IJJJJV_101 (by decide) ?_
  refine lv_iload hx hb d_M_set_IJJJJV_24 (lv_at hl 0 rfl) ?_
  refine lv_iconst (v := nI 4) hx hb d_M_set_IJJJJV_26 (by decide) ?_
  refine lv_icmp_ge (tgt := 104) hx hb d_M_set_IJJJJV_27 (by decide) (fun _ => ?_) (fun h => absurd (by decide) h)
  have hd := sv_dg h0 h1 h2 h3
  have hR := hR.put hG h_kr (v := sv p0 p1 p2 p3) (fun j hj => by
    rcases j8 hj with rfl | rfl | rfl | rfl | rfl | rfl | rfl | rfl <;> simp [upd, hd])
  have hSM := hSM.f1 hG (by omega)
  have hG := (MA0 hF1).tr hG (fun q h => by have h : q = o + 2 + kr := h; rw [h]; exact ⟨by omega, by omega⟩)
  exact W.vret hx hb hr (fun t ht hW => ⟨rfl, by rw [ht]; exact hG, Or.inl ⟨kr, hkr, rfl, by rw [ht]; exact ⟨hO, hSM, hR⟩⟩⟩) hlo d_M_set_IJJJJV_104
set_option maxHeartbeats 4000000 in
set_option maxRecDepth 100000 in
theorem m_get (l : Launch) (D : va_G) (cJ cI cQ cR : ClassId) (o : Nat) (fl : Int32) (V : Nat → Nat) (hV : ∀ r, r < 16 → V r < 2 ^ 256) (r pt : Int32) : Met l y_M_get w_M_get { frames := 1, cells := 0, slots := 0, locals := 22 } (xP D vwCl (TY cJ cI cQ cR) [.ref o, .int r, .int pt] (fun H => MO D cI cR o fl V H)) (xQl (fun x H0 H => XF (MA o) H0 H ∧ ((∃ kr kp : Nat, kr < 16 ∧ r = nI kr ∧ kp < 4 ∧ pt = nI kp ∧ x = lN (gp (V kr) kp) ∧ MO D cI cR o (nI 0) (V) H) ∨ (¬ (vd r 16 ∧ vd pt 4) ∧ MO D cI cR o (nI 1) V H)))) 0 0 (MA o) := by
  refine Met.ofW (cc := b_M_get) (maxL := 3) (ret := some .long) (by decide) rfl ?_
  intro p e s m args below meth c s₁ B hml hv
  obtain ⟨rfl, hK, ⟨hO, hSM, hR⟩⟩ := hv
  have hx := B.exec
  have hb := B.bytes
  have hr := B.returns
  have hts := atoms_spec (ws := w_M_get) B.pre
  have htw : ∀ w ∈ WT, w.before _ s = true := fun w h => hts w (List.mem_cons_of_mem _ h)
  have hown : s.vm.findClass "WideNumbersModel" = some m.cls := findClass_of_methodNamed B.named
  have hlocks := B.notSynchronized
  have hJ : ArrOfT s cJ .long := (hK.2 0 _ rfl).1
  have hI9 : ArrOfT s cI .int := (hK.2 1 _ rfl).1
  have hl := lv_entry ([.ref o, .int r, .int pt]) (n := 3) (Nat.le_of_ble_eq_true rfl)
  rw [lg_entry_eq]
  generalize (lg_sl ([.ref o, .int r, .int pt]) ++ List.replicate (3 - (lg_sl ([.ref o, .int r, .int pt])).length) Slot.unset).toArray = ls at hl ⊢
  have hl : lv_has ls 3 [(0, .ref o), (1, .int r), (2, .int pt)] := hl
  have hR9 : ArrOfT s cR (.array .int) := (hK.2 3 _ rfl).1
  refine lv_aload_n hx hb d_M_get_0 rfl (lv_at hl 0 rfl) ?_
  refine lv_iconst (v := nI 0) hx hb d_M_get_1 (by decide) ?_
  refine x_fail hx hb htw hown hK hO (fun _ h => nomatch h) d_M_get_2 (fun H1 locs1 hO hF1 hlo => ?_)
  have hSM := hSM.f1 hF1 (by omega)
  have hR := hR.f0 hF1
  refine lv_aload_n hx hb d_M_get_5 rfl (lv_at hl 0 rfl) ?_
  refine lv_iload_n hx hb d_M_get_6 rfl (lv_at hl 1 rfl) ?_
  refine x_calli (A := fun q => q = o) (va_runV (As := [.int r]) (rest := []) ⟨hx, hb, hml, hown, htw⟩ (m_out l D cJ cI cQ cR o r) (xcV 1 htw kw_316 kw_2 kw_313 kw_315 ks_M_out rfl rfl ⟨by decide, by decide, by decide +kernel⟩ ⟨Nat.le_of_ble_eq_true rfl, Nat.le_of_ble_eq_true rfl⟩) (xPreV hK (hO.rv hK) trivial) rfl rfl hl.1 rfl (lv_room (Nat.le_of_ble_eq_true rfl)) d_M_get_7 ⟨Nat.le_of_ble_eq_true rfl, Nat.le_of_ble_eq_true rfl⟩) hlo (fun _ h => h.elim) (fun x9 H9 locs9 hB9 hlo => ?_)
  obtain ⟨rfl, hB9⟩ := hB9
  rcases hB9.symm with ⟨rfl, hinv⟩ | ⟨rfl, kr, hkr, rfl⟩
  · refine x_topi (v := nI 1) (rfl) ?_
    refine lv_if_ne (tgt := 22) hx hb d_M_get_10 (by decide) (fun _ => ?_) (fun h => absurd h (by decide))
    refine lv_aload_n hx hb d_M_get_22 rfl (lv_at hl 0 rfl) ?_
    refine lv_iconst (v := nI 1) hx hb d_M_get_23 (by decide) ?_
    refine x_calli (A := fun q => q = o) (va_runV (As := [.int (nI 1)]) (rest := []) ⟨hx, hb, hml, hown, htw⟩ (m_fail l D cJ cI cQ cR o (nI 0) (nI 1)) (xcV 1 htw kw_324 kw_2 kw_321 kw_323 ks_M_fail rfl rfl ⟨by decide, by decide, by decide +kernel⟩ ⟨Nat.le_of_ble_eq_true rfl, Nat.le_of_ble_eq_true rfl⟩) (xPreV hK (hO.rv hK) hO) rfl rfl hl.1 rfl (lv_room (Nat.le_of_ble_eq_true rfl)) d_M_get_24 ⟨Nat.le_of_ble_eq_true rfl, Nat.le_of_ble_eq_true rfl⟩) hlo (fun _ h => h) (fun x2 H2 locs2 hB2 hlo => ?_)
    obtain ⟨hF2, rfl, hO⟩ := hB2
    have hSM := hSM.f1 hF2 (by omega)
    have hR := hR.f0 hF2
    refine lv_i2l (v := (0 : Int32).toInt64) hx hb d_M_get_27 (rfl) ?_
    refine lv_goto (tgt := 41) hx hb d_M_get_28 (by decide) ?_
    exact W.lret hx hb hr (fun t ht hW => ⟨_, rfl, by rw [ht]; exact MA0 (hF1.tr hF2 (fun _ h => h)), Or.inr ⟨fun h => hinv h.1, by rw [ht]; exact ⟨hO, hSM, hR⟩⟩⟩) (MAlo hlo) d_M_get_41
  refine x_topi (v := nI 0) (rfl) ?_
  refine lv_if_ne (tgt := 22) hx hb d_M_get_10 (by decide) (fun h => absurd (by decide) h) (fun _ => ?_)
  have hl : lv_has ls 3 [(0, .ref o), (1, .int (nI kr)), (2, .int pt)] := hl
  refine lv_iload_n hx hb d_M_get_13 rfl (lv_at hl 2 rfl) ?_
  refine lv_if_lt (tgt := 22) hx hb d_M_get_14 (by decide) (fun hc => ?_) (fun hc => ?_)
  · refine lv_aload_n hx hb d_M_get_22 rfl (lv_at hl 0 rfl) ?_
    refine lv_iconst (v := nI 1) hx hb d_M_get_23 (by decide) ?_
    refine x_calli (A := fun q => q = o) (va_runV (As := [.int (nI 1)]) (rest := []) ⟨hx, hb, hml, hown, htw⟩ (m_fail l D cJ cI cQ cR o (nI 0) (nI 1)) (xcV 1 htw kw_324 kw_2 kw_321 kw_323 ks_M_fail rfl rfl ⟨by decide, by decide, by decide +kernel⟩ ⟨Nat.le_of_ble_eq_true rfl, Nat.le_of_ble_eq_true rfl⟩) (xPreV hK (hO.rv hK) hO) rfl rfl hl.1 rfl (lv_room (Nat.le_of_ble_eq_true rfl)) d_M_get_24 ⟨Nat.le_of_ble_eq_true rfl, Nat.le_of_ble_eq_true rfl⟩) hlo (fun _ h => h) (fun x2 H2 locs2 hB2 hlo => ?_)
    obtain ⟨hF2, rfl, hO⟩ := hB2
    have hSM := hSM.f1 hF2 (by omega)
    have hR := hR.f0 hF2
    refine lv_i2l (v := (0 : Int32).toInt64) hx hb d_M_get_27 (rfl) ?_
    refine lv_goto (tgt := 41) hx hb d_M_get_28 (by decide) ?_
    exact W.lret hx hb hr (fun t ht hW => ⟨_, rfl, by rw [ht]; exact MA0 (hF1.tr hF2 (fun _ h => h)), Or.inr ⟨fun h => by obtain ⟨k, hk, rfl⟩ := h.2; exact nI_pos (by omega) hc, by rw [ht]; exact ⟨hO, hSM, hR⟩⟩⟩) (MAlo hlo) d_M_get_41
  · obtain ⟨k, hk, ek⟩ := nI_of hc
    refine lv_iload_n hx hb d_M_get_17 rfl (lv_at hl 2 rfl) ?_
    refine lv_iconst (v := nI 3) hx hb d_M_get_18 (by decide) ?_
    refine lv_icmp_le (tgt := 31) hx hb d_M_get_19 (by decide) (fun hc2 => ?_) (fun hc2 => ?_)
    · obtain ⟨kp, hkp, rfl⟩ : ∃ kp, kp < 4 ∧ pt = nI kp := ⟨k, by subst ek; have := (nI_leI hk (by decide)).mp hc2; omega, ek⟩
      have hl : lv_has ls 3 [(0, .ref o), (1, .int (nI kr)), (2, .int (nI kp))] := hl
      obtain ⟨fkr, h_kr, hNkr⟩ := hR kr hkr
      have hvkr := hV kr hkr
      refine lv_aload_n hx hb d_M_get_31 rfl (lv_at hl 0 rfl) ?_
      refine va_get (D := D) (ci := 1) (v := .ref (o + 1)) (C := "WideNumbersModel") (T := F_M) (N := 9) hx hb htw inM hown hK hO.1 0 rfl rfl 1 (by decide) (htw _ kw_277) (fun _ h9 => h9) rfl d_M_get_32 ?_
      refine lv_iload_n hx hb d_M_get_35 rfl (lv_at hl 1 rfl) ?_
      refine x_aald hx hb rfl hR9 hO.2 kr rfl hkr (by omega) (v := o + 2 + kr) (if_pos hkr) d_M_get_36 ?_
      refine lv_iload_n hx hb d_M_get_37 rfl (lv_at hl 2 rfl) ?_
      refine x_calll (A := fun q => q = o) (va_runS (As := [.ref (o + 2 + kr), .int (nI kp)]) (rest := []) ⟨hx, hb, hml, hown, htw⟩ (m_part l D cJ cI cQ cR (o + 2 + kr) kp (V kr) fkr hkp hNkr) (xcS 2 htw kw_327 kw_2 kw_325 kw_326 rfl rfl ⟨by decide, by decide, by decide +kernel⟩ ⟨Nat.le_of_ble_eq_true rfl, Nat.le_of_ble_eq_true rfl⟩) (xPre hK h_kr) rfl rfl hl.1 rfl (lv_room (Nat.le_of_ble_eq_true rfl)) d_M_get_38 ⟨Nat.le_of_ble_eq_true rfl, Nat.le_of_ble_eq_true rfl⟩) hlo (fun _ h => h.elim) (fun x3 H3 locs3 hB3 hlo => ?_)
      obtain ⟨rfl, rfl⟩ := hB3
      exact W.lret hx hb hr (fun t ht hW => ⟨_, rfl, by rw [ht]; exact MA0 hF1, Or.inl ⟨kr, kp, hkr, rfl, hkp, rfl, rfl, by rw [ht]; exact ⟨hO, hSM, hR⟩⟩⟩) (MAlo hlo) d_M_get_41
    · refine lv_aload_n hx hb d_M_get_22 rfl (lv_at hl 0 rfl) ?_
      refine lv_iconst (v := nI 1) hx hb d_M_get_23 (by decide) ?_
      refine x_calli (A := fun q => q = o) (va_runV (As := [.int (nI 1)]) (rest := []) ⟨hx, hb, hml, hown, htw⟩ (m_fail l D cJ cI cQ cR o (nI 0) (nI 1)) (xcV 1 htw kw_324 kw_2 kw_321 kw_323 ks_M_fail rfl rfl ⟨by decide, by decide, by decide +kernel⟩ ⟨Nat.le_of_ble_eq_true rfl, Nat.le_of_ble_eq_true rfl⟩) (xPreV hK (hO.rv hK) hO) rfl rfl hl.1 rfl (lv_room (Nat.le_of_ble_eq_true rfl)) d_M_get_24 ⟨Nat.le_of_ble_eq_true rfl, Nat.le_of_ble_eq_true rfl⟩) hlo (fun _ h => h) (fun x2 H2 locs2 hB2 hlo => ?_)
      obtain ⟨hF2, rfl, hO⟩ := hB2
      have hSM := hSM.f1 hF2 (by omega)
      have hR := hR.f0 hF2
      refine lv_i2l (v := (0 : Int32).toInt64) hx hb d_M_get_27 (rfl) ?_
      refine lv_goto (tgt := 41) hx hb d_M_get_28 (by decide) ?_
      exact W.lret hx hb hr (fun t ht hW => ⟨_, rfl, by rw [ht]; exact MA0 (hF1.tr hF2 (fun _ h => h)), Or.inr ⟨fun h => by obtain ⟨q, hq, rfl⟩ := h.2; exact hc2 (nI_le (by omega) (by decide)), by rw [ht]; exact ⟨hO, hSM, hR⟩⟩⟩) (MAlo hlo) d_M_get_41
set_option maxHeartbeats 4000000 in
set_option maxRecDepth 100000 in
theorem m_two (l : Launch) (D : va_G) (cJ cI cQ cR : ClassId) (o : Nat) (fl : Int32) (V : Nat → Nat) (hV : ∀ r, r < 16 → V r < 2 ^ 256) (op to a b : Int32) : Met l y_M_two w_M_two { frames := 4, cells := 0, slots := 0, locals := 108 } (xP D vwCl (TY cJ cI cQ cR) [.ref o, .int op, .int to, .int a, .int b] (fun H => MO D cI cR o fl V H)) (xQv (fun H0 H => XF (MA o) H0 H ∧ ((∃ ko kt ka kb : Nat, ko < 16 ∧ op = nI ko ∧ kt < 16 ∧ to = nI kt ∧ ka < 16 ∧ a = nI ka ∧ kb < 16 ∧ b = nI kb ∧ MO D cI cR o (nI 0) (va_up V kt (opv ko (V ka) (V kb))) H) ∨ (¬ (vd op 16 ∧ vd to 16 ∧ vd a 16 ∧ vd b 16) ∧ MO D cI cR o (nI 1) V H)))) 0 0 (MA o) := by
  refine Met.ofW (cc := b_M_two) (maxL := 5) (ret := none) (by decide) rfl ?_
  intro p e s m args below meth c s₁ B hml hv
  obtain ⟨rfl, hK, ⟨hO, hSM, hR⟩⟩ := hv
  have hx := B.exec
  have hb := B.bytes
  have hr := B.returns
  have hts := atoms_spec (ws := w_M_two) B.pre
  have htw : ∀ w ∈ WT, w.before _ s = true := fun w h => hts w (List.mem_cons_of_mem _ h)
  have hown : s.vm.findClass "WideNumbersModel" = some m.cls := findClass_of_methodNamed B.named
  have hlocks := B.notSynchronized
  have hJ : ArrOfT s cJ .long := (hK.2 0 _ rfl).1
  have hI9 : ArrOfT s cI .int := (hK.2 1 _ rfl).1
  have hl := lv_entry ([.ref o, .int op, .int to, .int a, .int b]) (n := 5) (Nat.le_of_ble_eq_true rfl)
  rw [lg_entry_eq]
  generalize (lg_sl ([.ref o, .int op, .int to, .int a, .int b]) ++ List.replicate (5 - (lg_sl ([.ref o, .int op, .int to, .int a, .int b])).length) Slot.unset).toArray = ls at hl ⊢
  have hl : lv_has ls 5 [(0, .ref o), (1, .int op), (2, .int to), (3, .int a), (4, .int b)] := hl
  have hR9 : ArrOfT s cR (.array .int) := (hK.2 3 _ rfl).1
  refine lv_aload_n hx hb d_M_two_0 rfl (lv_at hl 0 rfl) ?_
  refine lv_iconst (v := nI 0) hx hb d_M_two_1 (by decide) ?_
  refine x_fail hx hb htw hown hK hO (fun _ h => nomatch h) d_M_two_2 (fun H1 locs1 hO hF1 hlo => ?_)
  have hSM := hSM.f1 hF1 (by omega)
  have hR := hR.f0 hF1
  refine lv_iload_n hx hb d_M_two_5 rfl (lv_at hl 1 rfl) ?_
  refine lv_if_lt (tgt := 40) hx hb d_M_two_6 (by decide) (fun hc => ?_) (fun hc => ?_)
  · refine lv_aload_n hx hb d_M_two_40 rfl (lv_at hl 0 rfl) ?_
    refine lv_iconst (v := nI 1) hx hb d_M_two_41 (by decide) ?_
    refine x_fail hx hb htw hown hK hO hlo d_M_two_42 (fun H2 locs2 hO hF2 hlo => ?_)
    have hSM := hSM.f1 hF2 (by omega)
    have hR := hR.f0 hF2
    refine lv_goto (tgt := 79) hx hb d_M_two_45 (by decide) ?_
    exact W.vret hx hb hr (fun t ht hW => ⟨rfl, by rw [ht]; exact MA0 (hF1.tr hF2 (fun _ h => h)), Or.inr ⟨fun h => by obtain ⟨k, hk, rfl⟩ := h.1; exact nI_pos (by omega) hc, by rw [ht]; exact ⟨hO, hSM, hR⟩⟩⟩) (MAlo hlo) d_M_two_79
  · obtain ⟨k, hk, ek⟩ := nI_of hc
    refine lv_iload_n hx hb d_M_two_9 rfl (lv_at hl 1 rfl) ?_
    refine lv_bipush (v := nI 15) hx hb d_M_two_10 (by decide) ?_
    refine lv_icmp_gt (tgt := 40) hx hb d_M_two_12 (by decide) (fun hc2 => ?_) (fun hc2 => ?_)
    · refine lv_aload_n hx hb d_M_two_40 rfl (lv_at hl 0 rfl) ?_
      refine lv_iconst (v := nI 1) hx hb d_M_two_41 (by decide) ?_
      refine x_fail hx hb htw hown hK hO hlo d_M_two_42 (fun H2 locs2 hO hF2 hlo => ?_)
      have hSM := hSM.f1 hF2 (by omega)
      have hR := hR.f0 hF2
      refine lv_goto (tgt := 79) hx hb d_M_two_45 (by decide) ?_
      exact W.vret hx hb hr (fun t ht hW => ⟨rfl, by rw [ht]; exact MA0 (hF1.tr hF2 (fun _ h => h)), Or.inr ⟨fun h => by obtain ⟨q, hq, rfl⟩ := h.1; exact absurd hc2 (nI_ngt (by omega)), by rw [ht]; exact ⟨hO, hSM, hR⟩⟩⟩) (MAlo hlo) d_M_two_79
    · obtain ⟨ko, hko, rfl⟩ : ∃ ko, ko < 16 ∧ op = nI ko := ⟨k, by subst ek; exact nI_lt16 hk hc2, ek⟩
      have hl : lv_has ls 5 [(0, .ref o), (1, .int (nI ko)), (2, .int to), (3, .int a), (4, .int b)] := hl
      refine lv_aload_n hx hb d_M_two_15 rfl (lv_at hl 0 rfl) ?_
      refine lv_iload_n hx hb d_M_two_16 rfl (lv_at hl 2 rfl) ?_
      refine x_calli (A := fun q => q = o) (va_runV (As := [.int to]) (rest := []) ⟨hx, hb, hml, hown, htw⟩ (m_out l D cJ cI cQ cR o to) (xcV 1 htw kw_316 kw_2 kw_313 kw_315 ks_M_out rfl rfl ⟨by decide, by decide, by decide +kernel⟩ ⟨Nat.le_of_ble_eq_true rfl, Nat.le_of_ble_eq_true rfl⟩) (xPreV hK (hO.rv hK) trivial) rfl rfl hl.1 rfl (lv_room (Nat.le_of_ble_eq_true rfl)) d_M_two_17 ⟨Nat.le_of_ble_eq_true rfl, Nat.le_of_ble_eq_true rfl⟩) hlo (fun _ h => h.elim) (fun x9 H9 locs9 hB9 hlo => ?_)
      obtain ⟨rfl, hB9⟩ := hB9
      rcases hB9.symm with ⟨rfl, hinv⟩ | ⟨rfl, kt, hkt, rfl⟩
      · refine x_topi (v := nI 1) (rfl) ?_
        refine lv_if_ne (tgt := 40) hx hb d_M_two_20 (by decide) (fun _ => ?_) (fun h => absurd h (by decide))
        refine lv_aload_n hx hb d_M_two_40 rfl (lv_at hl 0 rfl) ?_
        refine lv_iconst (v := nI 1) hx hb d_M_two_41 (by decide) ?_
        refine x_fail hx hb htw hown hK hO hlo d_M_two_42 (fun H2 locs2 hO hF2 hlo => ?_)
        have hSM := hSM.f1 hF2 (by omega)
        have hR := hR.f0 hF2
        refine lv_goto (tgt := 79) hx hb d_M_two_45 (by decide) ?_
        exact W.vret hx hb hr (fun t ht hW => ⟨rfl, by rw [ht]; exact MA0 (hF1.tr hF2 (fun _ h => h)), Or.inr ⟨fun h => hinv h.2.1, by rw [ht]; exact ⟨hO, hSM, hR⟩⟩⟩) (MAlo hlo) d_M_two_79
      refine x_topi (v := nI 0) (rfl) ?_
      refine lv_if_ne (tgt := 40) hx hb d_M_two_20 (by decide) (fun h => absurd (by decide) h) (fun _ => ?_)
      have hl : lv_has ls 5 [(0, .ref o), (1, .int (nI ko)), (2, .int (nI kt)), (3, .int a), (4, .int b)] := hl
      refine lv_aload_n hx hb d_M_two_23 rfl (lv_at hl 0 rfl) ?_
      refine lv_iload_n hx hb d_M_two_24 rfl (lv_at hl 3 rfl) ?_
      refine x_calli (A := fun q => q = o) (va_runV (As := [.int a]) (rest := []) ⟨hx, hb, hml, hown, htw⟩ (m_out l D cJ cI cQ cR o a) (xcV 1 htw kw_316 kw_2 kw_313 kw_315 ks_M_out rfl rfl ⟨by decide, by decide, by decide +kernel⟩ ⟨Nat.le_of_ble_eq_true rfl, Nat.le_of_ble_eq_true rfl⟩) (xPreV hK (hO.rv hK) trivial) rfl rfl hl.1 rfl (lv_room (Nat.le_of_ble_eq_true rfl)) d_M_two_25 ⟨Nat.le_of_ble_eq_true rfl, Nat.le_of_ble_eq_true rfl⟩) hlo (fun _ h => h.elim) (fun x9 H9 locs9 hB9 hlo => ?_)
      obtain ⟨rfl, hB9⟩ := hB9
      rcases hB9.symm with ⟨rfl, hinv⟩ | ⟨rfl, ka, hka, rfl⟩
      · refine x_topi (v := nI 1) (rfl) ?_
        refine lv_if_ne (tgt := 40) hx hb d_M_two_28 (by decide) (fun _ => ?_) (fun h => absurd h (by decide))
        refine lv_aload_n hx hb d_M_two_40 rfl (lv_at hl 0 rfl) ?_
        refine lv_iconst (v := nI 1) hx hb d_M_two_41 (by decide) ?_
        refine x_fail hx hb htw hown hK hO hlo d_M_two_42 (fun H2 locs2 hO hF2 hlo => ?_)
        have hSM := hSM.f1 hF2 (by omega)
        have hR := hR.f0 hF2
        refine lv_goto (tgt := 79) hx hb d_M_two_45 (by decide) ?_
        exact W.vret hx hb hr (fun t ht hW => ⟨rfl, by rw [ht]; exact MA0 (hF1.tr hF2 (fun _ h => h)), Or.inr ⟨fun h => hinv h.2.2.1, by rw [ht]; exact ⟨hO, hSM, hR⟩⟩⟩) (MAlo hlo) d_M_two_79
      refine x_topi (v := nI 0) (rfl) ?_
      refine lv_if_ne (tgt := 40) hx hb d_M_two_28 (by decide) (fun h => absurd (by decide) h) (fun _ => ?_)
      have hl : lv_has ls 5 [(0, .ref o), (1, .int (nI ko)), (2, .int (nI kt)), (3, .int (nI ka)), (4, .int b)] := hl
      refine lv_aload_n hx hb d_M_two_31 rfl (lv_at hl 0 rfl) ?_
      refine lv_iload hx hb d_M_two_32 (lv_at hl 4 rfl) ?_
      refine x_calli (A := fun q => q = o) (va_runV (As := [.int b]) (rest := []) ⟨hx, hb, hml, hown, htw⟩ (m_out l D cJ cI cQ cR o b) (xcV 1 htw kw_316 kw_2 kw_313 kw_315 ks_M_out rfl rfl ⟨by decide, by decide, by decide +kernel⟩ ⟨Nat.le_of_ble_eq_true rfl, Nat.le_of_ble_eq_true rfl⟩) (xPreV hK (hO.rv hK) trivial) rfl rfl hl.1 rfl (lv_room (Nat.le_of_ble_eq_true rfl)) d_M_two_34 ⟨Nat.le_of_ble_eq_true rfl, Nat.le_of_ble_eq_true rfl⟩) hlo (fun _ h => h.elim) (fun x9 H9 locs9 hB9 hlo => ?_)
      obtain ⟨rfl, hB9⟩ := hB9
      rcases hB9.symm with ⟨rfl, hinv⟩ | ⟨rfl, kb, hkb, rfl⟩
      · refine x_topi (v := nI 1) (rfl) ?_
        refine lv_if_eq (tgt := 48) hx hb d_M_two_37 (by decide) (fun h => absurd h (by decide)) (fun _ => ?_)
        refine lv_aload_n hx hb d_M_two_40 rfl (lv_at hl 0 rfl) ?_
        refine lv_iconst (v := nI 1) hx hb d_M_two_41 (by decide) ?_
        refine x_fail hx hb htw hown hK hO hlo d_M_two_42 (fun H2 locs2 hO hF2 hlo => ?_)
        have hSM := hSM.f1 hF2 (by omega)
        have hR := hR.f0 hF2
        refine lv_goto (tgt := 79) hx hb d_M_two_45 (by decide) ?_
        exact W.vret hx hb hr (fun t ht hW => ⟨rfl, by rw [ht]; exact MA0 (hF1.tr hF2 (fun _ h => h)), Or.inr ⟨fun h => hinv h.2.2.2, by rw [ht]; exact ⟨hO, hSM, hR⟩⟩⟩) (MAlo hlo) d_M_two_79
      refine x_topi (v := nI 0) (rfl) ?_
      refine lv_if_eq (tgt := 48) hx hb d_M_two_37 (by decide) (fun _ => ?_) (fun h => absurd (by decide) h)
      have hl : lv_has ls 5 [(0, .ref o), (1, .int (nI ko)), (2, .int (nI kt)), (3, .int (nI ka)), (4, .int (nI kb))] := hl
      obtain ⟨fka, h_ka, hNka⟩ := hR ka hka
      have hvka := hV ka hka
      obtain ⟨fkb, h_kb, hNkb⟩ := hR kb hkb
      have hvkb := hV kb hkb
      have hlo := MAlo hlo
      refine lv_aload_n hx hb d_M_two_48 rfl (lv_at hl 0 rfl) ?_
      refine lv_iload_n hx hb d_M_two_49 rfl (lv_at hl 1 rfl) ?_
      refine lv_aload_n hx hb d_M_two_50 rfl (lv_at hl 0 rfl) ?_
      refine va_get (D := D) (ci := 1) (v := .ref (o + 1)) (C := "WideNumbersModel") (T := F_M) (N := 9) hx hb htw inM hown hK hO.1 0 rfl rfl 1 (by decide) (htw _ kw_277) (fun _ h9 => h9) rfl d_M_two_51 ?_
      refine lv_iload_n hx hb d_M_two_54 rfl (lv_at hl 3 rfl) ?_
      refine x_aald hx hb rfl hR9 hO.2 ka rfl hka (by omega) (v := o + 2 + ka) (if_pos hka) d_M_two_55 ?_
      refine lv_aload_n hx hb d_M_two_56 rfl (lv_at hl 0 rfl) ?_
      refine va_get (D := D) (ci := 1) (v := .ref (o + 1)) (C := "WideNumbersModel") (T := F_M) (N := 9) hx hb htw inM hown hK hO.1 0 rfl rfl 1 (by decide) (htw _ kw_277) (fun _ h9 => h9) rfl d_M_two_57 ?_
      refine lv_iload hx hb d_M_two_60 (lv_at hl 4 rfl) ?_
      refine x_aald hx hb rfl hR9 hO.2 kb rfl hkb (by omega) (v := o + 2 + kb) (if_pos hkb) d_M_two_62 ?_
      refine x_callv (A := MA o) (va_runV (As := [.int (nI ko), .ref (o + 2 + ka), .ref (o + 2 + kb)]) (rest := []) ⟨hx, hb, hml, hown, htw⟩ (m_work l D cJ cI cQ cR o (o + 2 + ka) (o + 2 + kb) (V ka) (V kb) (nI 0) fka fkb (by omega) (by omega) hvka hvkb hNka hNkb ko hko) (xcV 3 htw kw_336 kw_2 kw_333 kw_335 ks_M_work rfl rfl ⟨by decide, by decide, by decide +kernel⟩ ⟨Nat.le_of_ble_eq_true rfl, Nat.le_of_ble_eq_true rfl⟩) (xPreV hK (hO.rv hK) ⟨hO, hSM, h_ka, h_kb⟩) rfl rfl hl.1 rfl (lv_room (Nat.le_of_ble_eq_true rfl)) d_M_two_63 ⟨Nat.le_of_ble_eq_true rfl, Nat.le_of_ble_eq_true rfl⟩) hlo (fun q h => ⟨by have := h.1; omega, h.2⟩) (fun H7 locs7 hB7 hlo => ?_)
      obtain ⟨hG, hSM, f7, hf7, hN7⟩ := hB7
      have hO := hO.fS hG
      have hF1 := MA0 hF1
      obtain ⟨⟨f18, h_18⟩, ⟨f19, h_19⟩, _, ⟨f21, h_21, hN21⟩, ⟨f22, h_22⟩, ⟨f23, h_23⟩, ⟨f24, h_24⟩⟩ := hSM
      have h_20 := hf7
      have hR := hR.fS hG
      have hG := MAx hF1 hG
      have hSM : SM cI o _ := ⟨⟨_, h_18⟩, ⟨_, h_19⟩, ⟨_, h_20⟩, ⟨_, h_21, hN21⟩, ⟨_, h_22⟩, ⟨_, h_23⟩, ⟨_, h_24⟩⟩
      refine lv_aload_n hx hb d_M_two_66 rfl (lv_at hl 0 rfl) ?_
      refine va_get (D := D) (ci := 1) (v := .ref (o + 1)) (C := "WideNumbersModel") (T := F_M) (N := 9) hx hb htw inM hown hK hO.1 0 rfl rfl 1 (by decide) (htw _ kw_277) (fun _ h9 => h9) rfl d_M_two_67 ?_
      refine lv_iload_n hx hb d_M_two_70 rfl (lv_at hl 2 rfl) ?_
      refine x_aald hx hb rfl hR9 hO.2 kt rfl hkt (by omega) (v := o + 2 + kt) (if_pos hkt) d_M_two_71 ?_
      refine lv_aload_n hx hb d_M_two_72 rfl (lv_at hl 0 rfl) ?_
      refine va_get (D := D) (ci := 1) (v := .ref (o + 20)) (C := "WideNumbersModel") (T := F_M) (N := 9) hx hb htw inM hown hK hO.1 0 rfl rfl 4 (by decide) (htw _ kw_280) (fun _ h9 => h9) rfl d_M_two_73 ?_
      obtain ⟨ft, h_t, hNt⟩ := hR kt hkt
      refine x_callv (A := MA o) (va_runS (As := [.ref (o + 2 + kt), .ref (o + 20)]) (rest := []) ⟨hx, hb, hml, hown, htw⟩ (m_copy l D cJ cI cQ cR (o + 2 + kt) (o + 20) 8 (opv ko (V ka) (V kb)) ft f7 (by decide) (by omega) hN7) (xcS 2 htw kw_374 kw_2 kw_372 kw_373 rfl rfl ⟨by decide, by decide, by decide +kernel⟩ ⟨Nat.le_of_ble_eq_true rfl, Nat.le_of_ble_eq_true rfl⟩) (xPre hK ⟨h_t, h_20⟩) rfl rfl hl.1 rfl (lv_room (Nat.le_of_ble_eq_true rfl)) d_M_two_76 ⟨Nat.le_of_ble_eq_true rfl, Nat.le_of_ble_eq_true rfl⟩) hlo (fun q h => by have h : q = o + 2 + kt := h; rw [h]; exact ⟨by omega, by omega⟩) (fun H8 locs8 hB8 hlo => ?_)
      obtain ⟨hF8, f8, hf8, hN8⟩ := hB8
      have hO := hO.f1 hF8 (by omega)
      have hSM := hSM.f1 hF8 (by omega)
      have hR := hR.put hF8 hf8 hN8
      have hG := hG.tr hF8 (fun q h => by have h : q = o + 2 + kt := h; rw [h]; exact ⟨by omega, by omega⟩)
      exact W.vret hx hb hr (fun t ht hW => ⟨rfl, by rw [ht]; exact hG, Or.inl ⟨ko, kt, ka, kb, hko, rfl, hkt, rfl, hka, rfl, hkb, rfl, by rw [ht]; exact ⟨hO, hSM, hR⟩⟩⟩) hlo d_M_two_79
set_option maxHeartbeats 4000000 in
set_option maxRecDepth 100000 in
theorem m_turn (l : Launch) (D : va_G) (cJ cI cQ cR : ClassId) (o : Nat) (fl : Int32) (V : Nat → Nat) (hV : ∀ r, r < 16 → V r < 2 ^ 256) (to a z : Int32) : Met l y_M_turn w_M_turn { frames := 2, cells := 0, slots := 0, locals := 46 } (xP D vwCl (TY cJ cI cQ cR) [.ref o, .int to, .int a, .int z] (fun H => MO D cI cR o fl V H)) (xQv (fun H0 H => XF (MA o) H0 H ∧ ((∃ kt ka : Nat, kt < 16 ∧ to = nI kt ∧ ka < 16 ∧ a = nI ka ∧ MO D cI cR o (nI 0) (va_up V kt (trn z (V ka))) H) ∨ (¬ (vd to 16 ∧ vd a 16) ∧ MO D cI cR o (nI 1) V H)))) 0 0 (MA o) := by
  refine Met.ofW (cc := b_M_turn) (maxL := 5) (ret := none) (by decide) rfl ?_
  intro p e s m args below meth c s₁ B hml hv
  obtain ⟨rfl, hK, ⟨hO, hSM, hR⟩⟩ := hv
  have hx := B.exec
  have hb := B.bytes
  have hr := B.returns
  have hts := atoms_spec (ws := w_M_turn) B.pre
  have htw : ∀ w ∈ WT, w.before _ s = true := fun w h => hts w (List.mem_cons_of_mem _ h)
  have hown : s.vm.findClass "WideNumbersModel" = some m.cls := findClass_of_methodNamed B.named
  have hlocks := B.notSynchronized
  have hJ : ArrOfT s cJ .long := (hK.2 0 _ rfl).1
  have hI9 : ArrOfT s cI .int := (hK.2 1 _ rfl).1
  have hl := lv_entry ([.ref o, .int to, .int a, .int z]) (n := 5) (Nat.le_of_ble_eq_true rfl)
  rw [lg_entry_eq]
  generalize (lg_sl ([.ref o, .int to, .int a, .int z]) ++ List.replicate (5 - (lg_sl ([.ref o, .int to, .int a, .int z])).length) Slot.unset).toArray = ls at hl ⊢
  have hl : lv_has ls 5 [(0, .ref o), (1, .int to), (2, .int a), (3, .int z)] := hl
  have hR9 : ArrOfT s cR (.array .int) := (hK.2 3 _ rfl).1
  refine lv_aload_n hx hb d_M_turn_0 rfl (lv_at hl 0 rfl) ?_
  refine lv_iconst (v := nI 0) hx hb d_M_turn_1 (by decide) ?_
  refine x_fail hx hb htw hown hK hO (fun _ h => nomatch h) d_M_turn_2 (fun H1 locs1 hO hF1 hlo => ?_)
  have hSM := hSM.f1 hF1 (by omega)
  have hR := hR.f0 hF1
  refine lv_aload_n hx hb d_M_turn_5 rfl (lv_at hl 0 rfl) ?_
  refine lv_iload_n hx hb d_M_turn_6 rfl (lv_at hl 1 rfl) ?_
  refine x_calli (A := fun q => q = o) (va_runV (As := [.int to]) (rest := []) ⟨hx, hb, hml, hown, htw⟩ (m_out l D cJ cI cQ cR o to) (xcV 1 htw kw_316 kw_2 kw_313 kw_315 ks_M_out rfl rfl ⟨by decide, by decide, by decide +kernel⟩ ⟨Nat.le_of_ble_eq_true rfl, Nat.le_of_ble_eq_true rfl⟩) (xPreV hK (hO.rv hK) trivial) rfl rfl hl.1 rfl (lv_room (Nat.le_of_ble_eq_true rfl)) d_M_turn_7 ⟨Nat.le_of_ble_eq_true rfl, Nat.le_of_ble_eq_true rfl⟩) hlo (fun _ h => h.elim) (fun x9 H9 locs9 hB9 hlo => ?_)
  obtain ⟨rfl, hB9⟩ := hB9
  rcases hB9.symm with ⟨rfl, hinv⟩ | ⟨rfl, kt, hkt, rfl⟩
  · refine x_topi (v := nI 1) (rfl) ?_
    refine lv_if_ne (tgt := 21) hx hb d_M_turn_10 (by decide) (fun _ => ?_) (fun h => absurd h (by decide))
    refine lv_aload_n hx hb d_M_turn_21 rfl (lv_at hl 0 rfl) ?_
    refine lv_iconst (v := nI 1) hx hb d_M_turn_22 (by decide) ?_
    refine x_fail hx hb htw hown hK hO hlo d_M_turn_23 (fun H2 locs2 hO hF2 hlo => ?_)
    have hSM := hSM.f1 hF2 (by omega)
    have hR := hR.f0 hF2
    refine lv_goto (tgt := 102) hx hb d_M_turn_26 (by decide) ?_
    exact W.vret hx hb hr (fun t ht hW => ⟨rfl, by rw [ht]; exact MA0 (hF1.tr hF2 (fun _ h => h)), Or.inr ⟨fun h => hinv h.1, by rw [ht]; exact ⟨hO, hSM, hR⟩⟩⟩) (MAlo hlo) d_M_turn_102
  refine x_topi (v := nI 0) (rfl) ?_
  refine lv_if_ne (tgt := 21) hx hb d_M_turn_10 (by decide) (fun h => absurd (by decide) h) (fun _ => ?_)
  have hl : lv_has ls 5 [(0, .ref o), (1, .int (nI kt)), (2, .int a), (3, .int z)] := hl
  refine lv_aload_n hx hb d_M_turn_13 rfl (lv_at hl 0 rfl) ?_
  refine lv_iload_n hx hb d_M_turn_14 rfl (lv_at hl 2 rfl) ?_
  refine x_calli (A := fun q => q = o) (va_runV (As := [.int a]) (rest := []) ⟨hx, hb, hml, hown, htw⟩ (m_out l D cJ cI cQ cR o a) (xcV 1 htw kw_316 kw_2 kw_313 kw_315 ks_M_out rfl rfl ⟨by decide, by decide, by decide +kernel⟩ ⟨Nat.le_of_ble_eq_true rfl, Nat.le_of_ble_eq_true rfl⟩) (xPreV hK (hO.rv hK) trivial) rfl rfl hl.1 rfl (lv_room (Nat.le_of_ble_eq_true rfl)) d_M_turn_15 ⟨Nat.le_of_ble_eq_true rfl, Nat.le_of_ble_eq_true rfl⟩) hlo (fun _ h => h.elim) (fun x9 H9 locs9 hB9 hlo => ?_)
  obtain ⟨rfl, hB9⟩ := hB9
  rcases hB9.symm with ⟨rfl, hinv⟩ | ⟨rfl, ka, hka, rfl⟩
  · refine x_topi (v := nI 1) (rfl) ?_
    refine lv_if_eq (tgt := 29) hx hb d_M_turn_18 (by decide) (fun h => absurd h (by decide)) (fun _ => ?_)
    refine lv_aload_n hx hb d_M_turn_21 rfl (lv_at hl 0 rfl) ?_
    refine lv_iconst (v := nI 1) hx hb d_M_turn_22 (by decide) ?_
    refine x_fail hx hb htw hown hK hO hlo d_M_turn_23 (fun H2 locs2 hO hF2 hlo => ?_)
    have hSM := hSM.f1 hF2 (by omega)
    have hR := hR.f0 hF2
    refine lv_goto (tgt := 102) hx hb d_M_turn_26 (by decide) ?_
    exact W.vret hx hb hr (fun t ht hW => ⟨rfl, by rw [ht]; exact MA0 (hF1.tr hF2 (fun _ h => h)), Or.inr ⟨fun h => hinv h.2, by rw [ht]; exact ⟨hO, hSM, hR⟩⟩⟩) (MAlo hlo) d_M_turn_102
  refine x_topi (v := nI 0) (rfl) ?_
  refine lv_if_eq (tgt := 29) hx hb d_M_turn_18 (by decide) (fun _ => ?_) (fun h => absurd (by decide) h)
  have hl : lv_has ls 5 [(0, .ref o), (1, .int (nI kt)), (2, .int (nI ka)), (3, .int z)] := hl
  obtain ⟨fka, h_ka, hNka⟩ := hR ka hka
  have hvka := hV ka hka
  obtain ⟨⟨f18, h_18⟩, ⟨f19, h_19⟩, ⟨f20, h_20⟩, ⟨f21, h_21, hN21⟩, ⟨f22, h_22⟩, ⟨f23, h_23⟩, ⟨f24, h_24⟩⟩ := hSM
  have hG := hO.rf
  have hlo := MAlo hlo
  have hF1 := MA0 hF1
  refine lv_aload_n hx hb d_M_turn_29 rfl (lv_at hl 0 rfl) ?_
  refine va_get (D := D) (ci := 1) (v := .ref (o + 20)) (C := "WideNumbersModel") (T := F_M) (N := 9) hx hb htw inM hown hK hO.1 0 rfl rfl 4 (by decide) (htw _ kw_280) (fun _ h9 => h9) rfl d_M_turn_30 ?_
  refine lv_aload_n hx hb d_M_turn_33 rfl (lv_at hl 0 rfl) ?_
  refine va_get (D := D) (ci := 1) (v := .ref (o + 1)) (C := "WideNumbersModel") (T := F_M) (N := 9) hx hb htw inM hown hK hO.1 0 rfl rfl 1 (by decide) (htw _ kw_277) (fun _ h9 => h9) rfl d_M_turn_34 ?_
  refine lv_iload_n hx hb d_M_turn_37 rfl (lv_at hl 2 rfl) ?_
  refine x_aald hx hb rfl hR9 hO.2 ka rfl hka (by omega) (v := o + 2 + ka) (if_pos hka) d_M_turn_38 ?_
  refine x_callv (A := MA o) (va_runS (As := [.ref (o + 20), .ref (o + 2 + ka)]) (rest := []) ⟨hx, hb, hml, hown, htw⟩ (m_copy l D cJ cI cQ cR (o + 20) (o + 2 + ka) 8 (V ka) f20 fka (by decide) (by omega) hNka) (xcS 2 htw kw_374 kw_2 kw_372 kw_373 rfl rfl ⟨by decide, by decide, by decide +kernel⟩ ⟨Nat.le_of_ble_eq_true rfl, Nat.le_of_ble_eq_true rfl⟩) (xPre hK ⟨h_20, h_ka⟩) rfl rfl hl.1 rfl (lv_room (Nat.le_of_ble_eq_true rfl)) d_M_turn_39 ⟨Nat.le_of_ble_eq_true rfl, Nat.le_of_ble_eq_true rfl⟩) hlo (fun q h => by have h : q = o + 20 := h; rw [h]; exact ⟨by omega, by omega⟩) (fun H3 locs3 hB3 hlo => ?_)
  obtain ⟨hF3, f3, hf3, hN3⟩ := hB3
  have h_18 := hI_f h_18 hF3 (show o + 18 ≠ o + 20 by omega)
  have h_19 := hI_f h_19 hF3 (show o + 19 ≠ o + 20 by omega)
  have h_20 := hf3
  have h_21 := hI_f h_21 hF3 (show o + 21 ≠ o + 20 by omega)
  have h_22 := hI_f h_22 hF3 (show o + 22 ≠ o + 20 by omega)
  have h_23 := hI_f h_23 hF3 (show o + 23 ≠ o + 20 by omega)
  have h_24 := hI_f h_24 hF3 (show o + 24 ≠ o + 20 by omega)
  have h_ka := hI_f h_ka hF3 (show o + 2 + ka ≠ o + 20 by omega)
  have hO := hO.f1 hF3 (by omega)
  have hG := MS1 hG hF3 (by omega)
  refine lv_iload_n hx hb d_M_turn_42 rfl (lv_at hl 3 rfl) ?_
  refine lv_if_eq (tgt := 81) hx hb d_M_turn_43 (by decide) (fun hc => ?_) (fun hc => ?_)
  · refine lv_aload_n hx hb d_M_turn_81 rfl (lv_at hl 0 rfl) ?_
    refine lv_aload_n hx hb d_M_turn_82 rfl (lv_at hl 0 rfl) ?_
    refine va_get (D := D) (ci := 1) (v := .ref (o + 20)) (C := "WideNumbersModel") (T := F_M) (N := 9) hx hb htw inM hown hK hO.1 0 rfl rfl 4 (by decide) (htw _ kw_280) (fun _ h9 => h9) rfl d_M_turn_83 ?_
    refine x_callv (A := MA o) (va_runV (As := [.ref (o + 20)]) (rest := []) ⟨hx, hb, hml, hown, htw⟩ (m_negate l D cJ cI cQ cR o (o + 20) (V ka) (nI 0) f3 f21 (by omega) hvka hN3 hN21) (xcV 1 htw kw_378 kw_2 kw_375 kw_377 ks_M_negate rfl rfl ⟨by decide, by decide, by decide +kernel⟩ ⟨Nat.le_of_ble_eq_true rfl, Nat.le_of_ble_eq_true rfl⟩) (xPreV hK (hO.rv hK) ⟨hO, h_20, h_21⟩) rfl rfl hl.1 rfl (lv_room (Nat.le_of_ble_eq_true rfl)) d_M_turn_86 ⟨Nat.le_of_ble_eq_true rfl, Nat.le_of_ble_eq_true rfl⟩) hlo (fun q h => by have h : q = o + 20 := h; rw [h]; exact ⟨by omega, by omega⟩) (fun H5 locs5 hB5 hlo => ?_)
    obtain ⟨hF5, f5, hf5, hN5⟩ := hB5
    have h_18 := hI_f h_18 hF5 (show o + 18 ≠ o + 20 by omega)
    have h_19 := hI_f h_19 hF5 (show o + 19 ≠ o + 20 by omega)
    have h_20 := hf5
    have h_21 := hI_f h_21 hF5 (show o + 21 ≠ o + 20 by omega)
    have h_22 := hI_f h_22 hF5 (show o + 22 ≠ o + 20 by omega)
    have h_23 := hI_f h_23 hF5 (show o + 23 ≠ o + 20 by omega)
    have h_24 := hI_f h_24 hF5 (show o + 24 ≠ o + 20 by omega)
    have h_ka := hI_f h_ka hF5 (show o + 2 + ka ≠ o + 20 by omega)
    have hO := hO.f1 hF5 (by omega)
    have hG := MS1 hG hF5 (by omega)
    have hR := hR.fS hG
    have hG := MAx hF1 hG
    have hSM : SM cI o _ := ⟨⟨_, h_18⟩, ⟨_, h_19⟩, ⟨_, h_20⟩, ⟨_, h_21, hN21⟩, ⟨_, h_22⟩, ⟨_, h_23⟩, ⟨_, h_24⟩⟩
    refine lv_aload_n hx hb d_M_turn_89 rfl (lv_at hl 0 rfl) ?_
    refine va_get (D := D) (ci := 1) (v := .ref (o + 1)) (C := "WideNumbersModel") (T := F_M) (N := 9) hx hb htw inM hown hK hO.1 0 rfl rfl 1 (by decide) (htw _ kw_277) (fun _ h9 => h9) rfl d_M_turn_90 ?_
    refine lv_iload_n hx hb d_M_turn_93 rfl (lv_at hl 1 rfl) ?_
    refine x_aald hx hb rfl hR9 hO.2 kt rfl hkt (by omega) (v := o + 2 + kt) (if_pos hkt) d_M_turn_94 ?_
    refine lv_aload_n hx hb d_M_turn_95 rfl (lv_at hl 0 rfl) ?_
    refine va_get (D := D) (ci := 1) (v := .ref (o + 20)) (C := "WideNumbersModel") (T := F_M) (N := 9) hx hb htw inM hown hK hO.1 0 rfl rfl 4 (by decide) (htw _ kw_280) (fun _ h9 => h9) rfl d_M_turn_96 ?_
    obtain ⟨ft, h_t, hNt⟩ := hR kt hkt
    refine x_callv (A := MA o) (va_runS (As := [.ref (o + 2 + kt), .ref (o + 20)]) (rest := []) ⟨hx, hb, hml, hown, htw⟩ (m_copy l D cJ cI cQ cR (o + 2 + kt) (o + 20) 8 (trn z (V ka)) ft f5 (by decide) (by omega) (by unfold trn; rw [if_pos hc]; exact hN5)) (xcS 2 htw kw_374 kw_2 kw_372 kw_373 rfl rfl ⟨by decide, by decide, by decide +kernel⟩ ⟨Nat.le_of_ble_eq_true rfl, Nat.le_of_ble_eq_true rfl⟩) (xPre hK ⟨h_t, h_20⟩) rfl rfl hl.1 rfl (lv_room (Nat.le_of_ble_eq_true rfl)) d_M_turn_99 ⟨Nat.le_of_ble_eq_true rfl, Nat.le_of_ble_eq_true rfl⟩) hlo (fun q h => by have h : q = o + 2 + kt := h; rw [h]; exact ⟨by omega, by omega⟩) (fun H8 locs8 hB8 hlo => ?_)
    obtain ⟨hF8, f8, hf8, hN8⟩ := hB8
    have hO := hO.f1 hF8 (by omega)
    have hSM := hSM.f1 hF8 (by omega)
    have hR := hR.put hF8 hf8 hN8
    have hG := hG.tr hF8 (fun q h => by have h : q = o + 2 + kt := h; rw [h]; exact ⟨by omega, by omega⟩)
    exact W.vret hx hb hr (fun t ht hW => ⟨rfl, by rw [ht]; exact hG, Or.inl ⟨kt, ka, hkt, rfl, hka, rfl, by rw [ht]; exact ⟨hO, hSM, hR⟩⟩⟩) hlo d_M_turn_102
  · refine lv_iconst (v := nI 0) hx hb d_M_turn_46 (by decide) ?_
    refine lv_istore hx hb d_M_turn_47 hl (by decide) rfl (fun ls hl => ?_)
    have hl : lv_has ls 5 [(4, .int (nI 0)), (0, .ref o), (1, .int (nI kt)), (2, .int (nI ka)), (3, .int z)] := hl
    have hl : lv_has ls 5 [(4, .int (nI 0)), (0, .ref o), (1, .int (nI kt))] := lv_sub hl [0, 1, 2] rfl
    refine x_loop 49 (fun i H locs ls => ∃ f : Nat → Int32, lv_has ls 5 [(4, .int (nI i)), (0, .ref o), (1, .int (nI kt))] ∧ (∀ q ∈ locs, MA o q.base) ∧ XF (fun q => q = o + 20) H3 H ∧ hI H cI (o + 20) 8 f ∧ NI f i (2 ^ 256 - (V ka + 1)) ∧ ∀ j, i ≤ j → j < 8 → f j = nI (dg (V ka) j)) 8 ?_ ?_ 0 _ _ _ (by omega) ?_
    · intro i H locs ls hi ⟨f, hl, hlo, hF, hf, hN, hhi⟩ ih
      refine lv_iload hx hb d_M_turn_49 (lv_at hl 0 rfl) ?_
      refine lv_bipush (v := nI 8) hx hb d_M_turn_51 (by decide) ?_
      refine lv_icmp_ge (tgt := 78) hx hb d_M_turn_53 (by decide) (fun hc => absurd hc (nI_ge (by omega) (by omega))) (fun _ => ?_)
      have hO := hO.f1 hF (by omega)
      refine lv_aload_n hx hb d_M_turn_56 rfl (lv_at hl 1 rfl) ?_
      refine va_get (D := D) (ci := 1) (v := .ref (o + 20)) (C := "WideNumbersModel") (T := F_M) (N := 9) hx hb htw inM hown hK hO.1 0 rfl rfl 4 (by decide) (htw _ kw_280) (fun _ h9 => h9) rfl d_M_turn_57 ?_
      refine lv_iload hx hb d_M_turn_60 (lv_at hl 0 rfl) ?_
      refine lv_aload_n hx hb d_M_turn_62 rfl (lv_at hl 1 rfl) ?_
      refine va_get (D := D) (ci := 1) (v := .ref (o + 20)) (C := "WideNumbersModel") (T := F_M) (N := 9) hx hb htw inM hown hK hO.1 0 rfl rfl 4 (by decide) (htw _ kw_280) (fun _ h9 => h9) rfl d_M_turn_63 ?_
      refine lv_iload hx hb d_M_turn_66 (lv_at hl 0 rfl) ?_
      refine x_iald hx hb hI9 hf (i) (rfl) (by omega) (by omega) (v := nI (dg (V ka) i)) (hhi i (Nat.le_refl i) hi) d_M_turn_68 ?_
      refine lv_iconst (v := -1) hx hb d_M_turn_69 (by decide) ?_
      refine lv_ixor hx hb d_M_turn_70 ?_
      refine x_topi (v := nI (dg (2 ^ 256 - (V ka + 1)) i)) (by rw [show (-1 : Int32) = nI 4294967295 from by decide, iN_xor, dg_not hvka hi]) ?_
      refine x_iast (A := MA o) hx hb hI9 hf hlo (⟨by omega, by omega⟩) (i) (rfl) (by omega) (by omega) d_M_turn_71 (fun H4 locs4 h4 hF4 hlo4 => ?_)
      refine lv_iinc (v := nI (i + 1)) (k := 0) hx hb d_M_turn_72 hl rfl (nI_1 i) (by decide) rfl (fun ls hl => ?_)
      have hl : lv_has ls 5 [(4, .int (nI (i + 1))), (0, .ref o), (1, .int (nI kt))] := hl
      refine lv_goto (tgt := 49) hx hb d_M_turn_75 (by decide) ?_
      have hl : lv_has ls 5 [(4, .int (nI (i + 1))), (0, .ref o), (1, .int (nI kt))] := lv_sub hl [0, 1, 2] rfl
      exact ih H4 locs4 ls ⟨_, hl, hlo4, hF.tr hF4 (fun _ h => h), h4, NI_up hN, fun j h1 h2 => by rw [pk_un (by omega)]; exact hhi j (by omega) h2⟩
    · intro H locs ls ⟨f, hl, hlo, hF, hf, hN, hhi⟩
      refine lv_iload hx hb d_M_turn_49 (lv_at hl 0 rfl) ?_
      refine lv_bipush (v := nI 8) hx hb d_M_turn_51 (by decide) ?_
      refine lv_icmp_ge (tgt := 78) hx hb d_M_turn_53 (by decide) (fun _ => ?_) (fun hc => absurd (nI_le (Nat.le_refl _) (by omega)) hc)
      have h_18 := hI_f h_18 hF (show o + 18 ≠ o + 20 by omega)
      have h_19 := hI_f h_19 hF (show o + 19 ≠ o + 20 by omega)
      have h_20 := hf
      have h_21 := hI_f h_21 hF (show o + 21 ≠ o + 20 by omega)
      have h_22 := hI_f h_22 hF (show o + 22 ≠ o + 20 by omega)
      have h_23 := hI_f h_23 hF (show o + 23 ≠ o + 20 by omega)
      have h_24 := hI_f h_24 hF (show o + 24 ≠ o + 20 by omega)
      have h_ka := hI_f h_ka hF (show o + 2 + ka ≠ o + 20 by omega)
      have hO := hO.f1 hF (by omega)
      have hG := MS1 hG hF (by omega)
      refine lv_goto (tgt := 89) hx hb d_M_turn_78 (by decide) ?_
      have hR := hR.fS hG
      have hG := MAx hF1 hG
      have hSM : SM cI o _ := ⟨⟨_, h_18⟩, ⟨_, h_19⟩, ⟨_, h_20⟩, ⟨_, h_21, hN21⟩, ⟨_, h_22⟩, ⟨_, h_23⟩, ⟨_, h_24⟩⟩
      refine lv_aload_n hx hb d_M_turn_89 rfl (lv_at hl 1 rfl) ?_
      refine va_get (D := D) (ci := 1) (v := .ref (o + 1)) (C := "WideNumbersModel") (T := F_M) (N := 9) hx hb htw inM hown hK hO.1 0 rfl rfl 1 (by decide) (htw _ kw_277) (fun _ h9 => h9) rfl d_M_turn_90 ?_
      refine lv_iload_n hx hb d_M_turn_93 rfl (lv_at hl 2 rfl) ?_
      refine x_aald hx hb rfl hR9 hO.2 kt rfl hkt (by omega) (v := o + 2 + kt) (if_pos hkt) d_M_turn_94 ?_
      refine lv_aload_n hx hb d_M_turn_95 rfl (lv_at hl 1 rfl) ?_
      refine va_get (D := D) (ci := 1) (v := .ref (o + 20)) (C := "WideNumbersModel") (T := F_M) (N := 9) hx hb htw inM hown hK hO.1 0 rfl rfl 4 (by decide) (htw _ kw_280) (fun _ h9 => h9) rfl d_M_turn_96 ?_
      obtain ⟨ft, h_t, hNt⟩ := hR kt hkt
      refine x_callv (A := MA o) (va_runS (As := [.ref (o + 2 + kt), .ref (o + 20)]) (rest := []) ⟨hx, hb, hml, hown, htw⟩ (m_copy l D cJ cI cQ cR (o + 2 + kt) (o + 20) 8 (trn z (V ka)) ft f (by decide) (by omega) (by unfold trn; rw [if_neg hc]; exact hN)) (xcS 2 htw kw_374 kw_2 kw_372 kw_373 rfl rfl ⟨by decide, by decide, by decide +kernel⟩ ⟨Nat.le_of_ble_eq_true rfl, Nat.le_of_ble_eq_true rfl⟩) (xPre hK ⟨h_t, h_20⟩) rfl rfl hl.1 rfl (lv_room (Nat.le_of_ble_eq_true rfl)) d_M_turn_99 ⟨Nat.le_of_ble_eq_true rfl, Nat.le_of_ble_eq_true rfl⟩) hlo (fun q h => by have h : q = o + 2 + kt := h; rw [h]; exact ⟨by omega, by omega⟩) (fun H8 locs8 hB8 hlo => ?_)
      obtain ⟨hF8, f8, hf8, hN8⟩ := hB8
      have hO := hO.f1 hF8 (by omega)
      have hSM := hSM.f1 hF8 (by omega)
      have hR := hR.put hF8 hf8 hN8
      have hG := hG.tr hF8 (fun q h => by have h : q = o + 2 + kt := h; rw [h]; exact ⟨by omega, by omega⟩)
      exact W.vret hx hb hr (fun t ht hW => ⟨rfl, by rw [ht]; exact hG, Or.inl ⟨kt, ka, hkt, rfl, hka, rfl, by rw [ht]; exact ⟨hO, hSM, hR⟩⟩⟩) hlo d_M_turn_102
    · exact ⟨f3, hl, hlo, XF.rf, h_20, NI_0, fun j _ h => hN3 j h⟩
set_option maxHeartbeats 4000000 in
set_option maxRecDepth 100000 in
theorem m_compare (l : Launch) (D : va_G) (cJ cI cQ cR : ClassId) (o : Nat) (fl : Int32) (V : Nat → Nat) (hV : ∀ r, r < 16 → V r < 2 ^ 256) (a b z : Int32) : Met l y_M_compare w_M_compare { frames := 1, cells := 0, slots := 0, locals := 22 } (xP D vwCl (TY cJ cI cQ cR) [.ref o, .int a, .int b, .int z] (fun H => MO D cI cR o fl V H)) (xQi (fun x H0 H => XF (MA o) H0 H ∧ ((∃ ka kb : Nat, ka < 16 ∧ a = nI ka ∧ kb < 16 ∧ b = nI kb ∧ x = cmpv z (V ka) (V kb) ∧ MO D cI cR o (nI 0) (V) H) ∨ (¬ (vd a 16 ∧ vd b 16) ∧ MO D cI cR o (nI 1) V H)))) 0 0 (MA o) := by
  refine Met.ofW (cc := b_M_compare) (maxL := 4) (ret := some .int) (by decide) rfl ?_
  intro p e s m args below meth c s₁ B hml hv
  obtain ⟨rfl, hK, ⟨hO, hSM, hR⟩⟩ := hv
  have hx := B.exec
  have hb := B.bytes
  have hr := B.returns
  have hts := atoms_spec (ws := w_M_compare) B.pre
  have htw : ∀ w ∈ WT, w.before _ s = true := fun w h => hts w (List.mem_cons_of_mem _ h)
  have hown : s.vm.findClass "WideNumbersModel" = some m.cls := findClass_of_methodNamed B.named
  have hlocks := B.notSynchronized
  have hJ : ArrOfT s cJ .long := (hK.2 0 _ rfl).1
  have hI9 : ArrOfT s cI .int := (hK.2 1 _ rfl).1
  have hl := lv_entry ([.ref o, .int a, .int b, .int z]) (n := 4) (Nat.le_of_ble_eq_true rfl)
  rw [lg_entry_eq]
  generalize (lg_sl ([.ref o, .int a, .int b, .int z]) ++ List.replicate (4 - (lg_sl ([.ref o, .int a, .int b, .int z])).length) Slot.unset).toArray = ls at hl ⊢
  have hl : lv_has ls 4 [(0, .ref o), (1, .int a), (2, .int b), (3, .int z)] := hl
  have hR9 : ArrOfT s cR (.array .int) := (hK.2 3 _ rfl).1
  refine lv_aload_n hx hb d_M_compare_0 rfl (lv_at hl 0 rfl) ?_
  refine lv_iconst (v := nI 0) hx hb d_M_compare_1 (by decide) ?_
  refine x_fail hx hb htw hown hK hO (fun _ h => nomatch h) d_M_compare_2 (fun H1 locs1 hO hF1 hlo => ?_)
  have hSM := hSM.f1 hF1 (by omega)
  have hR := hR.f0 hF1
  refine lv_aload_n hx hb d_M_compare_5 rfl (lv_at hl 0 rfl) ?_
  refine lv_iload_n hx hb d_M_compare_6 rfl (lv_at hl 1 rfl) ?_
  refine x_calli (A := fun q => q = o) (va_runV (As := [.int a]) (rest := []) ⟨hx, hb, hml, hown, htw⟩ (m_out l D cJ cI cQ cR o a) (xcV 1 htw kw_316 kw_2 kw_313 kw_315 ks_M_out rfl rfl ⟨by decide, by decide, by decide +kernel⟩ ⟨Nat.le_of_ble_eq_true rfl, Nat.le_of_ble_eq_true rfl⟩) (xPreV hK (hO.rv hK) trivial) rfl rfl hl.1 rfl (lv_room (Nat.le_of_ble_eq_true rfl)) d_M_compare_7 ⟨Nat.le_of_ble_eq_true rfl, Nat.le_of_ble_eq_true rfl⟩) hlo (fun _ h => h.elim) (fun x9 H9 locs9 hB9 hlo => ?_)
  obtain ⟨rfl, hB9⟩ := hB9
  rcases hB9.symm with ⟨rfl, hinv⟩ | ⟨rfl, ka, hka, rfl⟩
  · refine x_topi (v := nI 1) (rfl) ?_
    refine lv_if_ne (tgt := 21) hx hb d_M_compare_10 (by decide) (fun _ => ?_) (fun h => absurd h (by decide))
    refine lv_aload_n hx hb d_M_compare_21 rfl (lv_at hl 0 rfl) ?_
    refine lv_iconst (v := nI 1) hx hb d_M_compare_22 (by decide) ?_
    refine x_calli (A := fun q => q = o) (va_runV (As := [.int (nI 1)]) (rest := []) ⟨hx, hb, hml, hown, htw⟩ (m_fail l D cJ cI cQ cR o (nI 0) (nI 1)) (xcV 1 htw kw_324 kw_2 kw_321 kw_323 ks_M_fail rfl rfl ⟨by decide, by decide, by decide +kernel⟩ ⟨Nat.le_of_ble_eq_true rfl, Nat.le_of_ble_eq_true rfl⟩) (xPreV hK (hO.rv hK) hO) rfl rfl hl.1 rfl (lv_room (Nat.le_of_ble_eq_true rfl)) d_M_compare_23 ⟨Nat.le_of_ble_eq_true rfl, Nat.le_of_ble_eq_true rfl⟩) hlo (fun _ h => h) (fun x2 H2 locs2 hB2 hlo => ?_)
    obtain ⟨hF2, rfl, hO⟩ := hB2
    have hSM := hSM.f1 hF2 (by omega)
    have hR := hR.f0 hF2
    exact W.iret hx hb hr (fun t ht hW => ⟨_, rfl, by rw [ht]; exact MA0 (hF1.tr hF2 (fun _ h => h)), Or.inr ⟨fun h => hinv h.1, by rw [ht]; exact ⟨hO, hSM, hR⟩⟩⟩) (MAlo hlo) d_M_compare_26
  refine x_topi (v := nI 0) (rfl) ?_
  refine lv_if_ne (tgt := 21) hx hb d_M_compare_10 (by decide) (fun h => absurd (by decide) h) (fun _ => ?_)
  have hl : lv_has ls 4 [(0, .ref o), (1, .int (nI ka)), (2, .int b), (3, .int z)] := hl
  refine lv_aload_n hx hb d_M_compare_13 rfl (lv_at hl 0 rfl) ?_
  refine lv_iload_n hx hb d_M_compare_14 rfl (lv_at hl 2 rfl) ?_
  refine x_calli (A := fun q => q = o) (va_runV (As := [.int b]) (rest := []) ⟨hx, hb, hml, hown, htw⟩ (m_out l D cJ cI cQ cR o b) (xcV 1 htw kw_316 kw_2 kw_313 kw_315 ks_M_out rfl rfl ⟨by decide, by decide, by decide +kernel⟩ ⟨Nat.le_of_ble_eq_true rfl, Nat.le_of_ble_eq_true rfl⟩) (xPreV hK (hO.rv hK) trivial) rfl rfl hl.1 rfl (lv_room (Nat.le_of_ble_eq_true rfl)) d_M_compare_15 ⟨Nat.le_of_ble_eq_true rfl, Nat.le_of_ble_eq_true rfl⟩) hlo (fun _ h => h.elim) (fun x9 H9 locs9 hB9 hlo => ?_)
  obtain ⟨rfl, hB9⟩ := hB9
  rcases hB9.symm with ⟨rfl, hinv⟩ | ⟨rfl, kb, hkb, rfl⟩
  · refine x_topi (v := nI 1) (rfl) ?_
    refine lv_if_eq (tgt := 27) hx hb d_M_compare_18 (by decide) (fun h => absurd h (by decide)) (fun _ => ?_)
    refine lv_aload_n hx hb d_M_compare_21 rfl (lv_at hl 0 rfl) ?_
    refine lv_iconst (v := nI 1) hx hb d_M_compare_22 (by decide) ?_
    refine x_calli (A := fun q => q = o) (va_runV (As := [.int (nI 1)]) (rest := []) ⟨hx, hb, hml, hown, htw⟩ (m_fail l D cJ cI cQ cR o (nI 0) (nI 1)) (xcV 1 htw kw_324 kw_2 kw_321 kw_323 ks_M_fail rfl rfl ⟨by decide, by decide, by decide +kernel⟩ ⟨Nat.le_of_ble_eq_true rfl, Nat.le_of_ble_eq_true rfl⟩) (xPreV hK (hO.rv hK) hO) rfl rfl hl.1 rfl (lv_room (Nat.le_of_ble_eq_true rfl)) d_M_compare_23 ⟨Nat.le_of_ble_eq_true rfl, Nat.le_of_ble_eq_true rfl⟩) hlo (fun _ h => h) (fun x2 H2 locs2 hB2 hlo => ?_)
    obtain ⟨hF2, rfl, hO⟩ := hB2
    have hSM := hSM.f1 hF2 (by omega)
    have hR := hR.f0 hF2
    exact W.iret hx hb hr (fun t ht hW => ⟨_, rfl, by rw [ht]; exact MA0 (hF1.tr hF2 (fun _ h => h)), Or.inr ⟨fun h => hinv h.2, by rw [ht]; exact ⟨hO, hSM, hR⟩⟩⟩) (MAlo hlo) d_M_compare_26
  refine x_topi (v := nI 0) (rfl) ?_
  refine lv_if_eq (tgt := 27) hx hb d_M_compare_18 (by decide) (fun _ => ?_) (fun h => absurd (by decide) h)
  have hl : lv_has ls 4 [(0, .ref o), (1, .int (nI ka)), (2, .int (nI kb)), (3, .int z)] := hl
  obtain ⟨fka, h_ka, hNka⟩ := hR ka hka
  have hvka := hV ka hka
  obtain ⟨fkb, h_kb, hNkb⟩ := hR kb hkb
  have hvkb := hV kb hkb
  obtain ⟨⟨f18, h_18⟩, ⟨f19, h_19⟩, ⟨f20, h_20⟩, ⟨f21, h_21, hN21⟩, ⟨f22, h_22⟩, ⟨f23, h_23⟩, ⟨f24, h_24⟩⟩ := hSM
  have hG := hO.rf
  have hlo := MAlo hlo
  have hF1 := MA0 hF1
  refine lv_aload_n hx hb d_M_compare_27 rfl (lv_at hl 0 rfl) ?_
  refine va_get (D := D) (ci := 1) (v := .ref (o + 18)) (C := "WideNumbersModel") (T := F_M) (N := 9) hx hb htw inM hown hK hO.1 0 rfl rfl 2 (by decide) (htw _ kw_278) (fun _ h9 => h9) rfl d_M_compare_28 ?_
  refine lv_aload_n hx hb d_M_compare_31 rfl (lv_at hl 0 rfl) ?_
  refine va_get (D := D) (ci := 1) (v := .ref (o + 1)) (C := "WideNumbersModel") (T := F_M) (N := 9) hx hb htw inM hown hK hO.1 0 rfl rfl 1 (by decide) (htw _ kw_277) (fun _ h9 => h9) rfl d_M_compare_32 ?_
  refine lv_iload_n hx hb d_M_compare_35 rfl (lv_at hl 1 rfl) ?_
  refine x_aald hx hb rfl hR9 hO.2 ka rfl hka (by omega) (v := o + 2 + ka) (if_pos hka) d_M_compare_36 ?_
  refine x_callv (A := MA o) (va_runS (As := [.ref (o + 18), .ref (o + 2 + ka)]) (rest := []) ⟨hx, hb, hml, hown, htw⟩ (m_copy l D cJ cI cQ cR (o + 18) (o + 2 + ka) 8 (V ka) f18 fka (by decide) (by omega) hNka) (xcS 2 htw kw_374 kw_2 kw_372 kw_373 rfl rfl ⟨by decide, by decide, by decide +kernel⟩ ⟨Nat.le_of_ble_eq_true rfl, Nat.le_of_ble_eq_true rfl⟩) (xPre hK ⟨h_18, h_ka⟩) rfl rfl hl.1 rfl (lv_room (Nat.le_of_ble_eq_true rfl)) d_M_compare_37 ⟨Nat.le_of_ble_eq_true rfl, Nat.le_of_ble_eq_true rfl⟩) hlo (fun q h => by have h : q = o + 18 := h; rw [h]; exact ⟨by omega, by omega⟩) (fun H3 locs3 hB3 hlo => ?_)
  obtain ⟨hF3, f3, hf3, hN3⟩ := hB3
  have h_18 := hf3
  have h_19 := hI_f h_19 hF3 (show o + 19 ≠ o + 18 by omega)
  have h_20 := hI_f h_20 hF3 (show o + 20 ≠ o + 18 by omega)
  have h_21 := hI_f h_21 hF3 (show o + 21 ≠ o + 18 by omega)
  have h_22 := hI_f h_22 hF3 (show o + 22 ≠ o + 18 by omega)
  have h_23 := hI_f h_23 hF3 (show o + 23 ≠ o + 18 by omega)
  have h_24 := hI_f h_24 hF3 (show o + 24 ≠ o + 18 by omega)
  have h_ka := hI_f h_ka hF3 (show o + 2 + ka ≠ o + 18 by omega)
  have h_kb := hI_f h_kb hF3 (show o + 2 + kb ≠ o + 18 by omega)
  have hO := hO.f1 hF3 (by omega)
  have hG := MS1 hG hF3 (by omega)
  refine lv_aload_n hx hb d_M_compare_40 rfl (lv_at hl 0 rfl) ?_
  refine va_get (D := D) (ci := 1) (v := .ref (o + 19)) (C := "WideNumbersModel") (T := F_M) (N := 9) hx hb htw inM hown hK hO.1 0 rfl rfl 3 (by decide) (htw _ kw_279) (fun _ h9 => h9) rfl d_M_compare_41 ?_
  refine lv_aload_n hx hb d_M_compare_44 rfl (lv_at hl 0 rfl) ?_
  refine va_get (D := D) (ci := 1) (v := .ref (o + 1)) (C := "WideNumbersModel") (T := F_M) (N := 9) hx hb htw inM hown hK hO.1 0 rfl rfl 1 (by decide) (htw _ kw_277) (fun _ h9 => h9) rfl d_M_compare_45 ?_
  refine lv_iload_n hx hb d_M_compare_48 rfl (lv_at hl 2 rfl) ?_
  refine x_aald hx hb rfl hR9 hO.2 kb rfl hkb (by omega) (v := o + 2 + kb) (if_pos hkb) d_M_compare_49 ?_
  refine x_callv (A := MA o) (va_runS (As := [.ref (o + 19), .ref (o + 2 + kb)]) (rest := []) ⟨hx, hb, hml, hown, htw⟩ (m_copy l D cJ cI cQ cR (o + 19) (o + 2 + kb) 8 (V kb) f19 fkb (by decide) (by omega) hNkb) (xcS 2 htw kw_374 kw_2 kw_372 kw_373 rfl rfl ⟨by decide, by decide, by decide +kernel⟩ ⟨Nat.le_of_ble_eq_true rfl, Nat.le_of_ble_eq_true rfl⟩) (xPre hK ⟨h_19, h_kb⟩) rfl rfl hl.1 rfl (lv_room (Nat.le_of_ble_eq_true rfl)) d_M_compare_50 ⟨Nat.le_of_ble_eq_true rfl, Nat.le_of_ble_eq_true rfl⟩) hlo (fun q h => by have h : q = o + 19 := h; rw [h]; exact ⟨by omega, by omega⟩) (fun H4 locs4 hB4 hlo => ?_)
  obtain ⟨hF4, f4, hf4, hN4⟩ := hB4
  have h_18 := hI_f h_18 hF4 (show o + 18 ≠ o + 19 by omega)
  have h_19 := hf4
  have h_20 := hI_f h_20 hF4 (show o + 20 ≠ o + 19 by omega)
  have h_21 := hI_f h_21 hF4 (show o + 21 ≠ o + 19 by omega)
  have h_22 := hI_f h_22 hF4 (show o + 22 ≠ o + 19 by omega)
  have h_23 := hI_f h_23 hF4 (show o + 23 ≠ o + 19 by omega)
  have h_24 := hI_f h_24 hF4 (show o + 24 ≠ o + 19 by omega)
  have h_ka := hI_f h_ka hF4 (show o + 2 + ka ≠ o + 19 by omega)
  have h_kb := hI_f h_kb hF4 (show o + 2 + kb ≠ o + 19 by omega)
  have hO := hO.f1 hF4 (by omega)
  have hG := MS1 hG hF4 (by omega)
  refine lv_iload_n hx hb d_M_compare_53 rfl (lv_at hl 3 rfl) ?_
  refine lv_if_eq (tgt := 81) hx hb d_M_compare_54 (by decide) (fun hc => ?_) (fun hc => ?_)
  · have hcv : cmpv z (V ka) (V kb) = ordv (V ka) (V kb) := by
      unfold cmpv
      rw [if_pos hc]
    refine lv_aload_n hx hb d_M_compare_81 rfl (lv_at hl 0 rfl) ?_
    refine va_get (D := D) (ci := 1) (v := .ref (o + 18)) (C := "WideNumbersModel") (T := F_M) (N := 9) hx hb htw inM hown hK hO.1 0 rfl rfl 2 (by decide) (htw _ kw_278) (fun _ h9 => h9) rfl d_M_compare_82 ?_
    refine lv_aload_n hx hb d_M_compare_85 rfl (lv_at hl 0 rfl) ?_
    refine va_get (D := D) (ci := 1) (v := .ref (o + 19)) (C := "WideNumbersModel") (T := F_M) (N := 9) hx hb htw inM hown hK hO.1 0 rfl rfl 3 (by decide) (htw _ kw_279) (fun _ h9 => h9) rfl d_M_compare_86 ?_
    refine x_calli (A := MA o) (va_runS (As := [.ref (o + 18), .ref (o + 19)]) (rest := []) ⟨hx, hb, hml, hown, htw⟩ (m_less l D cJ cI cQ cR (o + 18) (o + 19) (V ka) (V kb) f3 f4 hvka hvkb hN3 hN4) (xcS 2 htw kw_416 kw_2 kw_414 kw_415 rfl rfl ⟨by decide, by decide, by decide +kernel⟩ ⟨Nat.le_of_ble_eq_true rfl, Nat.le_of_ble_eq_true rfl⟩) (xPre hK ⟨h_18, h_19⟩) rfl rfl hl.1 rfl (lv_room (Nat.le_of_ble_eq_true rfl)) d_M_compare_89 ⟨Nat.le_of_ble_eq_true rfl, Nat.le_of_ble_eq_true rfl⟩) hlo (fun _ h => h.elim) (fun x5 H5 locs5 hB5 hlo => ?_)
    obtain ⟨rfl, rfl⟩ := hB5
    refine lv_if_eq (tgt := 99) hx hb d_M_compare_92 (by decide) (fun hc5 => ?_) (fun hc5 => ?_)
    · have hge : ¬ V ka < V kb := fun h => by
        rw [if_pos h] at hc5
        exact absurd hc5 (by decide)
      refine lv_aload_n hx hb d_M_compare_99 rfl (lv_at hl 0 rfl) ?_
      refine va_get (D := D) (ci := 1) (v := .ref (o + 19)) (C := "WideNumbersModel") (T := F_M) (N := 9) hx hb htw inM hown hK hO.1 0 rfl rfl 3 (by decide) (htw _ kw_279) (fun _ h9 => h9) rfl d_M_compare_100 ?_
      refine lv_aload_n hx hb d_M_compare_103 rfl (lv_at hl 0 rfl) ?_
      refine va_get (D := D) (ci := 1) (v := .ref (o + 18)) (C := "WideNumbersModel") (T := F_M) (N := 9) hx hb htw inM hown hK hO.1 0 rfl rfl 2 (by decide) (htw _ kw_278) (fun _ h9 => h9) rfl d_M_compare_104 ?_
      refine x_calli (A := MA o) (va_runS (As := [.ref (o + 19), .ref (o + 18)]) (rest := []) ⟨hx, hb, hml, hown, htw⟩ (m_less l D cJ cI cQ cR (o + 19) (o + 18) (V kb) (V ka) f4 f3 hvkb hvka hN4 hN3) (xcS 2 htw kw_416 kw_2 kw_414 kw_415 rfl rfl ⟨by decide, by decide, by decide +kernel⟩ ⟨Nat.le_of_ble_eq_true rfl, Nat.le_of_ble_eq_true rfl⟩) (xPre hK ⟨h_19, h_18⟩) rfl rfl hl.1 rfl (lv_room (Nat.le_of_ble_eq_true rfl)) d_M_compare_107 ⟨Nat.le_of_ble_eq_true rfl, Nat.le_of_ble_eq_true rfl⟩) hlo (fun _ h => h.elim) (fun x6 H6 locs6 hB6 hlo => ?_)
      obtain ⟨rfl, rfl⟩ := hB6
      refine lv_if_eq (tgt := 117) hx hb d_M_compare_110 (by decide) (fun hc6 => ?_) (fun hc6 => ?_)
      · have hge2 : ¬ V kb < V ka := fun h => by
          rw [if_pos h] at hc6
          exact absurd hc6 (by decide)
        refine lv_iconst (v := nI 0) hx hb d_M_compare_117 (by decide) ?_
        exact W.iret hx hb hr (fun t ht hW => ⟨_, rfl, by rw [ht]; exact MAx hF1 hG, Or.inl ⟨ka, kb, hka, rfl, hkb, rfl, by rw [hcv]; unfold ordv; rw [if_neg hge, if_pos (by omega)]; rfl, by rw [ht]; exact ⟨hO, ⟨⟨_, h_18⟩, ⟨_, h_19⟩, ⟨_, h_20⟩, ⟨_, h_21, hN21⟩, ⟨_, h_22⟩, ⟨_, h_23⟩, ⟨_, h_24⟩⟩, hR.fS hG⟩⟩⟩) hlo d_M_compare_118
      · have hlt : V kb < V ka := Decidable.byContradiction (fun h => hc6 (by rw [if_neg h]))
        refine lv_iconst (v := nI 1) hx hb d_M_compare_113 (by decide) ?_
        refine lv_goto (tgt := 118) hx hb d_M_compare_114 (by decide) ?_
        exact W.iret hx hb hr (fun t ht hW => ⟨_, rfl, by rw [ht]; exact MAx hF1 hG, Or.inl ⟨ka, kb, hka, rfl, hkb, rfl, by rw [hcv]; unfold ordv; rw [if_neg hge, if_neg (by omega)]; rfl, by rw [ht]; exact ⟨hO, ⟨⟨_, h_18⟩, ⟨_, h_19⟩, ⟨_, h_20⟩, ⟨_, h_21, hN21⟩, ⟨_, h_22⟩, ⟨_, h_23⟩, ⟨_, h_24⟩⟩, hR.fS hG⟩⟩⟩) hlo d_M_compare_118
    · have hlt : V ka < V kb := Decidable.byContradiction (fun h => hc5 (by rw [if_neg h]))
      refine lv_iconst (v := -1) hx hb d_M_compare_95 (by decide) ?_
      refine lv_goto (tgt := 118) hx hb d_M_compare_96 (by decide) ?_
      exact W.iret hx hb hr (fun t ht hW => ⟨_, rfl, by rw [ht]; exact MAx hF1 hG, Or.inl ⟨ka, kb, hka, rfl, hkb, rfl, by rw [hcv]; unfold ordv; rw [if_pos hlt], by rw [ht]; exact ⟨hO, ⟨⟨_, h_18⟩, ⟨_, h_19⟩, ⟨_, h_20⟩, ⟨_, h_21, hN21⟩, ⟨_, h_22⟩, ⟨_, h_23⟩, ⟨_, h_24⟩⟩, hR.fS hG⟩⟩⟩) hlo d_M_compare_118
  · have hcv := cmp_flip hc hvka hvkb
    refine lv_aload_n hx hb d_M_compare_57 rfl (lv_at hl 0 rfl) ?_
    refine va_get (D := D) (ci := 1) (v := .ref (o + 18)) (C := "WideNumbersModel") (T := F_M) (N := 9) hx hb htw inM hown hK hO.1 0 rfl rfl 2 (by decide) (htw _ kw_278) (fun _ h9 => h9) rfl d_M_compare_58 ?_
    refine lv_bipush (v := nI 7) hx hb d_M_compare_61 (by decide) ?_
    refine lv_dup2_11 hx hb d_M_compare_63 rfl rfl ?_
    refine x_iald hx hb hI9 h_18 (7) (rfl) (by omega) (by omega) (v := nI (dg (V ka) 7)) (hN3 7 (by decide)) d_M_compare_64 ?_
    refine lv_ldc (v := (-2147483648 : Int32)) hx hb hown (htw _ kw_413) d_M_compare_65 ?_
    refine lv_ixor hx hb d_M_compare_67 ?_
    refine x_topi (v := nI (dg (V ka) 7 ^^^ 2147483648)) (by rw [show (-2147483648 : Int32) = nI 2147483648 from by decide, iN_xor]) ?_
    refine x_iast (A := MA o) hx hb hI9 h_18 hlo (⟨by omega, by omega⟩) (7) (rfl) (by omega) (by omega) d_M_compare_68 (fun H5 locs5 h5 hF5 hlo => ?_)
    have h_18 := h5
    have h_19 := hI_f h_19 hF5 (show o + 19 ≠ o + 18 by omega)
    have h_20 := hI_f h_20 hF5 (show o + 20 ≠ o + 18 by omega)
    have h_21 := hI_f h_21 hF5 (show o + 21 ≠ o + 18 by omega)
    have h_22 := hI_f h_22 hF5 (show o + 22 ≠ o + 18 by omega)
    have h_23 := hI_f h_23 hF5 (show o + 23 ≠ o + 18 by omega)
    have h_24 := hI_f h_24 hF5 (show o + 24 ≠ o + 18 by omega)
    have h_ka := hI_f h_ka hF5 (show o + 2 + ka ≠ o + 18 by omega)
    have h_kb := hI_f h_kb hF5 (show o + 2 + kb ≠ o + 18 by omega)
    have hO := hO.f1 hF5 (by omega)
    have hG := MS1 hG hF5 (by omega)
    refine lv_aload_n hx hb d_M_compare_69 rfl (lv_at hl 0 rfl) ?_
    refine va_get (D := D) (ci := 1) (v := .ref (o + 19)) (C := "WideNumbersModel") (T := F_M) (N := 9) hx hb htw inM hown hK hO.1 0 rfl rfl 3 (by decide) (htw _ kw_279) (fun _ h9 => h9) rfl d_M_compare_70 ?_
    refine lv_bipush (v := nI 7) hx hb d_M_compare_73 (by decide) ?_
    refine lv_dup2_11 hx hb d_M_compare_75 rfl rfl ?_
    refine x_iald hx hb hI9 h_19 (7) (rfl) (by omega) (by omega) (v := nI (dg (V kb) 7)) (hN4 7 (by decide)) d_M_compare_76 ?_
    refine lv_ldc (v := (-2147483648 : Int32)) hx hb hown (htw _ kw_413) d_M_compare_77 ?_
    refine lv_ixor hx hb d_M_compare_79 ?_
    refine x_topi (v := nI (dg (V kb) 7 ^^^ 2147483648)) (by rw [show (-2147483648 : Int32) = nI 2147483648 from by decide, iN_xor]) ?_
    refine x_iast (A := MA o) hx hb hI9 h_19 hlo (⟨by omega, by omega⟩) (7) (rfl) (by omega) (by omega) d_M_compare_80 (fun H6 locs6 h6 hF6 hlo => ?_)
    have h_18 := hI_f h_18 hF6 (show o + 18 ≠ o + 19 by omega)
    have h_19 := h6
    have h_20 := hI_f h_20 hF6 (show o + 20 ≠ o + 19 by omega)
    have h_21 := hI_f h_21 hF6 (show o + 21 ≠ o + 19 by omega)
    have h_22 := hI_f h_22 hF6 (show o + 22 ≠ o + 19 by omega)
    have h_23 := hI_f h_23 hF6 (show o + 23 ≠ o + 19 by omega)
    have h_24 := hI_f h_24 hF6 (show o + 24 ≠ o + 19 by omega)
    have h_ka := hI_f h_ka hF6 (show o + 2 + ka ≠ o + 19 by omega)
    have h_kb := hI_f h_kb hF6 (show o + 2 + kb ≠ o + 19 by omega)
    have hO := hO.f1 hF6 (by omega)
    have hG := MS1 hG hF6 (by omega)
    have hN5 := flip_N hN3
    have hN6 := flip_N hN4
    have hl5 := flip_lt hvka
    have hl6 := flip_lt hvkb
    generalize V ka ^^^ 2 ^ 255 = w5 at hcv hN5 hl5
    generalize V kb ^^^ 2 ^ 255 = w6 at hcv hN6 hl6
    refine lv_aload_n hx hb d_M_compare_81 rfl (lv_at hl 0 rfl) ?_
    refine va_get (D := D) (ci := 1) (v := .ref (o + 18)) (C := "WideNumbersModel") (T := F_M) (N := 9) hx hb htw inM hown hK hO.1 0 rfl rfl 2 (by decide) (htw _ kw_278) (fun _ h9 => h9) rfl d_M_compare_82 ?_
    refine lv_aload_n hx hb d_M_compare_85 rfl (lv_at hl 0 rfl) ?_
    refine va_get (D := D) (ci := 1) (v := .ref (o + 19)) (C := "WideNumbersModel") (T := F_M) (N := 9) hx hb htw inM hown hK hO.1 0 rfl rfl 3 (by decide) (htw _ kw_279) (fun _ h9 => h9) rfl d_M_compare_86 ?_
    refine x_calli (A := MA o) (va_runS (As := [.ref (o + 18), .ref (o + 19)]) (rest := []) ⟨hx, hb, hml, hown, htw⟩ (m_less l D cJ cI cQ cR (o + 18) (o + 19) (w5) (w6) _ _ hl5 hl6 hN5 hN6) (xcS 2 htw kw_416 kw_2 kw_414 kw_415 rfl rfl ⟨by decide, by decide, by decide +kernel⟩ ⟨Nat.le_of_ble_eq_true rfl, Nat.le_of_ble_eq_true rfl⟩) (xPre hK ⟨h_18, h_19⟩) rfl rfl hl.1 rfl (lv_room (Nat.le_of_ble_eq_true rfl)) d_M_compare_89 ⟨Nat.le_of_ble_eq_true rfl, Nat.le_of_ble_eq_true rfl⟩) hlo (fun _ h => h.elim) (fun x5 H5 locs5 hB5 hlo => ?_)
    obtain ⟨rfl, rfl⟩ := hB5
    refine lv_if_eq (tgt := 99) hx hb d_M_compare_92 (by decide) (fun hc5 => ?_) (fun hc5 => ?_)
    · have hge : ¬ w5 < w6 := fun h => by
        rw [if_pos h] at hc5
        exact absurd hc5 (by decide)
      refine lv_aload_n hx hb d_M_compare_99 rfl (lv_at hl 0 rfl) ?_
      refine va_get (D := D) (ci := 1) (v := .ref (o + 19)) (C := "WideNumbersModel") (T := F_M) (N := 9) hx hb htw inM hown hK hO.1 0 rfl rfl 3 (by decide) (htw _ kw_279) (fun _ h9 => h9) rfl d_M_compare_100 ?_
      refine lv_aload_n hx hb d_M_compare_103 rfl (lv_at hl 0 rfl) ?_
      refine va_get (D := D) (ci := 1) (v := .ref (o + 18)) (C := "WideNumbersModel") (T := F_M) (N := 9) hx hb htw inM hown hK hO.1 0 rfl rfl 2 (by decide) (htw _ kw_278) (fun _ h9 => h9) rfl d_M_compare_104 ?_
      refine x_calli (A := MA o) (va_runS (As := [.ref (o + 19), .ref (o + 18)]) (rest := []) ⟨hx, hb, hml, hown, htw⟩ (m_less l D cJ cI cQ cR (o + 19) (o + 18) (w6) (w5) _ _ hl6 hl5 hN6 hN5) (xcS 2 htw kw_416 kw_2 kw_414 kw_415 rfl rfl ⟨by decide, by decide, by decide +kernel⟩ ⟨Nat.le_of_ble_eq_true rfl, Nat.le_of_ble_eq_true rfl⟩) (xPre hK ⟨h_19, h_18⟩) rfl rfl hl.1 rfl (lv_room (Nat.le_of_ble_eq_true rfl)) d_M_compare_107 ⟨Nat.le_of_ble_eq_true rfl, Nat.le_of_ble_eq_true rfl⟩) hlo (fun _ h => h.elim) (fun x6 H6 locs6 hB6 hlo => ?_)
      obtain ⟨rfl, rfl⟩ := hB6
      refine lv_if_eq (tgt := 117) hx hb d_M_compare_110 (by decide) (fun hc6 => ?_) (fun hc6 => ?_)
      · have hge2 : ¬ w6 < w5 := fun h => by
          rw [if_pos h] at hc6
          exact absurd hc6 (by decide)
        refine lv_iconst (v := nI 0) hx hb d_M_compare_117 (by decide) ?_
        exact W.iret hx hb hr (fun t ht hW => ⟨_, rfl, by rw [ht]; exact MAx hF1 hG, Or.inl ⟨ka, kb, hka, rfl, hkb, rfl, by rw [hcv]; unfold ordv; rw [if_neg hge, if_pos (by omega)]; rfl, by rw [ht]; exact ⟨hO, ⟨⟨_, h_18⟩, ⟨_, h_19⟩, ⟨_, h_20⟩, ⟨_, h_21, hN21⟩, ⟨_, h_22⟩, ⟨_, h_23⟩, ⟨_, h_24⟩⟩, hR.fS hG⟩⟩⟩) hlo d_M_compare_118
      · have hlt : w6 < w5 := Decidable.byContradiction (fun h => hc6 (by rw [if_neg h]))
        refine lv_iconst (v := nI 1) hx hb d_M_compare_113 (by decide) ?_
        refine lv_goto (tgt := 118) hx hb d_M_compare_114 (by decide) ?_
        exact W.iret hx hb hr (fun t ht hW => ⟨_, rfl, by rw [ht]; exact MAx hF1 hG, Or.inl ⟨ka, kb, hka, rfl, hkb, rfl, by rw [hcv]; unfold ordv; rw [if_neg hge, if_neg (by omega)]; rfl, by rw [ht]; exact ⟨hO, ⟨⟨_, h_18⟩, ⟨_, h_19⟩, ⟨_, h_20⟩, ⟨_, h_21, hN21⟩, ⟨_, h_22⟩, ⟨_, h_23⟩, ⟨_, h_24⟩⟩, hR.fS hG⟩⟩⟩) hlo d_M_compare_118
    · have hlt : w5 < w6 := Decidable.byContradiction (fun h => hc5 (by rw [if_neg h]))
      refine lv_iconst (v := -1) hx hb d_M_compare_95 (by decide) ?_
      refine lv_goto (tgt := 118) hx hb d_M_compare_96 (by decide) ?_
      exact W.iret hx hb hr (fun t ht hW => ⟨_, rfl, by rw [ht]; exact MAx hF1 hG, Or.inl ⟨ka, kb, hka, rfl, hkb, rfl, by rw [hcv]; unfold ordv; rw [if_pos hlt], by rw [ht]; exact ⟨hO, ⟨⟨_, h_18⟩, ⟨_, h_19⟩, ⟨_, h_20⟩, ⟨_, h_21, hN21⟩, ⟨_, h_22⟩, ⟨_, h_23⟩, ⟨_, h_24⟩⟩, hR.fS hG⟩⟩⟩) hlo d_M_compare_118
set_option maxHeartbeats 4000000 in
set_option maxRecDepth 100000 in
theorem m_bytes (l : Launch) (D : va_G) (cJ cI cQ cR : ClassId) (o : Nat) (fl : Int32) (V : Nat → Nat) (hV : ∀ r, r < 16 → V r < 2 ^ 256) (a : Int32) : Met l y_M_bytes w_M_bytes { frames := 1, cells := 0, slots := 0, locals := 21 } (xP D vwCl (TY cJ cI cQ cR) [.ref o, .int a] (fun H => MO D cI cR o fl V H)) (xQi (fun x H0 H => XF (MA o) H0 H ∧ ((∃ ka n : Nat, ka < 16 ∧ a = nI ka ∧ x = nI n ∧ byv (V ka) n ∧ n ≤ 32 ∧ MO D cI cR o (nI 0) (V) H) ∨ (¬ (vd a 16) ∧ MO D cI cR o (nI 1) V H)))) 0 0 (MA o) := by
  refine Met.ofW (cc := b_M_bytes) (maxL := 4) (ret := some .int) (by decide) rfl ?_
  intro p e s m args below meth c s₁ B hml hv
  obtain ⟨rfl, hK, ⟨hO, hSM, hR⟩⟩ := hv
  have hx := B.exec
  have hb := B.bytes
  have hr := B.returns
  have hts := atoms_spec (ws := w_M_bytes) B.pre
  have htw : ∀ w ∈ WT, w.before _ s = true := fun w h => hts w (List.mem_cons_of_mem _ h)
  have hown : s.vm.findClass "WideNumbersModel" = some m.cls := findClass_of_methodNamed B.named
  have hlocks := B.notSynchronized
  have hJ : ArrOfT s cJ .long := (hK.2 0 _ rfl).1
  have hI9 : ArrOfT s cI .int := (hK.2 1 _ rfl).1
  have hl := lv_entry ([.ref o, .int a]) (n := 4) (Nat.le_of_ble_eq_true rfl)
  rw [lg_entry_eq]
  generalize (lg_sl ([.ref o, .int a]) ++ List.replicate (4 - (lg_sl ([.ref o, .int a])).length) Slot.unset).toArray = ls at hl ⊢
  have hl : lv_has ls 4 [(0, .ref o), (1, .int a)] := hl
  have hR9 : ArrOfT s cR (.array .int) := (hK.2 3 _ rfl).1
  refine lv_aload_n hx hb d_M_bytes_0 rfl (lv_at hl 0 rfl) ?_
  refine lv_iconst (v := nI 0) hx hb d_M_bytes_1 (by decide) ?_
  refine x_fail hx hb htw hown hK hO (fun _ h => nomatch h) d_M_bytes_2 (fun H1 locs1 hO hF1 hlo => ?_)
  have hSM := hSM.f1 hF1 (by omega)
  have hR := hR.f0 hF1
  refine lv_aload_n hx hb d_M_bytes_5 rfl (lv_at hl 0 rfl) ?_
  refine lv_iload_n hx hb d_M_bytes_6 rfl (lv_at hl 1 rfl) ?_
  refine x_calli (A := fun q => q = o) (va_runV (As := [.int a]) (rest := []) ⟨hx, hb, hml, hown, htw⟩ (m_out l D cJ cI cQ cR o a) (xcV 1 htw kw_316 kw_2 kw_313 kw_315 ks_M_out rfl rfl ⟨by decide, by decide, by decide +kernel⟩ ⟨Nat.le_of_ble_eq_true rfl, Nat.le_of_ble_eq_true rfl⟩) (xPreV hK (hO.rv hK) trivial) rfl rfl hl.1 rfl (lv_room (Nat.le_of_ble_eq_true rfl)) d_M_bytes_7 ⟨Nat.le_of_ble_eq_true rfl, Nat.le_of_ble_eq_true rfl⟩) hlo (fun _ h => h.elim) (fun x9 H9 locs9 hB9 hlo => ?_)
  obtain ⟨rfl, hB9⟩ := hB9
  rcases hB9.symm with ⟨rfl, hinv⟩ | ⟨rfl, ka, hka, rfl⟩
  · refine x_topi (v := nI 1) (rfl) ?_
    refine lv_if_eq (tgt := 19) hx hb d_M_bytes_10 (by decide) (fun h => absurd h (by decide)) (fun _ => ?_)
    refine lv_aload_n hx hb d_M_bytes_13 rfl (lv_at hl 0 rfl) ?_
    refine lv_iconst (v := nI 1) hx hb d_M_bytes_14 (by decide) ?_
    refine x_calli (A := fun q => q = o) (va_runV (As := [.int (nI 1)]) (rest := []) ⟨hx, hb, hml, hown, htw⟩ (m_fail l D cJ cI cQ cR o (nI 0) (nI 1)) (xcV 1 htw kw_324 kw_2 kw_321 kw_323 ks_M_fail rfl rfl ⟨by decide, by decide, by decide +kernel⟩ ⟨Nat.le_of_ble_eq_true rfl, Nat.le_of_ble_eq_true rfl⟩) (xPreV hK (hO.rv hK) hO) rfl rfl hl.1 rfl (lv_room (Nat.le_of_ble_eq_true rfl)) d_M_bytes_15 ⟨Nat.le_of_ble_eq_true rfl, Nat.le_of_ble_eq_true rfl⟩) hlo (fun _ h => h) (fun x2 H2 locs2 hB2 hlo => ?_)
    obtain ⟨hF2, rfl, hO⟩ := hB2
    have hSM := hSM.f1 hF2 (by omega)
    have hR := hR.f0 hF2
    exact W.iret hx hb hr (fun t ht hW => ⟨_, rfl, by rw [ht]; exact MA0 (hF1.tr hF2 (fun _ h => h)), Or.inr ⟨hinv, by rw [ht]; exact ⟨hO, hSM, hR⟩⟩⟩) (MAlo hlo) d_M_bytes_18
  refine x_topi (v := nI 0) (rfl) ?_
  refine lv_if_eq (tgt := 19) hx hb d_M_bytes_10 (by decide) (fun _ => ?_) (fun h => absurd (by decide) h)
  have hl : lv_has ls 4 [(0, .ref o), (1, .int (nI ka))] := hl
  obtain ⟨fka, h_ka, hNka⟩ := hR ka hka
  have hvka := hV ka hka
  have hlo := MAlo hlo
  refine lv_iconst (v := nI 0) hx hb d_M_bytes_19 (by decide) ?_
  refine lv_istore_n hx hb d_M_bytes_20 rfl hl (by decide) rfl (fun ls hl => ?_)
  have hl : lv_has ls 4 [(2, .int (nI 0)), (0, .ref o), (1, .int (nI ka))] := hl
  refine lv_iconst (v := nI 0) hx hb d_M_bytes_21 (by decide) ?_
  refine lv_istore_n hx hb d_M_bytes_22 rfl hl (by decide) rfl (fun ls hl => ?_)
  have hl : lv_has ls 4 [(3, .int (nI 0)), (2, .int (nI 0)), (0, .ref o), (1, .int (nI ka))] := hl
  have hl : lv_has ls 4 [(3, .int (nI 0)), (2, .int (nI 0)), (0, .ref o), (1, .int (nI ka))] := lv_sub hl [0, 1, 2, 3] rfl
  obtain ⟨Hz, hHz⟩ : ∃ Hz, Hz = H9 := ⟨_, rfl⟩
  rw [← hHz] at hO hSM hR hF1 h_ka ⊢
  refine x_loop 23 (fun i H locs ls => ∃ n : Nat, lv_has ls 4 [(3, .int (nI i)), (2, .int (nI n)), (0, .ref o), (1, .int (nI ka))] ∧ (∀ q ∈ locs, MA o q.base) ∧ H = Hz ∧ byv (V ka % 2 ^ (8 * i)) n ∧ n ≤ i) 32 ?_ ?_ 0 _ _ _ (by omega) ?_
  · intro i H locs ls hi ⟨n, hl, hlo, hH, hby, hn⟩ ih
    refine lv_iload_n hx hb d_M_bytes_23 rfl (lv_at hl 0 rfl) ?_
    refine lv_bipush (v := nI 32) hx hb d_M_bytes_24 (by decide) ?_
    refine lv_icmp_ge (tgt := 63) hx hb d_M_bytes_26 (by decide) (fun hc => absurd hc (nI_ge (by omega) (by omega))) (fun _ => ?_)
    subst hH
    refine lv_aload_n hx hb d_M_bytes_29 rfl (lv_at hl 2 rfl) ?_
    refine va_get (D := D) (ci := 1) (v := .ref (o + 1)) (C := "WideNumbersModel") (T := F_M) (N := 9) hx hb htw inM hown hK hO.1 0 rfl rfl 1 (by decide) (htw _ kw_277) (fun _ h9 => h9) rfl d_M_bytes_30 ?_
    refine lv_iload_n hx hb d_M_bytes_33 rfl (lv_at hl 3 rfl) ?_
    refine x_aald hx hb rfl hR9 hO.2 ka rfl hka (by omega) (v := o + 2 + ka) (if_pos hka) d_M_bytes_34 ?_
    refine lv_iload_n hx hb d_M_bytes_35 rfl (lv_at hl 0 rfl) ?_
    refine lv_iconst (v := nI 4) hx hb d_M_bytes_36 (by decide) ?_
    refine lv_idiv hx hb d_M_bytes_37 (by decide) ?_
    refine x_topi (v := nI (i / 4)) (i_div4 _ hi) ?_
    refine x_iald hx hb hI9 h_ka (i / 4) (rfl) (by omega) (by omega) (v := nI (dg (V ka) (i / 4))) (hNka _ (by omega)) d_M_bytes_38 ?_
    have hdl := dg_lt (V ka) (i / 4)
    refine lv_bipush (v := nI 8) hx hb d_M_bytes_39 (by decide) ?_
    refine lv_iload_n hx hb d_M_bytes_41 rfl (lv_at hl 0 rfl) ?_
    refine lv_iconst (v := nI 4) hx hb d_M_bytes_42 (by decide) ?_
    refine lv_irem hx hb d_M_bytes_43 (by decide) ?_
    refine x_topi (v := nI (i % 4)) (i_rem4 _ hi) ?_
    refine lv_imul hx hb d_M_bytes_44 ?_
    refine x_topi (v := nI (8 * (i % 4))) (pk_mul _ _) ?_
    refine lv_iushr (v := nI (dg (V ka) (i / 4) / 2 ^ (8 * (i % 4)))) hx hb d_M_bytes_45 (iN_ushr hdl (by omega)) ?_
    have hdv : dg (V ka) (i / 4) / 2 ^ (8 * (i % 4)) < 4294967296 := Nat.lt_of_le_of_lt (Nat.div_le_self _ _) hdl
    refine lv_sipush (v := nI 255) hx hb d_M_bytes_46 (by decide) ?_
    refine lv_iand hx hb d_M_bytes_49 ?_
    refine x_topi (v := nI (V ka / 2 ^ (8 * i) % 256)) (by rw [iN_and255 hdv, by_4]) ?_
    refine lv_if_eq (tgt := 57) hx hb d_M_bytes_50 (by decide) (fun hc => ?_) (fun hc => ?_)
    · have hz : V ka / 2 ^ (8 * i) % 256 = 0 := (nI_eq (by omega) (by decide)).mp (hc.trans nI_0.symm)
      refine lv_iinc (v := nI (i + 1)) (k := 0) hx hb d_M_bytes_57 hl rfl (nI_1 i) (by decide) rfl (fun ls hl => ?_)
      have hl : lv_has ls 4 [(3, .int (nI (i + 1))), (2, .int (nI n)), (0, .ref o), (1, .int (nI ka))] := hl
      refine lv_goto (tgt := 23) hx hb d_M_bytes_60 (by decide) ?_
      have hl : lv_has ls 4 [(3, .int (nI (i + 1))), (2, .int (nI n)), (0, .ref o), (1, .int (nI ka))] := lv_sub hl [0, 1, 2, 3] rfl
      exact ih _ _ ls ⟨n, hl, hlo, rfl, by_0 hby hz, by omega⟩
    · have hz : V ka / 2 ^ (8 * i) % 256 ≠ 0 := fun h => hc (by rw [h]; rfl)
      refine lv_iload_n hx hb d_M_bytes_53 rfl (lv_at hl 0 rfl) ?_
      refine lv_iconst (v := nI 1) hx hb d_M_bytes_54 (by decide) ?_
      refine lv_iadd hx hb d_M_bytes_55 ?_
      refine x_topi (v := nI (i + 1)) (nI_1 i) ?_
      refine lv_istore_n hx hb d_M_bytes_56 rfl hl (by decide) rfl (fun ls hl => ?_)
      have hl : lv_has ls 4 [(2, .int (nI (i + 1))), (3, .int (nI i)), (0, .ref o), (1, .int (nI ka))] := hl
      refine lv_iinc (v := nI (i + 1)) (k := 1) hx hb d_M_bytes_57 hl rfl (nI_1 i) (by decide) rfl (fun ls hl => ?_)
      have hl : lv_has ls 4 [(3, .int (nI (i + 1))), (2, .int (nI (i + 1))), (0, .ref o), (1, .int (nI ka))] := hl
      refine lv_goto (tgt := 23) hx hb d_M_bytes_60 (by decide) ?_
      have hl : lv_has ls 4 [(3, .int (nI (i + 1))), (2, .int (nI (i + 1))), (0, .ref o), (1, .int (nI ka))] := lv_sub hl [0, 1, 2, 3] rfl
      exact ih _ _ ls ⟨i + 1, hl, hlo, rfl, by_1 hz, Nat.le_refl _⟩
  · intro H locs ls ⟨n, hl, hlo, hH, hby, hn⟩
    refine lv_iload_n hx hb d_M_bytes_23 rfl (lv_at hl 0 rfl) ?_
    refine lv_bipush (v := nI 32) hx hb d_M_bytes_24 (by decide) ?_
    refine lv_icmp_ge (tgt := 63) hx hb d_M_bytes_26 (by decide) (fun _ => ?_) (fun hc => absurd (nI_le (Nat.le_refl _) (by omega)) hc)
    subst hH
    rw [show 8 * 32 = 256 from rfl, Nat.mod_eq_of_lt hvka] at hby
    refine lv_iload_n hx hb d_M_bytes_63 rfl (lv_at hl 1 rfl) ?_
    exact W.iret hx hb hr (fun t ht hW => ⟨_, rfl, by rw [ht]; exact MA0 hF1, Or.inl ⟨ka, n, hka, rfl, rfl, hby, hn, by rw [ht]; exact ⟨hO, hSM, hR⟩⟩⟩) hlo d_M_bytes_64
  · exact ⟨0, hl, hlo, rfl, ⟨by simp [Nat.mod_one], Or.inl rfl⟩, Nat.le_refl 0⟩
