-- a throw's surroundings, calls that return or throw
abbrev IAE : String := "java/lang/IllegalArgumentException"
abbrev dS (X : String) : MethodName := ⟨X, "<init>", "(Ljava/lang/String;)V"⟩
def XB (U : State) : Prop := va_Nw (.castable IAE IAE) U ∧ va_Nw (.declares (dS "java/lang/RuntimeException")) U ∧ va_Nw (.declares (dS "java/lang/Exception")) U ∧ va_Nw (.declares (dS "java/lang/Throwable")) U
def XE (b0 sa : Nat) (U : State) : Prop := XB U ∧ vk_R "WideNumbers" 93 "a number out of range" sa U ∧ vx_Zq Bundle.tN "UNASSIGNED_STACK" Bundle.steD (fun q => b0 ≤ q) U U.heap ∧ vx_Zq Bundle.tN "SUPPRESSED_SENTINEL" Bundle.listD (fun q => b0 ≤ q) U U.heap
theorem XE.mv {b0 sa : Nat} {s U : State} (h : XE b0 sa s) (hW : s.WarmedH U.vm) (hk : ∀ q : Nat, q < s.heap.size → ¬ b0 ≤ q → U.heap[q]? = s.heap[q]?) : XE b0 sa U := ⟨⟨va_Nw.warmC hW h.1.1, va_Nw.warmD hW h.1.2.1, va_Nw.warmD hW h.1.2.2.1, va_Nw.warmD hW h.1.2.2.2⟩, vk_R.warm hW h.2.1, vx_Zq.moved hW.alike (h.2.2.1.kept hk), vx_Zq.moved hW.alike (h.2.2.2.kept hk)⟩
def xPX (D : va_G) (cl : List vw_C) (tys : List (ClassId × FieldType)) (b0 sa : Nat) (av : List Value) (B : Heap → Prop) : Array Value → State → Prop := fun v U => v = av.toArray ∧ va_K D cl tys U ∧ XE b0 sa U ∧ B U.heap
theorem xPX_blind {D : va_G} {cl : List vw_C} {tys : List (ClassId × FieldType)} {b0 sa : Nat} {av : List Value} {B : Heap → Prop} : FrameBlind (xPX D cl tys b0 sa av B) := fun a U g mk h => ⟨h.1, va_K.moved (u := U) (U := U.calling g mk a) (Vm.Alike.refl U.vm) h.2.1, XE.mv (U := U.calling g mk a) h.2.2.1 (State.WarmedH.refl U) (fun _ _ _ => rfl), h.2.2.2⟩
/-- behind a throw: of this kind alone, and how the heap is then -/
def xX (BX : Heap → Heap → Prop) : String → State → State → Prop := fun E st t => E = IAE ∧ BX st.heap t.heap
/-- a number in its range -/
def vd (n : Int32) (b : Nat) : Prop := ∃ k : Nat, k < b ∧ n = nI k
theorem atW : ∀ w ∈ (vx_atS "WideNumbers" 95 IAE ["java/lang/RuntimeException", "java/lang/Exception"]).filter goodWord, w ∈ WT := by decide +kernel
theorem atB : ∀ w ∈ (vx_atS "WideNumbers" 95 IAE ["java/lang/RuntimeException", "java/lang/Exception"]).filter (fun w => !goodWord w), w ∈ [Cond.castable IAE IAE, Cond.declares (dS "java/lang/RuntimeException"), Cond.declares (dS "java/lang/Exception"), Cond.declares (dS "java/lang/Throwable")] := by decide +kernel
theorem atG : ∀ w ∈ Cond.classLink "WideNumbers" 91 IAE :: Cond.initialized IAE :: vx_atS "WideNumbers" 95 IAE ["java/lang/RuntimeException", "java/lang/Exception"], vx_ot w = true := by decide +kernel
section XT
variable {p : Program} {l : Launch} {e : Env} {R : Room} {s : State} {m : MethodId} {args : Array Value} {below : List Frame} {meth : Method} {c : Code} {H : Heap} {locs : List Loc} {cells slots : Nat} {Q : State → Prop}
variable {cc : ByteArray} {pc : Nat} {ls : Array Slot} {rest : List Value} {A : Nat → Prop}
theorem xPreX {D : va_G} {cl : List vw_C} {tys : List (ClassId × FieldType)} {b0 sa : Nat} {As : List Value} {B : Heap → Prop} (hK : va_K D cl tys s) (hE : XE b0 sa s) (hk : ∀ q : Nat, q < s.heap.size → ¬ b0 ≤ q → H[q]? = s.heap[q]?) (hB : B H) : PreS s H (xPX D cl tys b0 sa As B) As := ⟨xPX_blind, fun U hU hW => ⟨rfl, va_K.moved hW.alike hK, hE.mv hW (by rw [hU]; exact hk), by rw [hU]; exact hB⟩⟩
theorem xPreXV {D : va_G} {cl : List vw_C} {tys : List (ClassId × FieldType)} {b0 sa : Nat} {As : List Value} {C : String} {b : Addr} {B : Heap → Prop} (hK : va_K D cl tys s) (hE : XE b0 sa s) (hk : ∀ q : Nat, q < s.heap.size → ¬ b0 ≤ q → H[q]? = s.heap[q]?) (hr : ∃ cellB : Cell, H[b]? = some cellB ∧ cellB.vm.isStatics = false ∧ s.vm.findClass C = some cellB.cls) (hB : B H) : PreV s H C b (xPX D cl tys b0 sa (.ref b :: As) B) As := ⟨xPX_blind, hr, fun U hU hW => ⟨rfl, va_K.moved hW.alike hK, hE.mv hW (by rw [hU]; exact hk), by rw [hU]; exact hB⟩⟩
theorem x_xcallv {st0 : List Value} {av : Array Value} {mc ms : Nat} {free : Addr → Prop} {B BX : Heap → Heap → Prop} (hr : vx_Run p l e R s m args below meth c H locs cells slots mc ms (F0 m pc ls st0) rest (xQv B av) (xX BX) free) (hlo : ∀ q ∈ locs, A q.base) (hf : ∀ q, free q → A q)
    (kx : ∀ (q9 : Addr) (ce : Cell) (H1 : Heap) (locs1 : List Loc), BX H H1 → (∀ q ∈ locs1, A q.base) → H1[q9]? = some ce → ce.vm = .none → s.vm.findClass IAE = some ce.cls → vx_W p l e R s m args below meth c H1 locs1 (cells + mc) (slots + ms) Q (F0 m pc ls rest) q9)
    (kk : ∀ (H1 : Heap) (locs1 : List Loc), B H H1 → (∀ q ∈ locs1, A q.base) → W p l e R s m args below meth c H1 locs1 (cells + mc) (slots + ms) Q (F0 m (pc + 3) ls rest)) : W p l e R s m args below meth c H locs cells slots Q (F0 m pc ls st0) := by
  intro T hT X
  rcases hr T hT X with ⟨v, st₀, t, T', L, h0, X', hL, e1, e2, ⟨hv, hb⟩, st⟩ | ⟨q, st₀, t, T', L, E, ce, h0, X', hL, e1, e2, ⟨hE, hb⟩, hc, hv, hcl, st⟩
  · cases hv
    rw [h0] at hb
    obtain ⟨t2, a1, b1⟩ := kk t.heap (locs ++ L) hb (x_lapp hlo hf hL) T' e1 X'
    exact ⟨t2, st t2 a1, b1⟩
  · subst hE
    rw [h0] at hb
    obtain ⟨t2, a1, b1⟩ := kx q ce t.heap (locs ++ L) hb (x_lapp hlo hf hL) hc hv hcl T' e1 X'
    exact ⟨t2, st.trans a1, b1⟩
theorem x_xcalli {st0 : List Value} {av : Array Value} {mc ms : Nat} {free : Addr → Prop} {B : Int32 → Heap → Heap → Prop} {BX : Heap → Heap → Prop} (hr : vx_Run p l e R s m args below meth c H locs cells slots mc ms (F0 m pc ls st0) rest (xQi B av) (xX BX) free) (hlo : ∀ q ∈ locs, A q.base) (hf : ∀ q, free q → A q)
    (kx : ∀ (q9 : Addr) (ce : Cell) (H1 : Heap) (locs1 : List Loc), BX H H1 → (∀ q ∈ locs1, A q.base) → H1[q9]? = some ce → ce.vm = .none → s.vm.findClass IAE = some ce.cls → vx_W p l e R s m args below meth c H1 locs1 (cells + mc) (slots + ms) Q (F0 m pc ls rest) q9)
    (kk : ∀ (r : Int32) (H1 : Heap) (locs1 : List Loc), B r H H1 → (∀ q ∈ locs1, A q.base) → W p l e R s m args below meth c H1 locs1 (cells + mc) (slots + ms) Q (F0 m (pc + 3) ls (.int r :: rest))) : W p l e R s m args below meth c H locs cells slots Q (F0 m pc ls st0) := by
  intro T hT X
  rcases hr T hT X with ⟨v, st₀, t, T', L, h0, X', hL, e1, e2, ⟨r, hv, hb⟩, st⟩ | ⟨q, st₀, t, T', L, E, ce, h0, X', hL, e1, e2, ⟨hE, hb⟩, hc, hv, hcl, st⟩
  · cases hv
    rw [h0] at hb
    obtain ⟨t2, a1, b1⟩ := kk r t.heap (locs ++ L) hb (x_lapp hlo hf hL) T' e1 X'
    exact ⟨t2, st t2 a1, b1⟩
  · subst hE
    rw [h0] at hb
    obtain ⟨t2, a1, b1⟩ := kx q ce t.heap (locs ++ L) hb (x_lapp hlo hf hL) hc hv hcl T' e1 X'
    exact ⟨t2, st.trans a1, b1⟩
theorem x_xcalll {st0 : List Value} {av : Array Value} {mc ms : Nat} {free : Addr → Prop} {B : Int64 → Heap → Heap → Prop} {BX : Heap → Heap → Prop} (hr : vx_Run p l e R s m args below meth c H locs cells slots mc ms (F0 m pc ls st0) rest (xQl B av) (xX BX) free) (hlo : ∀ q ∈ locs, A q.base) (hf : ∀ q, free q → A q)
    (kx : ∀ (q9 : Addr) (ce : Cell) (H1 : Heap) (locs1 : List Loc), BX H H1 → (∀ q ∈ locs1, A q.base) → H1[q9]? = some ce → ce.vm = .none → s.vm.findClass IAE = some ce.cls → vx_W p l e R s m args below meth c H1 locs1 (cells + mc) (slots + ms) Q (F0 m pc ls rest) q9)
    (kk : ∀ (r : Int64) (H1 : Heap) (locs1 : List Loc), B r H H1 → (∀ q ∈ locs1, A q.base) → W p l e R s m args below meth c H1 locs1 (cells + mc) (slots + ms) Q (F0 m (pc + 3) ls (.long r :: rest))) : W p l e R s m args below meth c H locs cells slots Q (F0 m pc ls st0) := by
  intro T hT X
  rcases hr T hT X with ⟨v, st₀, t, T', L, h0, X', hL, e1, e2, ⟨r, hv, hb⟩, st⟩ | ⟨q, st₀, t, T', L, E, ce, h0, X', hL, e1, e2, ⟨hE, hb⟩, hc, hv, hcl, st⟩
  · cases hv
    rw [h0] at hb
    obtain ⟨t2, a1, b1⟩ := kk r t.heap (locs ++ L) hb (x_lapp hlo hf hL) T' e1 X'
    exact ⟨t2, st t2 a1, b1⟩
  · subst hE
    rw [h0] at hb
    obtain ⟨t2, a1, b1⟩ := kx q ce t.heap (locs ++ L) hb (x_lapp hlo hf hL) hc hv hcl T' e1 X'
    exact ⟨t2, st.trans a1, b1⟩
end XT
set_option maxHeartbeats 4000000 in
set_option maxRecDepth 100000 in
theorem c_refuse (l : Launch) (D : va_G) (cJ cI cQ cR : ClassId) (b0 sa : Nat) (hst : l.stackTraces = false) (n : Int32) (b : Nat) (hb9 : b ≤ 16) : vx_Met l y_C_refuseOutside w_C_refuseOutside { frames := 7, cells := 1, slots := 6, locals := 110 } (xPX D vwCl (TY cJ cI cQ cR) b0 sa [.int n, .int (nI b)] (fun H => True)) (xQv (fun H0 H => H = H0 ∧ vd n b)) (xX (fun H0 H => ¬ vd n b ∧ XF (fun _ => False) H0 H)) 1 6 (fun _ => False) := by
  refine vx_ofW (cc := b_C_refuseOutside) (maxL := 2) (ret := none) (by decide) rfl ?_
  intro p e s m args below meth c s₁ B hml hno hv
  obtain ⟨rfl, hK, hE, hB⟩ := hv
  have hx := B.exec
  have hb := B.bytes
  have hr := B.returns
  have hts := atoms_spec (ws := w_C_refuseOutside) B.pre
  have htw : ∀ w ∈ WT, w.before _ s = true := fun w h => hts w (List.mem_cons_of_mem _ h)
  have hown : s.vm.findClass "WideNumbers" = some m.cls := findClass_of_methodNamed B.named
  have hlocks := B.notSynchronized
  have hJ : ArrOfT s cJ .long := (hK.2 0 _ rfl).1
  have hI9 : ArrOfT s cI .int := (hK.2 1 _ rfl).1
  have hQ9 : ArrOfT s cQ (.array .long) := (hK.2 2 _ rfl).1
  have hl := lv_entry ([.int n, .int (nI b)]) (n := 2) (Nat.le_of_ble_eq_true rfl)
  rw [lg_entry_eq]
  generalize (lg_sl ([.int n, .int (nI b)]) ++ List.replicate (2 - (lg_sl ([.int n, .int (nI b)])).length) Slot.unset).toArray = ls at hl ⊢
  have hl : lv_has ls 2 [(0, .int n), (1, .int (nI b))] := hl
  have hat : ∀ w ∈ vx_atS "WideNumbers" 95 IAE ["java/lang/RuntimeException", "java/lang/Exception"], w.before _ s = true := vx_hat (fun w h => htw w (atW w h)) atB (vx_c (va_Nw.use rfl hE.1.1) (vx_c (va_Nw.use rfl hE.1.2.1) (vx_c (va_Nw.use rfl hE.1.2.2.1) (vx_c (va_Nw.use rfl hE.1.2.2.2) vx_n))))
  refine lv_iload_n hx hb d_C_refuseOutside_0 rfl (lv_at hl 0 rfl) ?_
  refine lv_if_lt (tgt := 9) hx hb d_C_refuseOutside_1 (by decide) (fun hc => ?_) (fun hc => ?_)
  · exact vx_throwS (pc := 9) (A := fun q => b0 ≤ q) hx hb hst hown (by decide) (by decide) (htw _ kw_54) (htw _ kw_6) hE.2.1 hat atG hE.2.2.1 hE.2.2.2 va_S.rf (hl.1.trans hml.symm) d_C_refuseOutside_9 d_C_refuseOutside_12 d_C_refuseOutside_13 d_C_refuseOutside_15 d_C_refuseOutside_18 (fun x hx => (hno x hx).elim) (by decide) (by decide) (by decide) (by decide) hlocks (fun t _ hsz hk => ⟨rfl, fun h => by obtain ⟨k, hk, rfl⟩ := h; exact nI_pos (by omega) hc, hsz, fun q hq _ => hk q hq⟩) (fun _ h => nomatch h) (by decide) (by decide)
  · refine lv_iload_n hx hb d_C_refuseOutside_4 rfl (lv_at hl 0 rfl) ?_
    refine lv_iload_n hx hb d_C_refuseOutside_5 rfl (lv_at hl 1 rfl) ?_
    refine lv_icmp_lt (tgt := 19) hx hb d_C_refuseOutside_6 (by decide) (fun hc2 => ?_) (fun hc2 => ?_)
    · obtain ⟨k, hk, ek⟩ := nI_of hc
      refine W.widen (k := 1) (n := 6) (by decide) (by decide) ?_
      exact vx_ret (W.vret hx hb hr (fun t ht hW => ⟨rfl, ht, k, by subst ek; exact (nI_ltI hk (by omega)).mp hc2, ek⟩) (fun _ h => nomatch h) d_C_refuseOutside_19)
    · exact vx_throwS (pc := 9) (A := fun q => b0 ≤ q) hx hb hst hown (by decide) (by decide) (htw _ kw_54) (htw _ kw_6) hE.2.1 hat atG hE.2.2.1 hE.2.2.2 va_S.rf (hl.1.trans hml.symm) d_C_refuseOutside_9 d_C_refuseOutside_12 d_C_refuseOutside_13 d_C_refuseOutside_15 d_C_refuseOutside_18 (fun x hx => (hno x hx).elim) (by decide) (by decide) (by decide) (by decide) hlocks (fun t _ hsz hk => ⟨rfl, fun h => by obtain ⟨k, hk, rfl⟩ := h; exact hc2 (nI_lt hk (by omega)), hsz, fun q hq _ => hk q hq⟩) (fun _ h => nomatch h) (by decide) (by decide)
