-- rows of the constructors: arrays that come, final fields
def AO (U : State) : Prop := (Cond.arrayOver (.array .long)).before #[] U = true ∧ (Cond.arrayOver (.array .int)).before #[] U = true
theorem AO.mv {s U : State} (h : AO s) (hal : s.vm.Alike U.vm) : AO U := ⟨arrayOver_alikeB hal h.1, arrayOver_alikeB hal h.2⟩
theorem AO.l {args : Array Value} {s : State} (h : AO s) : (Cond.arrayOver (.array .long)).before args s = true := arrayOver_alikeB (Vm.Alike.refl s.vm) h.1
theorem AO.i {args : Array Value} {s : State} (h : AO s) : (Cond.arrayOver (.array .int)).before args s = true := arrayOver_alikeB (Vm.Alike.refl s.vm) h.2
def xPN (D : va_G) (cl : List vw_C) (tys : List (ClassId × FieldType)) (av : List Value) (B : Heap → Prop) : Array Value → State → Prop := fun v U => v = av.toArray ∧ va_K D cl tys U ∧ AO U ∧ B U.heap
theorem xPN_blind {D : va_G} {cl : List vw_C} {tys : List (ClassId × FieldType)} {av : List Value} {B : Heap → Prop} : FrameBlind (xPN D cl tys av B) := fun a U g mk h => ⟨h.1, va_K.moved (u := U) (U := U.calling g mk a) (Vm.Alike.refl U.vm) h.2.1, AO.mv (U := U.calling g mk a) h.2.2.1 (Vm.Alike.refl U.vm), h.2.2.2⟩
section XN
variable {p : Program} {l : Launch} {e : Env} {R : Room} {s : State} {m : MethodId} {args : Array Value} {below : List Frame} {meth : Method} {c : Code} {H : Heap} {locs : List Loc} {cells slots : Nat} {Q : State → Prop}
variable {cc : ByteArray} {pc : Nat} {ls : Array Slot} {rest : List Value}
theorem xPreN {D : va_G} {cl : List vw_C} {tys : List (ClassId × FieldType)} {As : List Value} {B : Heap → Prop} (hK : va_K D cl tys s) (hA : AO s) (hB : B H) : PreS s H (xPN D cl tys As B) As := ⟨xPN_blind, fun U hU hW => ⟨rfl, va_K.moved hW.alike hK, hA.mv hW.alike, by rw [hU]; exact hB⟩⟩
theorem xcI {own : String} {index maxL mc ms : Nat} {y : MethodName} {bytes : ByteArray} {ret : Option FieldType} {rm : Room} (n : Nat) (hts : ∀ w ∈ WT, w.before args s = true) (hc : Cond.code y bytes maxL ret ∈ WT) (hini : Cond.initialized y.cls ∈ WT) (hl : Cond.methodLink own index y ∈ WT) (hin : Cond.instanceMethod y ∈ WT) (hrc : rm.cells = mc) (hrs : rm.slots = ms) (hn : y.name = "<init>")
    (hd : y.cls ≠ "java/lang/invoke/MethodHandle" ∧ y.cls ≠ "java/lang/invoke/VarHandle" ∧ (parseMethodDescriptor y.desc).map (fun d => d.parameters.length) = some n) (hR : rm.frames + 1 ≤ R.frames ∧ 8 + (maxL + 11) + rm.locals ≤ R.locals) :
    CallB R s args own index y bytes maxL ret (Cond.code y bytes maxL ret :: WT) rm mc ms n ∧ y.name = "<init>" ∧ (Cond.instanceMethod y).before args s = true := ⟨callB_of n hts (gdL hc) rfl hrc hrs (hts _ hini) (hts _ hl) hd hR, hn, hts _ hin⟩
theorem xn_outer (c : ClassId) (N h0 : Nat) (i : Nat) : Jvm.Free.Multi.outerC c N h0 i = arrV c N (fun j => va_rf (if j < i then some (h0 + 1 + j) else none)) := by
  induction i with
  | zero =>
    show ({ cls := c, slots := Array.replicate N .null, vm := .none } : Cell) = _
    rw [arrV_new]
    exact congrArg (arrV c N) (funext fun j => by simp [va_rf])
  | succ i ih =>
    show (Jvm.Free.Multi.outerC c N h0 i).setSlot i (.ref (h0 + 1 + i)) = _
    rw [ih, arrV_store]
    refine congrArg (arrV c N) (funext fun j => ?_)
    by_cases e : j = i
    · subst e
      simp [updV, va_rf]
    · by_cases h : j < i
      · simp [updV, e, h, Nat.lt_succ_of_lt h]
      · simp [updV, e, h, show ¬ j < i + 1 by omega]
/-- sixteen rows of eight, and the array of them -/
theorem x_mna (hexec : p.tables.exec = Jvm.exec) (hb : c.code = cc) {own : String} {index : Nat} {ty : FieldType} {cA cy : ClassId} (hown : s.vm.findClass own = some m.cls) (hclink : (Cond.classLink own index ("[" ++ (FieldType.array ty).toString)).before args s = true) (hover : (Cond.arrayOver (.array ty)).before args s = true) (harr : (Cond.arrayClass ty).before args s = true) (hcA : s.vm.findClass ("[" ++ (FieldType.array ty).toString) = some cA) (hcy : s.vm.findClass (FieldType.array ty).toString = some cy)
    {z : vp_A} {o : Nat} (ho : H.size = o + 1) (hb2 : 8 * componentBytes ty ≤ 536870912) (hdf : fits ty (defaultValue ty) = true) (hdd : (defaultValue ty).isDefault = true) (hcells : cells + 17 ≤ R.cells) (hslots : slots + 144 ≤ R.slots) (hz : Jvm.Free.Multi.innerC cy 8 (defaultValue ty) = vp_cell cy z) (hdg : decode cc pc = .ok (.multianewarray index 2, 4))
    (kk : ∀ H1 : Heap, H1.size = o + 18 → XF (fun _ => False) H H1 → hQ H1 cA (o + 1) 16 (fun i => if i < 16 then some (o + 2 + i) else none) → (∀ j, j < 16 → H1[o + 2 + j]? = some (vp_cell cy z)) → W p l e R s m args below meth c H1 locs (cells + 17) (slots + 144) Q (F0 m (pc + 4) ls (.ref (o + 1) :: rest))) : W p l e R s m args below meth c H locs cells slots Q (F0 m pc ls (.int (nI 8) :: .int (nI 16) :: rest)) := by
  intro T hT Xs
  have e16 : (nI 16).toNatClampNeg = 16 := by decide
  have e8 : (nI 8).toNatClampNeg = 8 := by decide
  obtain ⟨vm₁, cA', comp, -, fA, fC, -, -, X', step⟩ := Xs.multianewarray2F hexec hown hclink hover harr (g := F0 m pc ls (.int (nI 8) :: .int (nI 16) :: rest)) rfl (by rw [hb]; exact hdg) rfl (by decide) (by decide) (by rw [e16]; decide) (by rw [e8]; exact hb2) (by rw [e8]; decide) hdf hdd (by rw [e16]; exact hcells) (by rw [e16, e8]; exact hslots)
  rw [e16, e8] at X' step
  cases hcy.symm.trans fC
  cases hcA.symm.trans fA
  generalize hF : Jvm.Free.Multi.fill (T.setVm vm₁) cA cy 16 8 (defaultValue ty) 16 = F at X' step
  have hTh : (T.setVm vm₁).heap = H := hT
  obtain ⟨f1, f2, -, -⟩ := Jvm.Free.Multi.fill_facts (T.setVm vm₁) cA cy 16 8 (defaultValue ty) 16
  rw [hF, hTh] at f1 f2
  rw [xn_outer, ho] at f2
  have hold : ∀ x : Nat, x < H.size → ¬ False → F.heap[x]? = H[x]? := fun x hx _ => by
    have := Jvm.Free.Multi.fill_old (T.setVm vm₁) cA cy 16 8 (defaultValue ty) (a := x) (by rw [hTh]; exact hx) 16
    rw [hF, hTh] at this
    exact this
  have hrow : ∀ j : Nat, j < 16 → F.heap[o + 2 + j]? = some (vp_cell cy z) := fun j hj => by
    have := Jvm.Free.Multi.fill_inner (T.setVm vm₁) cA cy 16 8 (defaultValue ty) 16 j hj
    rw [hF, hTh, hz, ho, show o + 1 + 1 + j = o + 2 + j by omega] at this
    exact this
  have hq : hQ F.heap cA (o + 1) 16 (fun i => if i < 16 then some (o + 2 + i) else none) := by
    show F.heap[o + 1]? = some (vp_cell _ _)
    rw [f2, vp_cell_q]
  obtain ⟨t, a1, b1⟩ := kk F.heap (by rw [f1, ho]) ⟨by rw [f1]; omega, hold⟩ hq hrow F rfl X'
  refine ⟨t, step t ?_, b1⟩
  rw [show T.heap.size = o + 1 by rw [hT, ho]]
  exact a1
theorem x_newr (hexec : p.tables.exec = Jvm.exec) (hb : c.code = cc) {atype : ArrayType} {cA : ClassId} (harr : (Cond.arrayClass (newarray.typeOf atype)).before args s = true) (hcA : s.vm.findClass ("[" ++ (newarray.typeOf atype).toString) = some cA) (n : Nat) {z : vp_A} (hn : ¬ nI n < 0) (hN : (nI n).toNatClampNeg = n) (hbytes : n * componentBytes (newarray.typeOf atype) ≤ 536870912) (hcells : cells + 1 ≤ R.cells) (hslots : slots + n ≤ R.slots) {h : Nat} (hh : H.size = h)
    (hz : arrV cA n (fun _ => defaultValue (newarray.typeOf atype)) = vp_cell cA z) (hdg : decode cc pc = .ok (.newarray atype, 2))
    (kk : ∀ H1 : Heap, H1[h]? = some (vp_cell cA z) → H1.size = h + 1 → XF (fun _ => False) H H1 → W p l e R s m args below meth c H1 locs (cells + 1) (slots + n) Q (F0 m (pc + 2) ls (.ref h :: rest))) : W p l e R s m args below meth c H locs cells slots Q (F0 m pc ls (.int (nI n) :: rest)) := by
  refine va_newaK hexec hb harr rfl hdg rfl hn hN hbytes hcells hslots hh fun H1 cB e1 z1 o1 _ hB => ?_
  cases hcA.symm.trans hB
  exact kk H1 (by rw [e1, hz]) z1 ⟨by omega, fun q hq _ => o1 q (by omega)⟩
theorem x_putF (hexec : p.tables.exec = Jvm.exec) (hb : c.code = cc) {own C : String} {T : u_T} {N ci index : Nat} (htw : ∀ w ∈ WT, w.before args s = true) (hin : ∀ w ∈ u_ws C T N, w ∈ WT) (ty0 : Nat → FieldType) (hty : ∀ k, k < N → parseFieldDescriptor (T k).2.2.1 = some (ty0 k)) (hnm : ∀ a, a < N → ∀ b, b < N → a ≠ b → (T a).2.1 ≠ (T b).2.1) (hown : s.vm.findClass own = some m.cls) {D : va_G} {tys : List (ClassId × FieldType)} (hK : va_K D vwCl tys s) {o : Nat} {fs : List Value} (hP : va_P D vwCl [(o, .inr (ci, fs))] H) (hc : vwCl[ci]? = some (C, T, N)) (k : Nat) (hk : k < N) (hlink : (Cond.fieldLink own index (T k).1 (T k).2.1 (T k).2.2.1).before args s = true) (hfin : (T k).2.2.2 = true) (hin2 : meth.name = "<init>") (hdecl : (T k).1 = own) {ty : FieldType} {v : Value} (hd : parseFieldDescriptor (T k).2.2.1 = some ty) (hn : narrow ty v = v) (hfit : fits ty v = true) (hl : k < fs.length) (hlo : ∀ q ∈ locs, q.base = o)
    (hdg : decode cc pc = .ok (.putfield index, 3)) (kk : ∀ (H1 : Heap) (locs1 : List Loc), va_P D vwCl [(o, .inr (ci, fs.set k v))] H1 → H1.size = H.size → XF (fun q => q = o) H H1 → (∀ q ∈ locs1, q.base = o) → W p l e R s m args below meth c H1 locs1 cells slots Q (F0 m (pc + 3) ls rest)) : W p l e R s m args below meth c H locs cells slots Q (F0 m pc ls (v :: .ref o :: rest)) := by
  have hap := va_apart (own := own) htw hin ty0 hty hnm hK hc
  obtain ⟨r, h1, cell, q1, q2, q3, q4⟩ := hP 0 _ rfl
  obtain rfl : r = (C, T, N) := Option.some.inj (h1.symm.trans hc)
  obtain ⟨hS, hfc, kC, hkC, hkind⟩ := hK.1 ci _ hc
  obtain ⟨cf, kf, fi, f, hi, hsl⟩ := hS k hk
  have hlay := htw _ (hin _ (u_in_lay hk))
  unfold u_lay at hlay
  rw [if_pos hfin] at hlay
  have hcf : m.cls = cf := by
    obtain ⟨_, _, c', _, _, _, -, -, hf', -, -, -, hown2, -⟩ := Cond.laysFinal_spec hlay
    have e1 : c' = cf := by have := hi.symm.trans hf'; simp at this; exact this.1.symm
    rw [hdecl] at hown2
    rw [← e1]; exact Option.some.inj (hown.symm.trans hown2)
  refine W.putFinK hexec hb hown hlink hi (u_facts hfc hkC (u_lays htw hin hk) hi).1 hcf hin2 (by rw [q2]; exact u_fits hfc hkC hkind (Or.inr hlay) hi hd hn hfit) q1 q3 (by rw [hsl]; exact k2_hasslot (q4 k hk)) rfl rfl hdg fun H' e1 e2 e3 => ?_
  rw [hsl] at e1 ⊢
  refine kk H' _ (fun j q hq => ?_) e2 ⟨Nat.le_of_eq e2.symm, fun q _ h => e3 q h⟩ (fun q hq => ?_)
  · match j, hq with
    | 0, hq => cases hq; exact ⟨_, hc, t_OB.to (V := updV (vp_V fs) k v) ⟨_, e1, q2, q3, t_set q4 hap hk v⟩ (fun j _ => vp_updV_set hl v j)⟩
    | j + 1, hq => cases hq
  · rcases List.mem_append.mp hq with h | h
    · exact hlo q h
    · rw [List.mem_singleton.mp h]
end XN
theorem NL_00 : NL (fun _ => 0) 8 0 := fun j _ => by rw [dg_0]; rfl
theorem NI_00 : NI (fun _ => 0) 8 0 := fun j _ => by rw [dg_0]; rfl
theorem XF.e {A : Nat → Prop} {H0 H H1 : Heap} (h : XF A H0 H) (hF : XF (fun _ => False) H H1) : XF A H0 H1 := h.tr hF (fun _ h => h.elim)
set_option maxHeartbeats 4000000 in
set_option maxRecDepth 100000 in
theorem c_init (l : Launch) (D : va_G) (cJ cI cQ cR : ClassId) (o : Nat) : Met l y_C_init w_C_init { frames := 1, cells := 23, slots := 208, locals := 12 } (xPN D vwCl (TY cJ cI cQ cR) [.ref o] (fun H => H.size = o + 1 ∧ va_P D vwCl [(o, .inr (0, [.null, .null, .null, .null, .null, .null, .null]))] H)) (xQv (fun H0 H => XF (fun q => q = o) H0 H ∧ H.size = o + 24 ∧ CO D cJ cQ o (fun _ => 0) H)) 23 208 (fun q => q = o) := by
  refine Met.ofW (cc := b_C_init) (maxL := 1) (ret := none) (by decide) rfl ?_
  intro p e s m args below meth c s₁ B hml hv
  obtain ⟨rfl, hK, hA, hsz, hP⟩ := hv
  have hx := B.exec
  have hb := B.bytes
  have hr := B.returns
  have hts := atoms_spec (ws := w_C_init) B.pre
  have htw : ∀ w ∈ WT, w.before _ s = true := fun w h => hts w (List.mem_cons_of_mem _ h)
  have hown : s.vm.findClass "WideNumbers" = some m.cls := findClass_of_methodNamed B.named
  have hlocks := B.notSynchronized
  have hJ : ArrOfT s cJ .long := (hK.2 0 _ rfl).1
  have hI9 : ArrOfT s cI .int := (hK.2 1 _ rfl).1
  have hl := lv_entry ([.ref o]) (n := 1) (Nat.le_of_ble_eq_true rfl)
  rw [lg_entry_eq]
  generalize (lg_sl ([.ref o]) ++ List.replicate (1 - (lg_sl ([.ref o])).length) Slot.unset).toArray = ls at hl ⊢
  have hl : lv_has ls 1 [(0, .ref o)] := hl
  have hin2 : meth.name = "<init>" := (name_of_methodNamed B.named B.method).1
  have hQ2 : s.vm.findClass ("[" ++ (FieldType.array .long).toString) = some cQ := (hK.2 2 _ rfl).2
  have hJ2 : s.vm.findClass ("[" ++ FieldType.long.toString) = some cJ := (hK.2 0 _ rfl).2
  have hlo : ∀ q ∈ ([] : List Loc), q.base = o := fun _ h => nomatch h
  have hG : XF (fun q => q = o) s.heap s.heap := XF.rf
  refine lv_aload_n hx hb d_C_init_0 rfl (lv_at hl 0 rfl) ?_
  refine W.objInit hx hb hown (htw _ kw_15) (htw _ kw_16) (htw _ kw_17) rfl (by rw [hml]; exact hl.1) rfl d_C_init_1 (Nat.le_of_ble_eq_true rfl) (Nat.le_of_ble_eq_true rfl) ?_
  refine W.eq (g2 := F0 m 4 ls []) rfl ?_
  refine lv_aload_n hx hb d_C_init_4 rfl (lv_at hl 0 rfl) ?_
  refine lv_bipush (v := nI 16) hx hb d_C_init_5 (by decide) ?_
  refine lv_bipush (v := nI 8) hx hb d_C_init_7 (by decide) ?_
  refine x_mna (z := (8, .inr (.inl fun _ => 0))) hx hb hown (htw _ kw_18) hA.l (htw _ kw_42) hQ2 hJ2 hsz (by decide) (by decide) (by decide) (Nat.le_of_ble_eq_true rfl) (Nat.le_of_ble_eq_true rfl) (arrV_new _ _ _) d_C_init_9 (fun H1 hsz hF1 h_out h_reg => ?_)
  have hP := hP.kept (fun k q hq => hF1.2 q.1 ((hP k q hq).lt) (fun h => h))
  have hG := hG.e hF1
  refine x_putF (ci := 0) (N := 7) hx hb htw inC t_C t_C_ok n_C hown hK hP rfl 0 (by decide) (htw _ kw_20) rfl hin2 rfl (t_C_ok 0 (by decide)) rfl rfl (Nat.le_of_ble_eq_true rfl) hlo d_C_init_13 (fun H2 locs2 hP hs2 hF2 hlo => ?_)
  have hsz := hs2.trans hsz
  have hG := hG.tr hF2 (fun _ h => h)
  have hP : va_P D vwCl [(o, .inr (0, [.ref (o + 1), .null, .null, .null, .null, .null, .null]))] H2 := hP
  have h_out := hQ_f h_out hF2 (show o + 1 ≠ o by omega)
  have h_reg : ∀ j, j < 16 → hL _ cJ (o + 2 + j) 8 (fun _ => 0) := fun j hj => hL_f (h_reg j hj) hF2 (show o + 2 + j ≠ o by omega)
  refine lv_aload_n hx hb d_C_init_16 rfl (lv_at hl 0 rfl) ?_
  refine lv_bipush (v := nI 8) hx hb d_C_init_17 (by decide) ?_
  refine x_newr (atype := .long) (z := (8, .inr (.inl fun _ => 0))) hx hb (htw _ kw_42) hJ2 8 (by decide) (by decide) (by decide) (Nat.le_of_ble_eq_true rfl) (Nat.le_of_ble_eq_true rfl) hsz rfl d_C_init_19 (fun H3 h_18 hsz hF3 => ?_)
  have h_18 : hL H3 cJ (o + 18) 8 (fun _ => 0) := h_18
  have hP := hP.kept (fun k q hq => hF3.2 q.1 ((hP k q hq).lt) (fun h => h))
  have hG := hG.e hF3
  have h_out := hQ_f h_out hF3 (fun h => h)
  have h_reg : ∀ j, j < 16 → hL _ cJ (o + 2 + j) 8 (fun _ => 0) := fun j hj => hL_f (h_reg j hj) hF3 (fun h => h)
  refine x_putF (ci := 0) (N := 7) hx hb htw inC t_C t_C_ok n_C hown hK hP rfl 1 (by decide) (htw _ kw_21) rfl hin2 rfl (t_C_ok 1 (by decide)) rfl rfl (Nat.le_of_ble_eq_true rfl) hlo d_C_init_21 (fun H4 locs4 hP hs4 hF4 hlo => ?_)
  have hsz := hs4.trans hsz
  have hG := hG.tr hF4 (fun _ h => h)
  have hP : va_P D vwCl [(o, .inr (0, [.ref (o + 1), .ref (o + 18), .null, .null, .null, .null, .null]))] H4 := hP
  have h_out := hQ_f h_out hF4 (show o + 1 ≠ o by omega)
  have h_reg : ∀ j, j < 16 → hL _ cJ (o + 2 + j) 8 (fun _ => 0) := fun j hj => hL_f (h_reg j hj) hF4 (show o + 2 + j ≠ o by omega)
  have h_18 := hL_f h_18 hF4 (show o + 18 ≠ o by omega)
  refine lv_aload_n hx hb d_C_init_24 rfl (lv_at hl 0 rfl) ?_
  refine lv_bipush (v := nI 8) hx hb d_C_init_25 (by decide) ?_
  refine x_newr (atype := .long) (z := (8, .inr (.inl fun _ => 0))) hx hb (htw _ kw_42) hJ2 8 (by decide) (by decide) (by decide) (Nat.le_of_ble_eq_true rfl) (Nat.le_of_ble_eq_true rfl) hsz rfl d_C_init_27 (fun H5 h_19 hsz hF5 => ?_)
  have h_19 : hL H5 cJ (o + 19) 8 (fun _ => 0) := h_19
  have hP := hP.kept (fun k q hq => hF5.2 q.1 ((hP k q hq).lt) (fun h => h))
  have hG := hG.e hF5
  have h_out := hQ_f h_out hF5 (fun h => h)
  have h_reg : ∀ j, j < 16 → hL _ cJ (o + 2 + j) 8 (fun _ => 0) := fun j hj => hL_f (h_reg j hj) hF5 (fun h => h)
  have h_18 := hL_f h_18 hF5 (fun h => h)
  refine x_putF (ci := 0) (N := 7) hx hb htw inC t_C t_C_ok n_C hown hK hP rfl 2 (by decide) (htw _ kw_22) rfl hin2 rfl (t_C_ok 2 (by decide)) rfl rfl (Nat.le_of_ble_eq_true rfl) hlo d_C_init_29 (fun H6 locs6 hP hs6 hF6 hlo => ?_)
  have hsz := hs6.trans hsz
  have hG := hG.tr hF6 (fun _ h => h)
  have hP : va_P D vwCl [(o, .inr (0, [.ref (o + 1), .ref (o + 18), .ref (o + 19), .null, .null, .null, .null]))] H6 := hP
  have h_out := hQ_f h_out hF6 (show o + 1 ≠ o by omega)
  have h_reg : ∀ j, j < 16 → hL _ cJ (o + 2 + j) 8 (fun _ => 0) := fun j hj => hL_f (h_reg j hj) hF6 (show o + 2 + j ≠ o by omega)
  have h_18 := hL_f h_18 hF6 (show o + 18 ≠ o by omega)
  have h_19 := hL_f h_19 hF6 (show o + 19 ≠ o by omega)
  refine lv_aload_n hx hb d_C_init_32 rfl (lv_at hl 0 rfl) ?_
  refine lv_bipush (v := nI 8) hx hb d_C_init_33 (by decide) ?_
  refine x_newr (atype := .long) (z := (8, .inr (.inl fun _ => 0))) hx hb (htw _ kw_42) hJ2 8 (by decide) (by decide) (by decide) (Nat.le_of_ble_eq_true rfl) (Nat.le_of_ble_eq_true rfl) hsz rfl d_C_init_35 (fun H7 h_20 hsz hF7 => ?_)
  have h_20 : hL H7 cJ (o + 20) 8 (fun _ => 0) := h_20
  have hP := hP.kept (fun k q hq => hF7.2 q.1 ((hP k q hq).lt) (fun h => h))
  have hG := hG.e hF7
  have h_out := hQ_f h_out hF7 (fun h => h)
  have h_reg : ∀ j, j < 16 → hL _ cJ (o + 2 + j) 8 (fun _ => 0) := fun j hj => hL_f (h_reg j hj) hF7 (fun h => h)
  have h_18 := hL_f h_18 hF7 (fun h => h)
  have h_19 := hL_f h_19 hF7 (fun h => h)
  refine x_putF (ci := 0) (N := 7) hx hb htw inC t_C t_C_ok n_C hown hK hP rfl 3 (by decide) (htw _ kw_23) rfl hin2 rfl (t_C_ok 3 (by decide)) rfl rfl (Nat.le_of_ble_eq_true rfl) hlo d_C_init_37 (fun H8 locs8 hP hs8 hF8 hlo => ?_)
  have hsz := hs8.trans hsz
  have hG := hG.tr hF8 (fun _ h => h)
  have hP : va_P D vwCl [(o, .inr (0, [.ref (o + 1), .ref (o + 18), .ref (o + 19), .ref (o + 20), .null, .null, .null]))] H8 := hP
  have h_out := hQ_f h_out hF8 (show o + 1 ≠ o by omega)
  have h_reg : ∀ j, j < 16 → hL _ cJ (o + 2 + j) 8 (fun _ => 0) := fun j hj => hL_f (h_reg j hj) hF8 (show o + 2 + j ≠ o by omega)
  have h_18 := hL_f h_18 hF8 (show o + 18 ≠ o by omega)
  have h_19 := hL_f h_19 hF8 (show o + 19 ≠ o by omega)
  have h_20 := hL_f h_20 hF8 (show o + 20 ≠ o by omega)
  refine lv_aload_n hx hb d_C_init_40 rfl (lv_at hl 0 rfl) ?_
  refine lv_bipush (v := nI 16) hx hb d_C_init_41 (by decide) ?_
  refine x_newr (atype := .long) (z := (16, .inr (.inl fun _ => 0))) hx hb (htw _ kw_42) hJ2 16 (by decide) (by decide) (by decide) (Nat.le_of_ble_eq_true rfl) (Nat.le_of_ble_eq_true rfl) hsz rfl d_C_init_43 (fun H9 h_21 hsz hF9 => ?_)
  have h_21 : hL H9 cJ (o + 21) 16 (fun _ => 0) := h_21
  have hP := hP.kept (fun k q hq => hF9.2 q.1 ((hP k q hq).lt) (fun h => h))
  have hG := hG.e hF9
  have h_out := hQ_f h_out hF9 (fun h => h)
  have h_reg : ∀ j, j < 16 → hL _ cJ (o + 2 + j) 8 (fun _ => 0) := fun j hj => hL_f (h_reg j hj) hF9 (fun h => h)
  have h_18 := hL_f h_18 hF9 (fun h => h)
  have h_19 := hL_f h_19 hF9 (fun h => h)
  have h_20 := hL_f h_20 hF9 (fun h => h)
  refine x_putF (ci := 0) (N := 7) hx hb htw inC t_C t_C_ok n_C hown hK hP rfl 4 (by decide) (htw _ kw_24) rfl hin2 rfl (t_C_ok 4 (by decide)) rfl rfl (Nat.le_of_ble_eq_true rfl) hlo d_C_init_45 (fun H10 locs10 hP hs10 hF10 hlo => ?_)
  have hsz := hs10.trans hsz
  have hG := hG.tr hF10 (fun _ h => h)
  have hP : va_P D vwCl [(o, .inr (0, [.ref (o + 1), .ref (o + 18), .ref (o + 19), .ref (o + 20), .ref (o + 21), .null, .null]))] H10 := hP
  have h_out := hQ_f h_out hF10 (show o + 1 ≠ o by omega)
  have h_reg : ∀ j, j < 16 → hL _ cJ (o + 2 + j) 8 (fun _ => 0) := fun j hj => hL_f (h_reg j hj) hF10 (show o + 2 + j ≠ o by omega)
  have h_18 := hL_f h_18 hF10 (show o + 18 ≠ o by omega)
  have h_19 := hL_f h_19 hF10 (show o + 19 ≠ o by omega)
  have h_20 := hL_f h_20 hF10 (show o + 20 ≠ o by omega)
  have h_21 := hL_f h_21 hF10 (show o + 21 ≠ o by omega)
  refine lv_aload_n hx hb d_C_init_48 rfl (lv_at hl 0 rfl) ?_
  refine lv_bipush (v := nI 16) hx hb d_C_init_49 (by decide) ?_
  refine x_newr (atype := .long) (z := (16, .inr (.inl fun _ => 0))) hx hb (htw _ kw_42) hJ2 16 (by decide) (by decide) (by decide) (Nat.le_of_ble_eq_true rfl) (Nat.le_of_ble_eq_true rfl) hsz rfl d_C_init_51 (fun H11 h_22 hsz hF11 => ?_)
  have h_22 : hL H11 cJ (o + 22) 16 (fun _ => 0) := h_22
  have hP := hP.kept (fun k q hq => hF11.2 q.1 ((hP k q hq).lt) (fun h => h))
  have hG := hG.e hF11
  have h_out := hQ_f h_out hF11 (fun h => h)
  have h_reg : ∀ j, j < 16 → hL _ cJ (o + 2 + j) 8 (fun _ => 0) := fun j hj => hL_f (h_reg j hj) hF11 (fun h => h)
  have h_18 := hL_f h_18 hF11 (fun h => h)
  have h_19 := hL_f h_19 hF11 (fun h => h)
  have h_20 := hL_f h_20 hF11 (fun h => h)
  have h_21 := hL_f h_21 hF11 (fun h => h)
  refine x_putF (ci := 0) (N := 7) hx hb htw inC t_C t_C_ok n_C hown hK hP rfl 5 (by decide) (htw _ kw_25) rfl hin2 rfl (t_C_ok 5 (by decide)) rfl rfl (Nat.le_of_ble_eq_true rfl) hlo d_C_init_53 (fun H12 locs12 hP hs12 hF12 hlo => ?_)
  have hsz := hs12.trans hsz
  have hG := hG.tr hF12 (fun _ h => h)
  have hP : va_P D vwCl [(o, .inr (0, [.ref (o + 1), .ref (o + 18), .ref (o + 19), .ref (o + 20), .ref (o + 21), .ref (o + 22), .null]))] H12 := hP
  have h_out := hQ_f h_out hF12 (show o + 1 ≠ o by omega)
  have h_reg : ∀ j, j < 16 → hL _ cJ (o + 2 + j) 8 (fun _ => 0) := fun j hj => hL_f (h_reg j hj) hF12 (show o + 2 + j ≠ o by omega)
  have h_18 := hL_f h_18 hF12 (show o + 18 ≠ o by omega)
  have h_19 := hL_f h_19 hF12 (show o + 19 ≠ o by omega)
  have h_20 := hL_f h_20 hF12 (show o + 20 ≠ o by omega)
  have h_21 := hL_f h_21 hF12 (show o + 21 ≠ o by omega)
  have h_22 := hL_f h_22 hF12 (show o + 22 ≠ o by omega)
  refine lv_aload_n hx hb d_C_init_56 rfl (lv_at hl 0 rfl) ?_
  refine lv_bipush (v := nI 8) hx hb d_C_init_57 (by decide) ?_
  refine x_newr (atype := .long) (z := (8, .inr (.inl fun _ => 0))) hx hb (htw _ kw_42) hJ2 8 (by decide) (by decide) (by decide) (Nat.le_of_ble_eq_true rfl) (Nat.le_of_ble_eq_true rfl) hsz rfl d_C_init_59 (fun H13 h_23 hsz hF13 => ?_)
  have h_23 : hL H13 cJ (o + 23) 8 (fun _ => 0) := h_23
  have hP := hP.kept (fun k q hq => hF13.2 q.1 ((hP k q hq).lt) (fun h => h))
  have hG := hG.e hF13
  have h_out := hQ_f h_out hF13 (fun h => h)
  have h_reg : ∀ j, j < 16 → hL _ cJ (o + 2 + j) 8 (fun _ => 0) := fun j hj => hL_f (h_reg j hj) hF13 (fun h => h)
  have h_18 := hL_f h_18 hF13 (fun h => h)
  have h_19 := hL_f h_19 hF13 (fun h => h)
  have h_20 := hL_f h_20 hF13 (fun h => h)
  have h_21 := hL_f h_21 hF13 (fun h => h)
  have h_22 := hL_f h_22 hF13 (fun h => h)
  refine x_putF (ci := 0) (N := 7) hx hb htw inC t_C t_C_ok n_C hown hK hP rfl 6 (by decide) (htw _ kw_26) rfl hin2 rfl (t_C_ok 6 (by decide)) rfl rfl (Nat.le_of_ble_eq_true rfl) hlo d_C_init_61 (fun H14 locs14 hP hs14 hF14 hlo => ?_)
  have hsz := hs14.trans hsz
  have hG := hG.tr hF14 (fun _ h => h)
  have hP : va_P D vwCl [(o, .inr (0, [.ref (o + 1), .ref (o + 18), .ref (o + 19), .ref (o + 20), .ref (o + 21), .ref (o + 22), .ref (o + 23)]))] H14 := hP
  have h_out := hQ_f h_out hF14 (show o + 1 ≠ o by omega)
  have h_reg : ∀ j, j < 16 → hL _ cJ (o + 2 + j) 8 (fun _ => 0) := fun j hj => hL_f (h_reg j hj) hF14 (show o + 2 + j ≠ o by omega)
  have h_18 := hL_f h_18 hF14 (show o + 18 ≠ o by omega)
  have h_19 := hL_f h_19 hF14 (show o + 19 ≠ o by omega)
  have h_20 := hL_f h_20 hF14 (show o + 20 ≠ o by omega)
  have h_21 := hL_f h_21 hF14 (show o + 21 ≠ o by omega)
  have h_22 := hL_f h_22 hF14 (show o + 22 ≠ o by omega)
  have h_23 := hL_f h_23 hF14 (show o + 23 ≠ o by omega)
  refine W.widen (k := 23) (n := 208) (by decide) (by decide) ?_
  exact W.vret hx hb hr (fun t ht hW => ⟨rfl, by rw [ht]; exact hG, by rw [ht]; exact hsz, by rw [ht]; exact ⟨⟨hP, h_out⟩, ⟨⟨_, h_18⟩, ⟨_, h_19⟩, ⟨_, h_20⟩, ⟨_, h_21⟩, ⟨_, h_22⟩, ⟨_, h_23⟩⟩, fun r hr => ⟨_, h_reg r hr, NL_00⟩⟩⟩) hlo d_C_init_64
set_option maxHeartbeats 4000000 in
set_option maxRecDepth 100000 in
theorem m_init (l : Launch) (D : va_G) (cJ cI cQ cR : ClassId) (o : Nat) : Met l y_M_init w_M_init { frames := 1, cells := 24, slots := 218, locals := 12 } (xPN D vwCl (TY cJ cI cQ cR) [.ref o] (fun H => H.size = o + 1 ∧ va_P D vwCl [(o, .inr (1, [.int (nI 0), .null, .null, .null, .null, .null, .null, .null, .null]))] H)) (xQv (fun H0 H => XF (fun q => q = o) H0 H ∧ H.size = o + 25 ∧ MO D cI cR o (nI 0) (fun _ => 0) H)) 24 218 (fun q => q = o) := by
  refine Met.ofW (cc := b_M_init) (maxL := 1) (ret := none) (by decide) rfl ?_
  intro p e s m args below meth c s₁ B hml hv
  obtain ⟨rfl, hK, hA, hsz, hP⟩ := hv
  have hx := B.exec
  have hb := B.bytes
  have hr := B.returns
  have hts := atoms_spec (ws := w_M_init) B.pre
  have htw : ∀ w ∈ WT, w.before _ s = true := fun w h => hts w (List.mem_cons_of_mem _ h)
  have hown : s.vm.findClass "WideNumbersModel" = some m.cls := findClass_of_methodNamed B.named
  have hlocks := B.notSynchronized
  have hJ : ArrOfT s cJ .long := (hK.2 0 _ rfl).1
  have hI9 : ArrOfT s cI .int := (hK.2 1 _ rfl).1
  have hl := lv_entry ([.ref o]) (n := 1) (Nat.le_of_ble_eq_true rfl)
  rw [lg_entry_eq]
  generalize (lg_sl ([.ref o]) ++ List.replicate (1 - (lg_sl ([.ref o])).length) Slot.unset).toArray = ls at hl ⊢
  have hl : lv_has ls 1 [(0, .ref o)] := hl
  have hin2 : meth.name = "<init>" := (name_of_methodNamed B.named B.method).1
  have hQ2 : s.vm.findClass ("[" ++ (FieldType.array .int).toString) = some cR := (hK.2 3 _ rfl).2
  have hJ2 : s.vm.findClass ("[" ++ FieldType.int.toString) = some cI := (hK.2 1 _ rfl).2
  have hlo : ∀ q ∈ ([] : List Loc), q.base = o := fun _ h => nomatch h
  have hG : XF (fun q => q = o) s.heap s.heap := XF.rf
  refine lv_aload_n hx hb d_M_init_0 rfl (lv_at hl 0 rfl) ?_
  refine W.objInit hx hb hown (htw _ kw_273) (htw _ kw_16) (htw _ kw_17) rfl (by rw [hml]; exact hl.1) rfl d_M_init_1 (Nat.le_of_ble_eq_true rfl) (Nat.le_of_ble_eq_true rfl) ?_
  refine W.eq (g2 := F0 m 4 ls []) rfl ?_
  refine lv_aload_n hx hb d_M_init_4 rfl (lv_at hl 0 rfl) ?_
  refine lv_bipush (v := nI 16) hx hb d_M_init_5 (by decide) ?_
  refine lv_bipush (v := nI 8) hx hb d_M_init_7 (by decide) ?_
  refine x_mna (z := (8, .inl fun _ => 0)) hx hb hown (htw _ kw_274) hA.i (htw _ kw_304) hQ2 hJ2 hsz (by decide) (by decide) (by decide) (Nat.le_of_ble_eq_true rfl) (Nat.le_of_ble_eq_true rfl) (arrV_new _ _ _) d_M_init_9 (fun H1 hsz hF1 h_out h_reg => ?_)
  have hP := hP.kept (fun k q hq => hF1.2 q.1 ((hP k q hq).lt) (fun h => h))
  have hG := hG.e hF1
  refine x_putF (ci := 1) (N := 9) hx hb htw inM t_M t_M_ok n_M hown hK hP rfl 1 (by decide) (htw _ kw_277) rfl hin2 rfl (t_M_ok 1 (by decide)) rfl rfl (Nat.le_of_ble_eq_true rfl) hlo d_M_init_13 (fun H2 locs2 hP hs2 hF2 hlo => ?_)
  have hsz := hs2.trans hsz
  have hG := hG.tr hF2 (fun _ h => h)
  have hP : va_P D vwCl [(o, .inr (1, [.int (nI 0), .ref (o + 1), .null, .null, .null, .null, .null, .null, .null]))] H2 := hP
  have h_out := hQ_f h_out hF2 (show o + 1 ≠ o by omega)
  have h_reg : ∀ j, j < 16 → hI _ cI (o + 2 + j) 8 (fun _ => 0) := fun j hj => hI_f (h_reg j hj) hF2 (show o + 2 + j ≠ o by omega)
  refine lv_aload_n hx hb d_M_init_16 rfl (lv_at hl 0 rfl) ?_
  refine lv_bipush (v := nI 8) hx hb d_M_init_17 (by decide) ?_
  refine x_newr (atype := .int) (z := (8, .inl fun _ => 0)) hx hb (htw _ kw_304) hJ2 8 (by decide) (by decide) (by decide) (Nat.le_of_ble_eq_true rfl) (Nat.le_of_ble_eq_true rfl) hsz rfl d_M_init_19 (fun H3 h_18 hsz hF3 => ?_)
  have h_18 : hI H3 cI (o + 18) 8 (fun _ => 0) := h_18
  have hP := hP.kept (fun k q hq => hF3.2 q.1 ((hP k q hq).lt) (fun h => h))
  have hG := hG.e hF3
  have h_out := hQ_f h_out hF3 (fun h => h)
  have h_reg : ∀ j, j < 16 → hI _ cI (o + 2 + j) 8 (fun _ => 0) := fun j hj => hI_f (h_reg j hj) hF3 (fun h => h)
  refine x_putF (ci := 1) (N := 9) hx hb htw inM t_M t_M_ok n_M hown hK hP rfl 2 (by decide) (htw _ kw_278) rfl hin2 rfl (t_M_ok 2 (by decide)) rfl rfl (Nat.le_of_ble_eq_true rfl) hlo d_M_init_21 (fun H4 locs4 hP hs4 hF4 hlo => ?_)
  have hsz := hs4.trans hsz
  have hG := hG.tr hF4 (fun _ h => h)
  have hP : va_P D vwCl [(o, .inr (1, [.int (nI 0), .ref (o + 1), .ref (o + 18), .null, .null, .null, .null, .null, .null]))] H4 := hP
  have h_out := hQ_f h_out hF4 (show o + 1 ≠ o by omega)
  have h_reg : ∀ j, j < 16 → hI _ cI (o + 2 + j) 8 (fun _ => 0) := fun j hj => hI_f (h_reg j hj) hF4 (show o + 2 + j ≠ o by omega)
  have h_18 := hI_f h_18 hF4 (show o + 18 ≠ o by omega)
  refine lv_aload_n hx hb d_M_init_24 rfl (lv_at hl 0 rfl) ?_
  refine lv_bipush (v := nI 8) hx hb d_M_init_25 (by decide) ?_
  refine x_newr (atype := .int) (z := (8, .inl fun _ => 0)) hx hb (htw _ kw_304) hJ2 8 (by decide) (by decide) (by decide) (Nat.le_of_ble_eq_true rfl) (Nat.le_of_ble_eq_true rfl) hsz rfl d_M_init_27 (fun H5 h_19 hsz hF5 => ?_)
  have h_19 : hI H5 cI (o + 19) 8 (fun _ => 0) := h_19
  have hP := hP.kept (fun k q hq => hF5.2 q.1 ((hP k q hq).lt) (fun h => h))
  have hG := hG.e hF5
  have h_out := hQ_f h_out hF5 (fun h => h)
  have h_reg : ∀ j, j < 16 → hI _ cI (o + 2 + j) 8 (fun _ => 0) := fun j hj => hI_f (h_reg j hj) hF5 (fun h => h)
  have h_18 := hI_f h_18 hF5 (fun h => h)
  refine x_putF (ci := 1) (N := 9) hx hb htw inM t_M t_M_ok n_M hown hK hP rfl 3 (by decide) (htw _ kw_279) rfl hin2 rfl (t_M_ok 3 (by decide)) rfl rfl (Nat.le_of_ble_eq_true rfl) hlo d_M_init_29 (fun H6 locs6 hP hs6 hF6 hlo => ?_)
  have hsz := hs6.trans hsz
  have hG := hG.tr hF6 (fun _ h => h)
  have hP : va_P D vwCl [(o, .inr (1, [.int (nI 0), .ref (o + 1), .ref (o + 18), .ref (o + 19), .null, .null, .null, .null, .null]))] H6 := hP
  have h_out := hQ_f h_out hF6 (show o + 1 ≠ o by omega)
  have h_reg : ∀ j, j < 16 → hI _ cI (o + 2 + j) 8 (fun _ => 0) := fun j hj => hI_f (h_reg j hj) hF6 (show o + 2 + j ≠ o by omega)
  have h_18 := hI_f h_18 hF6 (show o + 18 ≠ o by omega)
  have h_19 := hI_f h_19 hF6 (show o + 19 ≠ o by omega)
  refine lv_aload_n hx hb d_M_init_32 rfl (lv_at hl 0 rfl) ?_
  refine lv_bipush (v := nI 8) hx hb d_M_init_33 (by decide) ?_
  refine x_newr (atype := .int) (z := (8, .inl fun _ => 0)) hx hb (htw _ kw_304) hJ2 8 (by decide) (by decide) (by decide) (Nat.le_of_ble_eq_true rfl) (Nat.le_of_ble_eq_true rfl) hsz rfl d_M_init_35 (fun H7 h_20 hsz hF7 => ?_)
  have h_20 : hI H7 cI (o + 20) 8 (fun _ => 0) := h_20
  have hP := hP.kept (fun k q hq => hF7.2 q.1 ((hP k q hq).lt) (fun h => h))
  have hG := hG.e hF7
  have h_out := hQ_f h_out hF7 (fun h => h)
  have h_reg : ∀ j, j < 16 → hI _ cI (o + 2 + j) 8 (fun _ => 0) := fun j hj => hI_f (h_reg j hj) hF7 (fun h => h)
  have h_18 := hI_f h_18 hF7 (fun h => h)
  have h_19 := hI_f h_19 hF7 (fun h => h)
  refine x_putF (ci := 1) (N := 9) hx hb htw inM t_M t_M_ok n_M hown hK hP rfl 4 (by decide) (htw _ kw_280) rfl hin2 rfl (t_M_ok 4 (by decide)) rfl rfl (Nat.le_of_ble_eq_true rfl) hlo d_M_init_37 (fun H8 locs8 hP hs8 hF8 hlo => ?_)
  have hsz := hs8.trans hsz
  have hG := hG.tr hF8 (fun _ h => h)
  have hP : va_P D vwCl [(o, .inr (1, [.int (nI 0), .ref (o + 1), .ref (o + 18), .ref (o + 19), .ref (o + 20), .null, .null, .null, .null]))] H8 := hP
  have h_out := hQ_f h_out hF8 (show o + 1 ≠ o by omega)
  have h_reg : ∀ j, j < 16 → hI _ cI (o + 2 + j) 8 (fun _ => 0) := fun j hj => hI_f (h_reg j hj) hF8 (show o + 2 + j ≠ o by omega)
  have h_18 := hI_f h_18 hF8 (show o + 18 ≠ o by omega)
  have h_19 := hI_f h_19 hF8 (show o + 19 ≠ o by omega)
  have h_20 := hI_f h_20 hF8 (show o + 20 ≠ o by omega)
  refine lv_aload_n hx hb d_M_init_40 rfl (lv_at hl 0 rfl) ?_
  refine lv_bipush (v := nI 8) hx hb d_M_init_41 (by decide) ?_
  refine x_newr (atype := .int) (z := (8, .inl fun _ => 0)) hx hb (htw _ kw_304) hJ2 8 (by decide) (by decide) (by decide) (Nat.le_of_ble_eq_true rfl) (Nat.le_of_ble_eq_true rfl) hsz rfl d_M_init_43 (fun H9 h_21 hsz hF9 => ?_)
  have h_21 : hI H9 cI (o + 21) 8 (fun _ => 0) := h_21
  have hP := hP.kept (fun k q hq => hF9.2 q.1 ((hP k q hq).lt) (fun h => h))
  have hG := hG.e hF9
  have h_out := hQ_f h_out hF9 (fun h => h)
  have h_reg : ∀ j, j < 16 → hI _ cI (o + 2 + j) 8 (fun _ => 0) := fun j hj => hI_f (h_reg j hj) hF9 (fun h => h)
  have h_18 := hI_f h_18 hF9 (fun h => h)
  have h_19 := hI_f h_19 hF9 (fun h => h)
  have h_20 := hI_f h_20 hF9 (fun h => h)
  refine x_putF (ci := 1) (N := 9) hx hb htw inM t_M t_M_ok n_M hown hK hP rfl 5 (by decide) (htw _ kw_281) rfl hin2 rfl (t_M_ok 5 (by decide)) rfl rfl (Nat.le_of_ble_eq_true rfl) hlo d_M_init_45 (fun H10 locs10 hP hs10 hF10 hlo => ?_)
  have hsz := hs10.trans hsz
  have hG := hG.tr hF10 (fun _ h => h)
  have hP : va_P D vwCl [(o, .inr (1, [.int (nI 0), .ref (o + 1), .ref (o + 18), .ref (o + 19), .ref (o + 20), .ref (o + 21), .null, .null, .null]))] H10 := hP
  have h_out := hQ_f h_out hF10 (show o + 1 ≠ o by omega)
  have h_reg : ∀ j, j < 16 → hI _ cI (o + 2 + j) 8 (fun _ => 0) := fun j hj => hI_f (h_reg j hj) hF10 (show o + 2 + j ≠ o by omega)
  have h_18 := hI_f h_18 hF10 (show o + 18 ≠ o by omega)
  have h_19 := hI_f h_19 hF10 (show o + 19 ≠ o by omega)
  have h_20 := hI_f h_20 hF10 (show o + 20 ≠ o by omega)
  have h_21 := hI_f h_21 hF10 (show o + 21 ≠ o by omega)
  refine lv_aload_n hx hb d_M_init_48 rfl (lv_at hl 0 rfl) ?_
  refine lv_bipush (v := nI 17) hx hb d_M_init_49 (by decide) ?_
  refine x_newr (atype := .int) (z := (17, .inl fun _ => 0)) hx hb (htw _ kw_304) hJ2 17 (by decide) (by decide) (by decide) (Nat.le_of_ble_eq_true rfl) (Nat.le_of_ble_eq_true rfl) hsz rfl d_M_init_51 (fun H11 h_22 hsz hF11 => ?_)
  have h_22 : hI H11 cI (o + 22) 17 (fun _ => 0) := h_22
  have hP := hP.kept (fun k q hq => hF11.2 q.1 ((hP k q hq).lt) (fun h => h))
  have hG := hG.e hF11
  have h_out := hQ_f h_out hF11 (fun h => h)
  have h_reg : ∀ j, j < 16 → hI _ cI (o + 2 + j) 8 (fun _ => 0) := fun j hj => hI_f (h_reg j hj) hF11 (fun h => h)
  have h_18 := hI_f h_18 hF11 (fun h => h)
  have h_19 := hI_f h_19 hF11 (fun h => h)
  have h_20 := hI_f h_20 hF11 (fun h => h)
  have h_21 := hI_f h_21 hF11 (fun h => h)
  refine x_putF (ci := 1) (N := 9) hx hb htw inM t_M t_M_ok n_M hown hK hP rfl 6 (by decide) (htw _ kw_282) rfl hin2 rfl (t_M_ok 6 (by decide)) rfl rfl (Nat.le_of_ble_eq_true rfl) hlo d_M_init_53 (fun H12 locs12 hP hs12 hF12 hlo => ?_)
  have hsz := hs12.trans hsz
  have hG := hG.tr hF12 (fun _ h => h)
  have hP : va_P D vwCl [(o, .inr (1, [.int (nI 0), .ref (o + 1), .ref (o + 18), .ref (o + 19), .ref (o + 20), .ref (o + 21), .ref (o + 22), .null, .null]))] H12 := hP
  have h_out := hQ_f h_out hF12 (show o + 1 ≠ o by omega)
  have h_reg : ∀ j, j < 16 → hI _ cI (o + 2 + j) 8 (fun _ => 0) := fun j hj => hI_f (h_reg j hj) hF12 (show o + 2 + j ≠ o by omega)
  have h_18 := hI_f h_18 hF12 (show o + 18 ≠ o by omega)
  have h_19 := hI_f h_19 hF12 (show o + 19 ≠ o by omega)
  have h_20 := hI_f h_20 hF12 (show o + 20 ≠ o by omega)
  have h_21 := hI_f h_21 hF12 (show o + 21 ≠ o by omega)
  have h_22 := hI_f h_22 hF12 (show o + 22 ≠ o by omega)
  refine lv_aload_n hx hb d_M_init_56 rfl (lv_at hl 0 rfl) ?_
  refine lv_bipush (v := nI 16) hx hb d_M_init_57 (by decide) ?_
  refine x_newr (atype := .int) (z := (16, .inl fun _ => 0)) hx hb (htw _ kw_304) hJ2 16 (by decide) (by decide) (by decide) (Nat.le_of_ble_eq_true rfl) (Nat.le_of_ble_eq_true rfl) hsz rfl d_M_init_59 (fun H13 h_23 hsz hF13 => ?_)
  have h_23 : hI H13 cI (o + 23) 16 (fun _ => 0) := h_23
  have hP := hP.kept (fun k q hq => hF13.2 q.1 ((hP k q hq).lt) (fun h => h))
  have hG := hG.e hF13
  have h_out := hQ_f h_out hF13 (fun h => h)
  have h_reg : ∀ j, j < 16 → hI _ cI (o + 2 + j) 8 (fun _ => 0) := fun j hj => hI_f (h_reg j hj) hF13 (fun h => h)
  have h_18 := hI_f h_18 hF13 (fun h => h)
  have h_19 := hI_f h_19 hF13 (fun h => h)
  have h_20 := hI_f h_20 hF13 (fun h => h)
  have h_21 := hI_f h_21 hF13 (fun h => h)
  have h_22 := hI_f h_22 hF13 (fun h => h)
  refine x_putF (ci := 1) (N := 9) hx hb htw inM t_M t_M_ok n_M hown hK hP rfl 7 (by decide) (htw _ kw_283) rfl hin2 rfl (t_M_ok 7 (by decide)) rfl rfl (Nat.le_of_ble_eq_true rfl) hlo d_M_init_61 (fun H14 locs14 hP hs14 hF14 hlo => ?_)
  have hsz := hs14.trans hsz
  have hG := hG.tr hF14 (fun _ h => h)
  have hP : va_P D vwCl [(o, .inr (1, [.int (nI 0), .ref (o + 1), .ref (o + 18), .ref (o + 19), .ref (o + 20), .ref (o + 21), .ref (o + 22), .ref (o + 23), .null]))] H14 := hP
  have h_out := hQ_f h_out hF14 (show o + 1 ≠ o by omega)
  have h_reg : ∀ j, j < 16 → hI _ cI (o + 2 + j) 8 (fun _ => 0) := fun j hj => hI_f (h_reg j hj) hF14 (show o + 2 + j ≠ o by omega)
  have h_18 := hI_f h_18 hF14 (show o + 18 ≠ o by omega)
  have h_19 := hI_f h_19 hF14 (show o + 19 ≠ o by omega)
  have h_20 := hI_f h_20 hF14 (show o + 20 ≠ o by omega)
  have h_21 := hI_f h_21 hF14 (show o + 21 ≠ o by omega)
  have h_22 := hI_f h_22 hF14 (show o + 22 ≠ o by omega)
  have h_23 := hI_f h_23 hF14 (show o + 23 ≠ o by omega)
  refine lv_aload_n hx hb d_M_init_64 rfl (lv_at hl 0 rfl) ?_
  refine lv_bipush (v := nI 9) hx hb d_M_init_65 (by decide) ?_
  refine x_newr (atype := .int) (z := (9, .inl fun _ => 0)) hx hb (htw _ kw_304) hJ2 9 (by decide) (by decide) (by decide) (Nat.le_of_ble_eq_true rfl) (Nat.le_of_ble_eq_true rfl) hsz rfl d_M_init_67 (fun H15 h_24 hsz hF15 => ?_)
  have h_24 : hI H15 cI (o + 24) 9 (fun _ => 0) := h_24
  have hP := hP.kept (fun k q hq => hF15.2 q.1 ((hP k q hq).lt) (fun h => h))
  have hG := hG.e hF15
  have h_out := hQ_f h_out hF15 (fun h => h)
  have h_reg : ∀ j, j < 16 → hI _ cI (o + 2 + j) 8 (fun _ => 0) := fun j hj => hI_f (h_reg j hj) hF15 (fun h => h)
  have h_18 := hI_f h_18 hF15 (fun h => h)
  have h_19 := hI_f h_19 hF15 (fun h => h)
  have h_20 := hI_f h_20 hF15 (fun h => h)
  have h_21 := hI_f h_21 hF15 (fun h => h)
  have h_22 := hI_f h_22 hF15 (fun h => h)
  have h_23 := hI_f h_23 hF15 (fun h => h)
  refine x_putF (ci := 1) (N := 9) hx hb htw inM t_M t_M_ok n_M hown hK hP rfl 8 (by decide) (htw _ kw_284) rfl hin2 rfl (t_M_ok 8 (by decide)) rfl rfl (Nat.le_of_ble_eq_true rfl) hlo d_M_init_69 (fun H16 locs16 hP hs16 hF16 hlo => ?_)
  have hsz := hs16.trans hsz
  have hG := hG.tr hF16 (fun _ h => h)
  have hP : va_P D vwCl [(o, .inr (1, [.int (nI 0), .ref (o + 1), .ref (o + 18), .ref (o + 19), .ref (o + 20), .ref (o + 21), .ref (o + 22), .ref (o + 23), .ref (o + 24)]))] H16 := hP
  have h_out := hQ_f h_out hF16 (show o + 1 ≠ o by omega)
  have h_reg : ∀ j, j < 16 → hI _ cI (o + 2 + j) 8 (fun _ => 0) := fun j hj => hI_f (h_reg j hj) hF16 (show o + 2 + j ≠ o by omega)
  have h_18 := hI_f h_18 hF16 (show o + 18 ≠ o by omega)
  have h_19 := hI_f h_19 hF16 (show o + 19 ≠ o by omega)
  have h_20 := hI_f h_20 hF16 (show o + 20 ≠ o by omega)
  have h_21 := hI_f h_21 hF16 (show o + 21 ≠ o by omega)
  have h_22 := hI_f h_22 hF16 (show o + 22 ≠ o by omega)
  have h_23 := hI_f h_23 hF16 (show o + 23 ≠ o by omega)
  have h_24 := hI_f h_24 hF16 (show o + 24 ≠ o by omega)
  refine W.widen (k := 24) (n := 218) (by decide) (by decide) ?_
  exact W.vret hx hb hr (fun t ht hW => ⟨rfl, by rw [ht]; exact hG, by rw [ht]; exact hsz, by rw [ht]; exact ⟨⟨hP, h_out⟩, ⟨⟨_, h_18⟩, ⟨_, h_19⟩, ⟨_, h_20⟩, ⟨_, h_21, NI_00⟩, ⟨_, h_22⟩, ⟨_, h_23⟩, ⟨_, h_24⟩⟩, fun r hr => ⟨_, h_reg r hr, NI_00⟩⟩⟩) hlo d_M_init_72
