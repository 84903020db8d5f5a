-- the reference's object at o: its array of rows at o + 1, the registers at o + 2 .. o + 17; x, y, z, none, wide, quotient, rest at o + 18 .. o + 24
def MF (o : Nat) (fl : Int32) : List Value := [.int fl, .ref (o + 1), .ref (o + 18), .ref (o + 19), .ref (o + 20), .ref (o + 21), .ref (o + 22), .ref (o + 23), .ref (o + 24)]
def MB (D : va_G) (cR : ClassId) (o : Nat) (fl : Int32) (H : Heap) : Prop := va_P D vwCl [(o, .inr (1, MF o fl))] H ∧ hQ H cR (o + 1) 16 (fun i => if i < 16 then some (o + 2 + i) else none)
theorem MB.f {D : va_G} {cR : ClassId} {o : Nat} {fl : Int32} {H H1 : Heap} {A : Nat → Prop} (h : MB D cR o fl H) (hF : XF A H H1) (h0 : ¬ A o) (h1 : ¬ A (o + 1)) : MB D cR o fl H1 := by
  refine ⟨h.1.kept (fun k q hq => ?_), hQ_f h.2 hF h1⟩
  have hl := (h.1 k q hq).lt
  match k, hq with
  | 0, hq => cases hq; exact hF.2 _ hl h0
  | k + 1, hq => cases hq
theorem MB.f1 {D : va_G} {cR : ClassId} {o z : Nat} {fl : Int32} {H H1 : Heap} (h : MB D cR o fl H) (hF : XF (fun q => q = z) H H1) (hz : o + 2 ≤ z) : MB D cR o fl H1 := h.f hF (fun e => by have e : o = z := e; omega) (fun e => by have e : o + 1 = z := e; omega)
/-- the scratch cells; those that divideWide writes -/
def MS (o : Nat) : Nat → Prop := fun q => o + 18 ≤ q ∧ q < o + 25
def WA (o : Nat) : Nat → Prop := fun q => q = o + 23 ∨ q = o + 24
theorem MB.fS {D : va_G} {cR : ClassId} {o : Nat} {fl : Int32} {H H1 : Heap} (h : MB D cR o fl H) (hF : XF (MS o) H H1) : MB D cR o fl H1 := h.f hF (fun e => by have e := e.1; omega) (fun e => by have e := e.1; omega)
theorem MB.fW {D : va_G} {cR : ClassId} {o : Nat} {fl : Int32} {H H1 : Heap} (h : MB D cR o fl H) (hF : XF (WA o) H H1) : MB D cR o fl H1 := h.f hF (fun e => by rcases e with e | e <;> omega) (fun e => by rcases e with e | e <;> omega)
theorem MB.rv {D : va_G} {cR : ClassId} {o : Nat} {fl : Int32} {H : Heap} {s : State} {tys : List (ClassId × FieldType)} (h : MB D cR o fl H) (hK : va_K D vwCl tys s) : ∃ cellB : Cell, H[o]? = some cellB ∧ cellB.vm.isStatics = false ∧ s.vm.findClass "WideNumbersModel" = some cellB.cls := va_recv (ci := 1) (q := ("WideNumbersModel", F_M, 9)) hK h.1 rfl (q0 := 0) rfl
theorem nWA {o a : Nat} (h : a < o + 23 ∨ o + 25 ≤ a) : ¬ WA o a := fun e => by rcases e with e | e <;> omega
theorem nMS {o a : Nat} (h : a < o + 18 ∨ o + 25 ≤ a) : ¬ MS o a := fun e => by have e1 := e.1; have e2 := e.2; omega
theorem MS1 {o z : Nat} {H0 H H1 : Heap} (h : XF (MS o) H0 H) (hF : XF (fun q => q = z) H H1) (hz : o + 18 ≤ z ∧ z < o + 25) : XF (MS o) H0 H1 := h.tr hF (fun q e => by have e : q = z := e; rw [e]; exact hz)
theorem MSW {o : Nat} {H0 H H1 : Heap} (h : XF (MS o) H0 H) (hF : XF (WA o) H H1) : XF (MS o) H0 H1 := h.tr hF (fun q e => by rcases e with e | e <;> (rw [e]; exact ⟨by omega, by omega⟩))
theorem MSS {o : Nat} {H0 H H1 : Heap} (h : XF (MS o) H0 H) (hF : XF (MS o) H H1) : XF (MS o) H0 H1 := h.tr hF (fun _ e => e)
theorem NI_m0 {f : Nat → Int32} {i : Nat} (h : NI f i 0) : NI (upd f i (nI 0)) (i + 1) 0 := by
  have e := NI_up h
  rwa [dg_0] at e
theorem div2_31 {d c : Nat} (h : d < 4294967296) (hc : c ≤ 1) : (2 * d + c) / 4294967296 = d / 2147483648 := by omega
theorem dg_le {v i : Nat} (h : v < 2 ^ (32 * i)) {k : Nat} (hk : i ≤ k) : dg v k = 0 := dg_big (Nat.lt_of_lt_of_le h (pw_le (by omega)))
theorem top8 {v : Nat} (h : v < 2 ^ 288) (h0 : dg v 8 = 0) : v < 2 ^ 256 := by
  unfold dg at h0
  omega
section XMF
variable {p : Program} {l : Launch} {e : Env} {R : Room} {s : State} {m : MethodId} {args : Array Value} {below : List Frame} {meth : Method} {c : Code} {H : Heap} {locs : List Loc} {cells slots : Nat} {Q : State → Prop}
variable {cc : ByteArray} {pc : Nat} {ls : Array Slot} {rest : List Value}
/-- the reference notes whether the call is refused -/
theorem x_fail (hexec : p.tables.exec = Jvm.exec) (hb : c.code = cc) (htw : ∀ w ∈ WT, w.before args s = true) (hown : s.vm.findClass "WideNumbersModel" = some m.cls) {D : va_G} {tys : List (ClassId × FieldType)} {cR : ClassId} {o : Nat} {fl v : Int32} (hK : va_K D vwCl tys s) (hO : MB D cR o fl H) (hlo : ∀ q ∈ locs, q.base = o) (hdg : decode cc pc = .ok (.putfield 36, 3))
    (kk : ∀ (H1 : Heap) (locs1 : List Loc), MB D cR o v H1 → XF (fun q => q = o) H H1 → (∀ q ∈ locs1, q.base = o) → W p l e R s m args below meth c H1 locs1 cells slots Q (F0 m (pc + 3) ls rest)) : W p l e R s m args below meth c H locs cells slots Q (F0 m pc ls (.int v :: .ref o :: rest)) := by
  have hD : va_D (fun q => q = o) [(o, .inr (1, MF o fl))] := by
    refine ⟨fun i j p q hp hq _ => ?_, fun k q hq => ?_⟩
    · match i, j, hp, hq with
      | 0, 0, _, _ => rfl
      | i + 1, _, hp, _ => cases hp
      | _, j + 1, _, hq => cases hq
    · match k, hq with
      | 0, hq => cases hq; rfl
      | k + 1, hq => cases hq
  have hS : va_S (fun q => q = o) H H locs := ⟨Nat.le_refl _, fun _ _ _ => rfl, hlo⟩
  refine va_put (D := D) (ci := 1) (v := .int v) (ty := .int) (C := "WideNumbersModel") (T := F_M) (N := 9) hexec hb htw inM t_M t_M_ok n_M hown hK hO.1 hD hS 0 rfl rfl 0 (by decide) (htw _ kw_276) (fun _ h9 => h9) rfl (by decide +kernel) rfl rfl (Nat.le_of_ble_eq_true rfl) hdg (fun H1 locs1 hP1 hD1 hS1 => ?_)
  have hF : XF (fun q => q = o) H H1 := ⟨hS1.1, fun q hl hq => hS1.2.1 q hl hq⟩
  exact kk H1 locs1 ⟨hP1, hQ_f hO.2 hF (show o + 1 ≠ o by omega)⟩ hF hS1.2.2
end XMF
