-- the law's loop
set_option maxHeartbeats 4000000 in
set_option maxRecDepth 100000 in
theorem law_loop {p : Program} {l : Launch} {e : Env} {s : State} {m : MethodId} {below : List Frame} {meth : Method} {c : Code} {D : va_G} {cJ cI cQ cR : ClassId} {sa o b L : Nat} {xs : Nat → Int32} (hC : LCt p l s m c D cJ cI cQ cR sa o b L xs) (hr : meth.sig.returnType = ret) (hlocks : meth.locks = false) {H : Heap} {locs : List Loc} {ls : Array Slot} {V : Nat → Nat} (hl : lv_has ls 8 (LLt o b (10 * 0))) (hS : LSt D cJ cI cQ cR s o V H locs) : W p l e room_1 s m #[Value.ref b] below meth c H locs (50 + 4 * 0) (443 + 24 * 0) (lw_Z below #[Value.ref b] s) (F0 m 23 ls []) := by
  have hC2 := hC
  obtain ⟨hx, hb, hml, hown, htw, hX, hbl, hK, hE, hst, ho, hL5⟩ := hC2
  refine x_loopC 23 (fun j H locs ls => ∃ V, lv_has ls 8 (LLt o b (10 * j)) ∧ LSt D cJ cI cQ cR s o V H locs) (L / 10) (fun j => 50 + 4 * j) (fun j => 443 + 24 * j) ?_ ?_ _ _ _ ⟨V, hl, hS⟩
  · intro j H locs ls hj ⟨V, hl, hS⟩ ih
    have hj2 : 10 * j + 10 ≤ L := by omega
    have hS2 := hS
    obtain ⟨hlo, hF0, hV, hCO, ⟨fl, hMO⟩, fq, hq1⟩ := hS2
    try dsimp only at ih ⊢
    have hl : lv_has ls 8 [(4, .int (nI (10 * j))), (0, .ref b), (1, .ref o), (2, .ref (o + 24)), (3, .ref (o + 49))] := hl
    refine lv_iload hx hb d_L_law_23 (lv_at hl 0 rfl) ?_
    refine lv_aload_n hx hb d_L_law_25 rfl (lv_at hl 1 rfl) ?_
    refine va_slen (A := fun z => o ≤ z) hx hb hX hbl (fun h : o ≤ b => by omega) ⟨hF0.1, hF0.2, hlo⟩ d_L_law_26 ?_
    refine W.eq (g2 := F0 m 27 ls [.int (nI L), .int (nI (10 * j))]) rfl ?_
    refine lv_bipush (v := nI 10) hx hb d_L_law_27 (by decide) ?_
    refine lv_isub hx hb d_L_law_29 ?_
    refine x_topi (v := nI (L - 10)) (pk_sub (by omega)) ?_
    refine lv_icmp_gt (tgt := 777) hx hb d_L_law_30 (by decide) (fun hc => absurd hc (fun hc => absurd (nI_le (show 10 * j ≤ L - 10 by omega) (by omega)) (Int32.not_le.mpr hc))) (fun _ => ?_)
    refine lv_aload_n hx hb d_L_law_33 rfl (lv_at hl 1 rfl) ?_
    refine lv_iload hx hb d_L_law_34 (lv_at hl 0 rfl) ?_
    refine x_sld hx hb ho hX hbl hF0 hlo (10 * j) (by omega) hL5 d_L_law_36 ?_
    refine lv_bipush (v := nI 7) hx hb d_L_law_37 (by decide) ?_
    refine lv_iand hx hb d_L_law_39 ?_
    obtain ⟨k, hk, ek⟩ := and7 (xs (10 * j))
    rw [ek]
    have hl0 := hl
    rcases (show k = 0 ∨ k = 1 ∨ k = 2 ∨ k = 3 ∨ k = 4 ∨ k = 5 ∨ k = 6 ∨ k = 7 by omega) with rfl | rfl | rfl | rfl | rfl | rfl | rfl | rfl
    · refine lv_tableIn (tgt := 84) hx hb d_L_law_40 (by decide) (by decide) (off := 44) (by decide) (by decide) ?_
      exact law_0 hC j hj2 hl hS (fun V' H' locs' ls' h1 h2 => ih H' locs' ls' ⟨V', h1, h2⟩)
    · refine lv_tableIn (tgt := 304) hx hb d_L_law_40 (by decide) (by decide) (off := 264) (by decide) (by decide) ?_
      exact law_1 hC j hj2 hl hS (fun V' H' locs' ls' h1 h2 => ih H' locs' ls' ⟨V', h1, h2⟩)
    · refine lv_tableIn (tgt := 371) hx hb d_L_law_40 (by decide) (by decide) (off := 331) (by decide) (by decide) ?_
      exact law_2 hC j hj2 hl hS (fun V' H' locs' ls' h1 h2 => ih H' locs' ls' ⟨V', h1, h2⟩)
    · refine lv_tableIn (tgt := 443) hx hb d_L_law_40 (by decide) (by decide) (off := 403) (by decide) (by decide) ?_
      exact law_3 hC j hj2 hl hS (fun V' H' locs' ls' h1 h2 => ih H' locs' ls' ⟨V', h1, h2⟩)
    · refine lv_tableIn (tgt := 543) hx hb d_L_law_40 (by decide) (by decide) (off := 503) (by decide) (by decide) ?_
      exact law_4 hC j hj2 hl hS (fun V' H' locs' ls' h1 h2 => ih H' locs' ls' ⟨V', h1, h2⟩)
    · refine lv_tableIn (tgt := 619) hx hb d_L_law_40 (by decide) (by decide) (off := 579) (by decide) (by decide) ?_
      exact law_5 hC j hj2 hl hS (fun V' H' locs' ls' h1 h2 => ih H' locs' ls' ⟨V', h1, h2⟩)
    · refine lv_tableIn (tgt := 715) hx hb d_L_law_40 (by decide) (by decide) (off := 675) (by decide) (by decide) ?_
      exact law_6 hC j hj2 hl hS (fun V' H' locs' ls' h1 h2 => ih H' locs' ls' ⟨V', h1, h2⟩)
    · refine lv_tableOut (tgt := 771) hx hb d_L_law_40 (by decide) (by decide) ?_
      refine lv_iinc (v := nI (10 * (j + 1))) (k := 0) hx hb d_L_law_771 hl rfl (nI_add (10 * j) 10) (by decide) rfl (fun ls hl => ?_)
      have hl : lv_has ls 8 [(4, .int (nI (10 * (j + 1)))), (0, .ref b), (1, .ref o), (2, .ref (o + 24)), (3, .ref (o + 49))] := hl
      refine lv_goto (tgt := 23) hx hb d_L_law_774 (by decide) ?_
      have hl : lv_has ls 8 [(4, .int (nI (10 * (j + 1)))), (0, .ref b), (1, .ref o), (2, .ref (o + 24)), (3, .ref (o + 49))] := lv_sub hl [0, 1, 2, 3, 4] rfl
      refine W.widen (k := 50 + 4 * (j + 1)) (n := 443 + 24 * (j + 1)) (by omega) (by omega) ?_
      exact ih H locs ls ⟨V, hl, hS⟩
  · intro H locs ls ⟨V, hl, hS⟩
    obtain ⟨hlo, hF0, hV, hCO, ⟨fl, hMO⟩, fq, hq1⟩ := hS
    try dsimp only
    have hl : lv_has ls 8 [(4, .int (nI (10 * (L / 10)))), (0, .ref b), (1, .ref o), (2, .ref (o + 24)), (3, .ref (o + 49))] := hl
    refine lv_iload hx hb d_L_law_23 (lv_at hl 0 rfl) ?_
    refine lv_aload_n hx hb d_L_law_25 rfl (lv_at hl 1 rfl) ?_
    refine va_slen (A := fun z => o ≤ z) hx hb hX hbl (fun h : o ≤ b => by omega) ⟨hF0.1, hF0.2, hlo⟩ d_L_law_26 ?_
    refine W.eq (g2 := F0 m 27 ls [.int (nI L), .int (nI (10 * (L / 10)))]) rfl ?_
    refine lv_bipush (v := nI 10) hx hb d_L_law_27 (by decide) ?_
    refine lv_isub hx hb d_L_law_29 ?_
    refine lv_icmp_gt (tgt := 777) hx hb d_L_law_30 (by decide) (fun _ => ?_) (fun hc => absurd ?_ hc)
    · refine lv_iconst (v := 1) hx hb d_L_law_777 (by decide) ?_
      refine va_forget (fun q hq => by have := hlo q hq; omega) ?_
      refine W.widen (k := 644381) (n := 7162962) (by omega) (by omega) ?_
      exact lw_ret hx hb hr hlocks d_L_law_778
    · show nI L - nI 10 < nI (10 * (L / 10))
      by_cases hL10 : L < 10
      · rw [show 10 * (L / 10) = 0 by omega]
        exact l_neg L hL10
      · rw [pk_sub (by omega)]
        exact nI_lt (by omega) (by omega)
