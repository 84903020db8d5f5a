-- a step of the law, by its kind
set_option maxHeartbeats 4000000 in
set_option maxRecDepth 100000 in
theorem law_0 {p : Program} {l : Launch} {e : Env} {s : State} {m : MethodId} {below : List Frame} {meth : Method} {c : Code} {Q : State → Prop} {D : va_G} {cJ cI cQ cR : ClassId} {sa o b L : Nat} {xs : Nat → Int32} (hC : LCt p l s m c D cJ cI cQ cR sa o b L xs) (j : Nat) (hj : 10 * j + 10 ≤ L) {V : Nat → Nat} {H : Heap} {locs : List Loc} {ls : Array Slot} (hl : lv_has ls 8 (LLt o b (10 * j))) (hS : LSt D cJ cI cQ cR s o V H locs)
    (K : ∀ (V' : Nat → Nat) (H' : Heap) (locs' : List Loc) (ls' : Array Slot), lv_has ls' 8 (LLt o b (10 * (j + 1))) → LSt D cJ cI cQ cR s o V' H' locs' → W p l e room_1 s m #[Value.ref b] below meth c H' locs' (50 + 4 * (j + 1)) (443 + 24 * (j + 1)) Q (F0 m 23 ls' [])) : W p l e room_1 s m #[Value.ref b] below meth c H locs (50 + 4 * j) (443 + 24 * j) Q (F0 m 84 ls []) := by
  obtain ⟨hx, hb, hml, hown, htw, hX, hbl, hK, hE, hst, ho, hL5⟩ := hC
  obtain ⟨hlo, hF0, hV, hCO, ⟨fl, hMO⟩, fq, hq1⟩ := hS
  have hJ : ArrOfT s cJ .long := (hK.2 0 _ rfl).1
  have hl : lv_has ls 8 [(4, .int (nI (10 * j))), (0, .ref b), (1, .ref o), (2, .ref (o + 24)), (3, .ref (o + 49))] := hl
  refine lv_aload_n hx hb d_L_law_84 rfl (lv_at hl 2 rfl) ?_
  refine lv_aload_n hx hb d_L_law_85 rfl (lv_at hl 1 rfl) ?_
  refine lv_iload hx hb d_L_law_86 (lv_at hl 0 rfl) ?_
  refine lv_iconst (v := nI 1) hx hb d_L_law_88 (by decide) ?_
  refine lv_iadd hx hb d_L_law_89 ?_
  refine x_topi (v := nI (10 * j + 1)) (nI_add _ _) ?_
  refine x_sld hx hb ho hX hbl hF0 hlo (10 * j + 1) (by omega) hL5 d_L_law_90 ?_
  refine lv_aload_n hx hb d_L_law_91 rfl (lv_at hl 1 rfl) ?_
  refine lv_iload hx hb d_L_law_92 (lv_at hl 0 rfl) ?_
  refine lv_iconst (v := nI 2) hx hb d_L_law_94 (by decide) ?_
  refine lv_iadd hx hb d_L_law_95 ?_
  refine x_topi (v := nI (10 * j + 2)) (nI_add _ _) ?_
  refine x_sld hx hb ho hX hbl hF0 hlo (10 * j + 2) (by omega) hL5 d_L_law_96 ?_
  refine lv_i2l (v := (xs (10 * j + 2)).toInt64) hx hb d_L_law_97 (rfl) ?_
  refine lv_bipush (v := nI 32) hx hb d_L_law_98 (by decide) ?_
  refine lv_lshl (v := (xs (10 * j + 2)).toInt64 <<< ((nI 32).toInt64 &&& 63)) hx hb d_L_law_100 (rfl) ?_
  refine lv_aload_n hx hb d_L_law_101 rfl (lv_at hl 1 rfl) ?_
  refine lv_iload hx hb d_L_law_102 (lv_at hl 0 rfl) ?_
  refine lv_iconst (v := nI 3) hx hb d_L_law_104 (by decide) ?_
  refine lv_iadd hx hb d_L_law_105 ?_
  refine x_topi (v := nI (10 * j + 3)) (nI_add _ _) ?_
  refine x_sld hx hb ho hX hbl hF0 hlo (10 * j + 3) (by omega) hL5 d_L_law_106 ?_
  refine lv_i2l (v := (xs (10 * j + 3)).toInt64) hx hb d_L_law_107 (rfl) ?_
  refine lv_ldc2 (v := (4294967295 : Int64)) hx hb hown (htw _ kw_421) d_L_law_108 ?_
  refine lv_land hx hb d_L_law_111 ?_
  refine lv_lor hx hb d_L_law_112 ?_
  refine x_topl (v := lN (PN (xs (10 * j + 2)) (xs (10 * j + 3)))) (PL_eq _ _) ?_
  refine lv_aload_n hx hb d_L_law_113 rfl (lv_at hl 1 rfl) ?_
  refine lv_iload hx hb d_L_law_114 (lv_at hl 0 rfl) ?_
  refine lv_iconst (v := nI 4) hx hb d_L_law_116 (by decide) ?_
  refine lv_iadd hx hb d_L_law_117 ?_
  refine x_topi (v := nI (10 * j + 4)) (nI_add _ _) ?_
  refine x_sld hx hb ho hX hbl hF0 hlo (10 * j + 4) (by omega) hL5 d_L_law_118 ?_
  refine lv_i2l (v := (xs (10 * j + 4)).toInt64) hx hb d_L_law_119 (rfl) ?_
  refine lv_bipush (v := nI 32) hx hb d_L_law_120 (by decide) ?_
  refine lv_lshl (v := (xs (10 * j + 4)).toInt64 <<< ((nI 32).toInt64 &&& 63)) hx hb d_L_law_122 (rfl) ?_
  refine lv_aload_n hx hb d_L_law_123 rfl (lv_at hl 1 rfl) ?_
  refine lv_iload hx hb d_L_law_124 (lv_at hl 0 rfl) ?_
  refine lv_iconst (v := nI 5) hx hb d_L_law_126 (by decide) ?_
  refine lv_iadd hx hb d_L_law_127 ?_
  refine x_topi (v := nI (10 * j + 5)) (nI_add _ _) ?_
  refine x_sld hx hb ho hX hbl hF0 hlo (10 * j + 5) (by omega) hL5 d_L_law_128 ?_
  refine lv_i2l (v := (xs (10 * j + 5)).toInt64) hx hb d_L_law_129 (rfl) ?_
  refine lv_ldc2 (v := (4294967295 : Int64)) hx hb hown (htw _ kw_421) d_L_law_130 ?_
  refine lv_land hx hb d_L_law_133 ?_
  refine lv_lor hx hb d_L_law_134 ?_
  refine x_topl (v := lN (PN (xs (10 * j + 4)) (xs (10 * j + 5)))) (PL_eq _ _) ?_
  refine lv_aload_n hx hb d_L_law_135 rfl (lv_at hl 1 rfl) ?_
  refine lv_iload hx hb d_L_law_136 (lv_at hl 0 rfl) ?_
  refine lv_bipush (v := nI 6) hx hb d_L_law_138 (by decide) ?_
  refine lv_iadd hx hb d_L_law_140 ?_
  refine x_topi (v := nI (10 * j + 6)) (nI_add _ _) ?_
  refine x_sld hx hb ho hX hbl hF0 hlo (10 * j + 6) (by omega) hL5 d_L_law_141 ?_
  refine lv_i2l (v := (xs (10 * j + 6)).toInt64) hx hb d_L_law_142 (rfl) ?_
  refine lv_bipush (v := nI 32) hx hb d_L_law_143 (by decide) ?_
  refine lv_lshl (v := (xs (10 * j + 6)).toInt64 <<< ((nI 32).toInt64 &&& 63)) hx hb d_L_law_145 (rfl) ?_
  refine lv_aload_n hx hb d_L_law_146 rfl (lv_at hl 1 rfl) ?_
  refine lv_iload hx hb d_L_law_147 (lv_at hl 0 rfl) ?_
  refine lv_bipush (v := nI 7) hx hb d_L_law_149 (by decide) ?_
  refine lv_iadd hx hb d_L_law_151 ?_
  refine x_topi (v := nI (10 * j + 7)) (nI_add _ _) ?_
  refine x_sld hx hb ho hX hbl hF0 hlo (10 * j + 7) (by omega) hL5 d_L_law_152 ?_
  refine lv_i2l (v := (xs (10 * j + 7)).toInt64) hx hb d_L_law_153 (rfl) ?_
  refine lv_ldc2 (v := (4294967295 : Int64)) hx hb hown (htw _ kw_421) d_L_law_154 ?_
  refine lv_land hx hb d_L_law_157 ?_
  refine lv_lor hx hb d_L_law_158 ?_
  refine x_topl (v := lN (PN (xs (10 * j + 6)) (xs (10 * j + 7)))) (PL_eq _ _) ?_
  refine lv_aload_n hx hb d_L_law_159 rfl (lv_at hl 1 rfl) ?_
  refine lv_iload hx hb d_L_law_160 (lv_at hl 0 rfl) ?_
  refine lv_bipush (v := nI 8) hx hb d_L_law_162 (by decide) ?_
  refine lv_iadd hx hb d_L_law_164 ?_
  refine x_topi (v := nI (10 * j + 8)) (nI_add _ _) ?_
  refine x_sld hx hb ho hX hbl hF0 hlo (10 * j + 8) (by omega) hL5 d_L_law_165 ?_
  refine lv_i2l (v := (xs (10 * j + 8)).toInt64) hx hb d_L_law_166 (rfl) ?_
  refine lv_bipush (v := nI 32) hx hb d_L_law_167 (by decide) ?_
  refine lv_lshl (v := (xs (10 * j + 8)).toInt64 <<< ((nI 32).toInt64 &&& 63)) hx hb d_L_law_169 (rfl) ?_
  refine lv_aload_n hx hb d_L_law_170 rfl (lv_at hl 1 rfl) ?_
  refine lv_iload hx hb d_L_law_171 (lv_at hl 0 rfl) ?_
  refine lv_bipush (v := nI 9) hx hb d_L_law_173 (by decide) ?_
  refine lv_iadd hx hb d_L_law_175 ?_
  refine x_topi (v := nI (10 * j + 9)) (nI_add _ _) ?_
  refine x_sld hx hb ho hX hbl hF0 hlo (10 * j + 9) (by omega) hL5 d_L_law_176 ?_
  refine lv_i2l (v := (xs (10 * j + 9)).toInt64) hx hb d_L_law_177 (rfl) ?_
  refine lv_ldc2 (v := (4294967295 : Int64)) hx hb hown (htw _ kw_421) d_L_law_178 ?_
  refine lv_land hx hb d_L_law_181 ?_
  refine lv_lor hx hb d_L_law_182 ?_
  refine x_topl (v := lN (PN (xs (10 * j + 8)) (xs (10 * j + 9)))) (PL_eq _ _) ?_
  refine x_calli (A := fun z => o ≤ z) (vx_runSW (As := [.ref o, .int (xs (10 * j + 1)), .long (lN (PN (xs (10 * j + 2)) (xs (10 * j + 3)))), .long (lN (PN (xs (10 * j + 4)) (xs (10 * j + 5)))), .long (lN (PN (xs (10 * j + 6)) (xs (10 * j + 7)))), .long (lN (PN (xs (10 * j + 8)) (xs (10 * j + 9))))]) (rest := []) ⟨hx, hb, hml, hown, htw⟩ (l_set l D cJ cI cQ cR o sa hst o V hV (xs (10 * j + 1)) (PN (xs (10 * j + 2)) (xs (10 * j + 3))) (PN (xs (10 * j + 4)) (xs (10 * j + 5))) (PN (xs (10 * j + 6)) (xs (10 * j + 7))) (PN (xs (10 * j + 8)) (xs (10 * j + 9))) (PN_lt _ _) (PN_lt _ _) (PN_lt _ _) (PN_lt _ _)) (vx_cwSW 6 htw (gdS kw_45 kw_43 kw_44 kw_0) rfl rfl rfl ⟨by decide, by decide, by decide +kernel⟩ ⟨Nat.le_of_ble_eq_true rfl, Nat.le_of_ble_eq_true rfl⟩) (xPreX hK hE (fun z h1 h2 => hF0.2 z h1 h2) hCO) rfl rfl hl.1 rfl (lv_room (Nat.le_of_ble_eq_true rfl)) d_L_law_183 ⟨by show _ ≤ 644381; omega, by show _ ≤ 7162962; omega⟩) hlo (fun z h => by have := h.1; omega) (fun x5 H1 locs1 hB1 hlo => ?_)
  have hF0 := hF0.tr hB1.1 (fun z h => by have := h.1; omega)
  have hMO := hMO.f hB1.1 (fun z h1 h2 h => by have := h.2; omega)
  have hq1 := hL_f hq1 hB1.1 (fun h => by have := h.2; omega)
  refine lv_istore hx hb d_L_law_186 hl (by decide) rfl (fun ls hl => ?_)
  have hl : lv_has ls 8 [(5, .int x5), (4, .int (nI (10 * j))), (0, .ref b), (1, .ref o), (2, .ref (o + 24)), (3, .ref (o + 49))] := hl
  refine lv_aload_n hx hb d_L_law_188 rfl (lv_at hl 4 rfl) ?_
  refine lv_aload_n hx hb d_L_law_189 rfl (lv_at hl 2 rfl) ?_
  refine lv_iload hx hb d_L_law_190 (lv_at hl 1 rfl) ?_
  refine lv_iconst (v := nI 1) hx hb d_L_law_192 (by decide) ?_
  refine lv_iadd hx hb d_L_law_193 ?_
  refine x_topi (v := nI (10 * j + 1)) (nI_add _ _) ?_
  refine x_sld hx hb ho hX hbl hF0 hlo (10 * j + 1) (by omega) hL5 d_L_law_194 ?_
  refine lv_aload_n hx hb d_L_law_195 rfl (lv_at hl 2 rfl) ?_
  refine lv_iload hx hb d_L_law_196 (lv_at hl 1 rfl) ?_
  refine lv_iconst (v := nI 2) hx hb d_L_law_198 (by decide) ?_
  refine lv_iadd hx hb d_L_law_199 ?_
  refine x_topi (v := nI (10 * j + 2)) (nI_add _ _) ?_
  refine x_sld hx hb ho hX hbl hF0 hlo (10 * j + 2) (by omega) hL5 d_L_law_200 ?_
  refine lv_i2l (v := (xs (10 * j + 2)).toInt64) hx hb d_L_law_201 (rfl) ?_
  refine lv_bipush (v := nI 32) hx hb d_L_law_202 (by decide) ?_
  refine lv_lshl (v := (xs (10 * j + 2)).toInt64 <<< ((nI 32).toInt64 &&& 63)) hx hb d_L_law_204 (rfl) ?_
  refine lv_aload_n hx hb d_L_law_205 rfl (lv_at hl 2 rfl) ?_
  refine lv_iload hx hb d_L_law_206 (lv_at hl 1 rfl) ?_
  refine lv_iconst (v := nI 3) hx hb d_L_law_208 (by decide) ?_
  refine lv_iadd hx hb d_L_law_209 ?_
  refine x_topi (v := nI (10 * j + 3)) (nI_add _ _) ?_
  refine x_sld hx hb ho hX hbl hF0 hlo (10 * j + 3) (by omega) hL5 d_L_law_210 ?_
  refine lv_i2l (v := (xs (10 * j + 3)).toInt64) hx hb d_L_law_211 (rfl) ?_
  refine lv_ldc2 (v := (4294967295 : Int64)) hx hb hown (htw _ kw_421) d_L_law_212 ?_
  refine lv_land hx hb d_L_law_215 ?_
  refine lv_lor hx hb d_L_law_216 ?_
  refine x_topl (v := lN (PN (xs (10 * j + 2)) (xs (10 * j + 3)))) (PL_eq _ _) ?_
  refine lv_aload_n hx hb d_L_law_217 rfl (lv_at hl 2 rfl) ?_
  refine lv_iload hx hb d_L_law_218 (lv_at hl 1 rfl) ?_
  refine lv_iconst (v := nI 4) hx hb d_L_law_220 (by decide) ?_
  refine lv_iadd hx hb d_L_law_221 ?_
  refine x_topi (v := nI (10 * j + 4)) (nI_add _ _) ?_
  refine x_sld hx hb ho hX hbl hF0 hlo (10 * j + 4) (by omega) hL5 d_L_law_222 ?_
  refine lv_i2l (v := (xs (10 * j + 4)).toInt64) hx hb d_L_law_223 (rfl) ?_
  refine lv_bipush (v := nI 32) hx hb d_L_law_224 (by decide) ?_
  refine lv_lshl (v := (xs (10 * j + 4)).toInt64 <<< ((nI 32).toInt64 &&& 63)) hx hb d_L_law_226 (rfl) ?_
  refine lv_aload_n hx hb d_L_law_227 rfl (lv_at hl 2 rfl) ?_
  refine lv_iload hx hb d_L_law_228 (lv_at hl 1 rfl) ?_
  refine lv_iconst (v := nI 5) hx hb d_L_law_230 (by decide) ?_
  refine lv_iadd hx hb d_L_law_231 ?_
  refine x_topi (v := nI (10 * j + 5)) (nI_add _ _) ?_
  refine x_sld hx hb ho hX hbl hF0 hlo (10 * j + 5) (by omega) hL5 d_L_law_232 ?_
  refine lv_i2l (v := (xs (10 * j + 5)).toInt64) hx hb d_L_law_233 (rfl) ?_
  refine lv_ldc2 (v := (4294967295 : Int64)) hx hb hown (htw _ kw_421) d_L_law_234 ?_
  refine lv_land hx hb d_L_law_237 ?_
  refine lv_lor hx hb d_L_law_238 ?_
  refine x_topl (v := lN (PN (xs (10 * j + 4)) (xs (10 * j + 5)))) (PL_eq _ _) ?_
  refine lv_aload_n hx hb d_L_law_239 rfl (lv_at hl 2 rfl) ?_
  refine lv_iload hx hb d_L_law_240 (lv_at hl 1 rfl) ?_
  refine lv_bipush (v := nI 6) hx hb d_L_law_242 (by decide) ?_
  refine lv_iadd hx hb d_L_law_244 ?_
  refine x_topi (v := nI (10 * j + 6)) (nI_add _ _) ?_
  refine x_sld hx hb ho hX hbl hF0 hlo (10 * j + 6) (by omega) hL5 d_L_law_245 ?_
  refine lv_i2l (v := (xs (10 * j + 6)).toInt64) hx hb d_L_law_246 (rfl) ?_
  refine lv_bipush (v := nI 32) hx hb d_L_law_247 (by decide) ?_
  refine lv_lshl (v := (xs (10 * j + 6)).toInt64 <<< ((nI 32).toInt64 &&& 63)) hx hb d_L_law_249 (rfl) ?_
  refine lv_aload_n hx hb d_L_law_250 rfl (lv_at hl 2 rfl) ?_
  refine lv_iload hx hb d_L_law_251 (lv_at hl 1 rfl) ?_
  refine lv_bipush (v := nI 7) hx hb d_L_law_253 (by decide) ?_
  refine lv_iadd hx hb d_L_law_255 ?_
  refine x_topi (v := nI (10 * j + 7)) (nI_add _ _) ?_
  refine x_sld hx hb ho hX hbl hF0 hlo (10 * j + 7) (by omega) hL5 d_L_law_256 ?_
  refine lv_i2l (v := (xs (10 * j + 7)).toInt64) hx hb d_L_law_257 (rfl) ?_
  refine lv_ldc2 (v := (4294967295 : Int64)) hx hb hown (htw _ kw_421) d_L_law_258 ?_
  refine lv_land hx hb d_L_law_261 ?_
  refine lv_lor hx hb d_L_law_262 ?_
  refine x_topl (v := lN (PN (xs (10 * j + 6)) (xs (10 * j + 7)))) (PL_eq _ _) ?_
  refine lv_aload_n hx hb d_L_law_263 rfl (lv_at hl 2 rfl) ?_
  refine lv_iload hx hb d_L_law_264 (lv_at hl 1 rfl) ?_
  refine lv_bipush (v := nI 8) hx hb d_L_law_266 (by decide) ?_
  refine lv_iadd hx hb d_L_law_268 ?_
  refine x_topi (v := nI (10 * j + 8)) (nI_add _ _) ?_
  refine x_sld hx hb ho hX hbl hF0 hlo (10 * j + 8) (by omega) hL5 d_L_law_269 ?_
  refine lv_i2l (v := (xs (10 * j + 8)).toInt64) hx hb d_L_law_270 (rfl) ?_
  refine lv_bipush (v := nI 32) hx hb d_L_law_271 (by decide) ?_
  refine lv_lshl (v := (xs (10 * j + 8)).toInt64 <<< ((nI 32).toInt64 &&& 63)) hx hb d_L_law_273 (rfl) ?_
  refine lv_aload_n hx hb d_L_law_274 rfl (lv_at hl 2 rfl) ?_
  refine lv_iload hx hb d_L_law_275 (lv_at hl 1 rfl) ?_
  refine lv_bipush (v := nI 9) hx hb d_L_law_277 (by decide) ?_
  refine lv_iadd hx hb d_L_law_279 ?_
  refine x_topi (v := nI (10 * j + 9)) (nI_add _ _) ?_
  refine x_sld hx hb ho hX hbl hF0 hlo (10 * j + 9) (by omega) hL5 d_L_law_280 ?_
  refine lv_i2l (v := (xs (10 * j + 9)).toInt64) hx hb d_L_law_281 (rfl) ?_
  refine lv_ldc2 (v := (4294967295 : Int64)) hx hb hown (htw _ kw_421) d_L_law_282 ?_
  refine lv_land hx hb d_L_law_285 ?_
  refine lv_lor hx hb d_L_law_286 ?_
  refine x_topl (v := lN (PN (xs (10 * j + 8)) (xs (10 * j + 9)))) (PL_eq _ _) ?_
  refine x_callv (A := fun z => o ≤ z) (va_runV (As := [.int (xs (10 * j + 1)), .long (lN (PN (xs (10 * j + 2)) (xs (10 * j + 3)))), .long (lN (PN (xs (10 * j + 4)) (xs (10 * j + 5)))), .long (lN (PN (xs (10 * j + 6)) (xs (10 * j + 7)))), .long (lN (PN (xs (10 * j + 8)) (xs (10 * j + 9))))]) (rest := []) ⟨hx, hb, hml, hown, htw⟩ (m_set l D cJ cI cQ cR (o + 24) fl V hV (xs (10 * j + 1)) (PN (xs (10 * j + 2)) (xs (10 * j + 3))) (PN (xs (10 * j + 4)) (xs (10 * j + 5))) (PN (xs (10 * j + 6)) (xs (10 * j + 7))) (PN (xs (10 * j + 8)) (xs (10 * j + 9))) (PN_lt _ _) (PN_lt _ _) (PN_lt _ _) (PN_lt _ _)) (xcV 5 htw kw_312 kw_2 kw_309 kw_310 kw_311 rfl rfl ⟨by decide, by decide, by decide +kernel⟩ ⟨Nat.le_of_ble_eq_true rfl, Nat.le_of_ble_eq_true rfl⟩) (xPreV hK (hMO.1.rv hK) hMO) rfl rfl hl.1 rfl (lv_room (Nat.le_of_ble_eq_true rfl)) d_L_law_287 ⟨by show _ ≤ 644381; omega, by show _ ≤ 7162962; omega⟩) hlo (fun z h => by have := h.1; omega) (fun H2 locs2 hB2 hlo => ?_)
  have hF0 := hF0.tr hB2.1 (fun z h => by have := h.1; omega)
  have hq2 := hL_f hq1 hB2.1 (fun h => by have := h.2; omega)
  obtain ⟨V2, hV2, hCO2, hMO2⟩ : ∃ V2 : Nat → Nat, (∀ r, r < 16 → V2 r < 2 ^ 256) ∧ CO D cJ cQ o V2 H2 ∧ MO D cI cR (o + 24) x5 V2 H2 := by
    have hfr : ∀ {V9 : Nat → Nat}, CO D cJ cQ o V9 H1 → CO D cJ cQ o V9 H2 := fun h => h.f hB2.1 (fun z h1 h2 h => by have := h.1; omega)
    rcases hB1.2 with ⟨rfl, k0, g0, g1, hc⟩ | ⟨rfl, hn, hc⟩
    · rcases hB2.2 with ⟨k0', g0', g1', hm⟩ | ⟨hn', hm⟩
      · obtain rfl : k0 = k0' := nI_un g0 g0' (by decide) g1 g1'
        exact ⟨_, opv_up hV (sv_lt (PN_lt _ _) (PN_lt _ _) (PN_lt _ _) (PN_lt _ _)), hfr hc, hm⟩
      · exact absurd ⟨k0, g0, g1⟩ hn'
    · rcases hB2.2 with ⟨k0', g0', g1', hm⟩ | ⟨hn', hm⟩
      · exact absurd ⟨k0', g0', g1'⟩ hn
      · exact ⟨V, hV, hfr hc, hm⟩
  refine lv_aload_n hx hb d_L_law_290 rfl (lv_at hl 4 rfl) ?_
  refine x_calli (A := fun z => o ≤ z) (va_runV (As := []) (rest := []) ⟨hx, hb, hml, hown, htw⟩ (m_thrown l D cJ cI cQ cR (o + 24) x5) (xcV 0 htw kw_308 kw_2 kw_305 kw_306 kw_307 rfl rfl ⟨by decide, by decide, by decide +kernel⟩ ⟨Nat.le_of_ble_eq_true rfl, Nat.le_of_ble_eq_true rfl⟩) (xPreV hK (hMO2.1.rv hK) hMO2.1) rfl rfl hl.1 rfl (lv_room (Nat.le_of_ble_eq_true rfl)) d_L_law_291 ⟨by show _ ≤ 644381; omega, by show _ ≤ 7162962; omega⟩) hlo (fun _ h => h.elim) (fun x8 H8 locs8 hB8 hlo => ?_)
  obtain ⟨e8, e9⟩ := hB8
  subst e8
  rw [e9]
  refine lv_iload hx hb d_L_law_294 (lv_at hl 0 rfl) ?_
  refine lv_icmp_eq (tgt := 301) hx hb d_L_law_296 (by decide) (fun _ => ?_) (fun hc => absurd rfl hc)
  refine lv_goto (tgt := 771) hx hb d_L_law_301 (by decide) ?_
  refine lv_iinc (v := nI (10 * (j + 1))) (k := 1) hx hb d_L_law_771 hl rfl (nI_add (10 * j) 10) (by decide) rfl (fun ls hl => ?_)
  have hl : lv_has ls 8 [(4, .int (nI (10 * (j + 1)))), (5, .int x5), (0, .ref b), (1, .ref o), (2, .ref (o + 24)), (3, .ref (o + 49))] := hl
  refine lv_goto (tgt := 23) hx hb d_L_law_774 (by decide) ?_
  have hl : lv_has ls 8 [(4, .int (nI (10 * (j + 1)))), (0, .ref b), (1, .ref o), (2, .ref (o + 24)), (3, .ref (o + 49))] := lv_sub hl [0, 2, 3, 4, 5] rfl
  refine W.widen (k := 50 + 4 * (j + 1)) (n := 443 + 24 * (j + 1)) (by omega) (by omega) ?_
  exact K V2 _ _ ls hl ⟨hlo, hF0, hV2, hCO2, ⟨x5, hMO2⟩, _, hq2⟩
set_option maxHeartbeats 4000000 in
set_option maxRecDepth 100000 in
theorem law_1 {p : Program} {l : Launch} {e : Env} {s : State} {m : MethodId} {below : List Frame} {meth : Method} {c : Code} {Q : State → Prop} {D : va_G} {cJ cI cQ cR : ClassId} {sa o b L : Nat} {xs : Nat → Int32} (hC : LCt p l s m c D cJ cI cQ cR sa o b L xs) (j : Nat) (hj : 10 * j + 10 ≤ L) {V : Nat → Nat} {H : Heap} {locs : List Loc} {ls : Array Slot} (hl : lv_has ls 8 (LLt o b (10 * j))) (hS : LSt D cJ cI cQ cR s o V H locs)
    (K : ∀ (V' : Nat → Nat) (H' : Heap) (locs' : List Loc) (ls' : Array Slot), lv_has ls' 8 (LLt o b (10 * (j + 1))) → LSt D cJ cI cQ cR s o V' H' locs' → W p l e room_1 s m #[Value.ref b] below meth c H' locs' (50 + 4 * (j + 1)) (443 + 24 * (j + 1)) Q (F0 m 23 ls' [])) : W p l e room_1 s m #[Value.ref b] below meth c H locs (50 + 4 * j) (443 + 24 * j) Q (F0 m 304 ls []) := by
  obtain ⟨hx, hb, hml, hown, htw, hX, hbl, hK, hE, hst, ho, hL5⟩ := hC
  obtain ⟨hlo, hF0, hV, hCO, ⟨fl, hMO⟩, fq, hq1⟩ := hS
  have hJ : ArrOfT s cJ .long := (hK.2 0 _ rfl).1
  have hl : lv_has ls 8 [(4, .int (nI (10 * j))), (0, .ref b), (1, .ref o), (2, .ref (o + 24)), (3, .ref (o + 49))] := hl
  refine lv_aload_n hx hb d_L_law_304 rfl (lv_at hl 2 rfl) ?_
  refine lv_aload_n hx hb d_L_law_305 rfl (lv_at hl 1 rfl) ?_
  refine lv_iload hx hb d_L_law_306 (lv_at hl 0 rfl) ?_
  refine lv_iconst (v := nI 1) hx hb d_L_law_308 (by decide) ?_
  refine lv_iadd hx hb d_L_law_309 ?_
  refine x_topi (v := nI (10 * j + 1)) (nI_add _ _) ?_
  refine x_sld hx hb ho hX hbl hF0 hlo (10 * j + 1) (by omega) hL5 d_L_law_310 ?_
  refine lv_aload_n hx hb d_L_law_311 rfl (lv_at hl 1 rfl) ?_
  refine lv_iload hx hb d_L_law_312 (lv_at hl 0 rfl) ?_
  refine lv_iconst (v := nI 2) hx hb d_L_law_314 (by decide) ?_
  refine lv_iadd hx hb d_L_law_315 ?_
  refine x_topi (v := nI (10 * j + 2)) (nI_add _ _) ?_
  refine x_sld hx hb ho hX hbl hF0 hlo (10 * j + 2) (by omega) hL5 d_L_law_316 ?_
  refine lv_aload_n hx hb d_L_law_317 rfl (lv_at hl 4 rfl) ?_
  refine x_calli (A := fun z => o ≤ z) (vx_runSW (As := [.ref o, .int (xs (10 * j + 1)), .int (xs (10 * j + 2)), .ref (o + 49)]) (rest := []) ⟨hx, hb, hml, hown, htw⟩ (l_get l D cJ cI cQ cR o sa hst o V hV (xs (10 * j + 1)) (xs (10 * j + 2)) (o + 49) fq (by omega)) (vx_cwSW 4 htw (gdS kw_129 kw_127 kw_128 kw_0) rfl rfl rfl ⟨by decide, by decide, by decide +kernel⟩ ⟨Nat.le_of_ble_eq_true rfl, Nat.le_of_ble_eq_true rfl⟩) (xPreX hK hE (fun z h1 h2 => hF0.2 z h1 h2) ⟨hCO, hq1⟩) rfl rfl hl.1 rfl (lv_room (Nat.le_of_ble_eq_true rfl)) d_L_law_318 ⟨by show _ ≤ 644381; omega, by show _ ≤ 7162962; omega⟩) hlo (fun z h => LAo h) (fun x5 H1 locs1 hB1 hlo => ?_)
  have hF0 := hF0.tr hB1.1 (fun z h => LAo h)
  have hMO := hMO.f hB1.1 (fun z h1 h2 h => LAn h h1 (by omega))
  refine lv_istore hx hb d_L_law_321 hl (by decide) rfl (fun ls hl => ?_)
  have hl : lv_has ls 8 [(5, .int x5), (4, .int (nI (10 * j))), (0, .ref b), (1, .ref o), (2, .ref (o + 24)), (3, .ref (o + 49))] := hl
  refine lv_aload_n hx hb d_L_law_323 rfl (lv_at hl 4 rfl) ?_
  refine lv_aload_n hx hb d_L_law_324 rfl (lv_at hl 2 rfl) ?_
  refine lv_iload hx hb d_L_law_325 (lv_at hl 1 rfl) ?_
  refine lv_iconst (v := nI 1) hx hb d_L_law_327 (by decide) ?_
  refine lv_iadd hx hb d_L_law_328 ?_
  refine x_topi (v := nI (10 * j + 1)) (nI_add _ _) ?_
  refine x_sld hx hb ho hX hbl hF0 hlo (10 * j + 1) (by omega) hL5 d_L_law_329 ?_
  refine lv_aload_n hx hb d_L_law_330 rfl (lv_at hl 2 rfl) ?_
  refine lv_iload hx hb d_L_law_331 (lv_at hl 1 rfl) ?_
  refine lv_iconst (v := nI 2) hx hb d_L_law_333 (by decide) ?_
  refine lv_iadd hx hb d_L_law_334 ?_
  refine x_topi (v := nI (10 * j + 2)) (nI_add _ _) ?_
  refine x_sld hx hb ho hX hbl hF0 hlo (10 * j + 2) (by omega) hL5 d_L_law_335 ?_
  refine x_calll (A := fun z => o ≤ z) (va_runV (As := [.int (xs (10 * j + 1)), .int (xs (10 * j + 2))]) (rest := []) ⟨hx, hb, hml, hown, htw⟩ (m_get l D cJ cI cQ cR (o + 24) fl V hV (xs (10 * j + 1)) (xs (10 * j + 2))) (xcV 2 htw kw_320 kw_2 kw_317 kw_318 kw_319 rfl rfl ⟨by decide, by decide, by decide +kernel⟩ ⟨Nat.le_of_ble_eq_true rfl, Nat.le_of_ble_eq_true rfl⟩) (xPreV hK (hMO.1.rv hK) hMO) rfl rfl hl.1 rfl (lv_room (Nat.le_of_ble_eq_true rfl)) d_L_law_336 ⟨by show _ ≤ 644381; omega, by show _ ≤ 7162962; omega⟩) hlo (fun z h => by have := h.1; omega) (fun y6 H2 locs2 hB2 hlo => ?_)
  have hF0 := hF0.tr hB2.1 (fun z h => by have := h.1; omega)
  obtain ⟨V2, hV2, hCO2, hMO2, f2, hq2, hans⟩ : ∃ V2 : Nat → Nat, (∀ r, r < 16 → V2 r < 2 ^ 256) ∧ CO D cJ cQ o V2 H2 ∧ MO D cI cR (o + 24) x5 V2 H2 ∧ ∃ f2 : Nat → Int64, hL H2 cJ (o + 49) 1 f2 ∧ (x5 = nI 0 → f2 0 = y6) := by
    have hfr : ∀ {V9 : Nat → Nat}, CO D cJ cQ o V9 H1 → CO D cJ cQ o V9 H2 := fun h => h.f hB2.1 (fun z h1 h2 h => by have := h.1; omega)
    have hqf : ∀ {f9 : Nat → Int64}, hL H1 cJ (o + 49) 1 f9 → hL H2 cJ (o + 49) 1 f9 := fun h => hL_f h hB2.1 (fun h => by have := h.2; omega)
    rcases hB1.2 with ⟨rfl, k0, k1, g0, g1, g2, g3, hc, f9, hf9, ef9⟩ | ⟨rfl, hn, hc, f9, hf9⟩
    · rcases hB2.2 with ⟨k0', k1', g0', g1', g2', g3', ey, hm⟩ | ⟨hn', hm⟩
      · obtain rfl : k0 = k0' := nI_un g0 g0' (by decide) g1 g1'
        obtain rfl : k1 = k1' := nI_un g2 g2' (by decide) g3 g3'
        exact ⟨_, hV, hfr hc, hm, f9, hqf hf9, fun _ => by rw [ef9, ey]⟩
      · exact absurd ⟨⟨k0, g0, g1⟩, ⟨k1, g2, g3⟩⟩ hn'
    · rcases hB2.2 with ⟨k0', k1', g0', g1', g2', g3', ey, hm⟩ | ⟨hn', hm⟩
      · exact absurd ⟨⟨k0', g0', g1'⟩, ⟨k1', g2', g3'⟩⟩ hn
      · exact ⟨V, hV, hfr hc, hm, f9, hqf hf9, fun h => absurd h (by decide)⟩
  refine lv_lstore hx hb d_L_law_339 hl (by decide) rfl (fun ls hl => ?_)
  have hl : lv_has ls 8 [(6, .long y6), (5, .int x5), (4, .int (nI (10 * j))), (0, .ref b), (1, .ref o), (2, .ref (o + 24)), (3, .ref (o + 49))] := hl
  refine lv_aload_n hx hb d_L_law_341 rfl (lv_at hl 5 rfl) ?_
  refine x_calli (A := fun z => o ≤ z) (va_runV (As := []) (rest := []) ⟨hx, hb, hml, hown, htw⟩ (m_thrown l D cJ cI cQ cR (o + 24) x5) (xcV 0 htw kw_308 kw_2 kw_305 kw_306 kw_307 rfl rfl ⟨by decide, by decide, by decide +kernel⟩ ⟨Nat.le_of_ble_eq_true rfl, Nat.le_of_ble_eq_true rfl⟩) (xPreV hK (hMO2.1.rv hK) hMO2.1) rfl rfl hl.1 rfl (lv_room (Nat.le_of_ble_eq_true rfl)) d_L_law_342 ⟨by show _ ≤ 644381; omega, by show _ ≤ 7162962; omega⟩) hlo (fun _ h => h.elim) (fun x8 H8 locs8 hB8 hlo => ?_)
  obtain ⟨e8, e9⟩ := hB8
  subst e8
  rw [e9]
  refine lv_iload hx hb d_L_law_345 (lv_at hl 1 rfl) ?_
  refine lv_icmp_eq (tgt := 352) hx hb d_L_law_347 (by decide) (fun _ => ?_) (fun hc => absurd rfl hc)
  refine lv_iload hx hb d_L_law_352 (lv_at hl 1 rfl) ?_
  refine lv_if_ne (tgt := 368) hx hb d_L_law_354 (by decide) (fun _ => ?_) (fun hc => ?_)
  · refine lv_goto (tgt := 771) hx hb d_L_law_368 (by decide) ?_
    refine lv_iinc (v := nI (10 * (j + 1))) (k := 2) hx hb d_L_law_771 hl rfl (nI_add (10 * j) 10) (by decide) rfl (fun ls hl => ?_)
    have hl : lv_has ls 8 [(4, .int (nI (10 * (j + 1)))), (6, .long y6), (5, .int x5), (0, .ref b), (1, .ref o), (2, .ref (o + 24)), (3, .ref (o + 49))] := hl
    refine lv_goto (tgt := 23) hx hb d_L_law_774 (by decide) ?_
    have hl : lv_has ls 8 [(4, .int (nI (10 * (j + 1)))), (0, .ref b), (1, .ref o), (2, .ref (o + 24)), (3, .ref (o + 49))] := lv_sub hl [0, 3, 4, 5, 6] rfl
    refine W.widen (k := 50 + 4 * (j + 1)) (n := 443 + 24 * (j + 1)) (by omega) (by omega) ?_
    exact K V2 _ _ ls hl ⟨hlo, hF0, hV2, hCO2, ⟨x5, hMO2⟩, _, hq2⟩
  · have hans := hans (hc.trans nI_0.symm)
    refine lv_aload_n hx hb d_L_law_357 rfl (lv_at hl 6 rfl) ?_
    refine lv_iconst (v := nI 0) hx hb d_L_law_358 (by decide) ?_
    refine x_lald hx hb hJ hq2 (0) (rfl) (by omega) (by omega) (v := y6) (hans) d_L_law_359 ?_
    refine lv_lload hx hb d_L_law_360 (lv_at hl 0 rfl) ?_
    refine W.lcmp hx hb d_L_law_362 ?_
    refine lv_if_eq (tgt := 368) hx hb d_L_law_363 (by decide) (fun _ => ?_) (fun hc => absurd (lgs _) hc)
    refine lv_goto (tgt := 771) hx hb d_L_law_368 (by decide) ?_
    refine lv_iinc (v := nI (10 * (j + 1))) (k := 2) hx hb d_L_law_771 hl rfl (nI_add (10 * j) 10) (by decide) rfl (fun ls hl => ?_)
    have hl : lv_has ls 8 [(4, .int (nI (10 * (j + 1)))), (6, .long y6), (5, .int x5), (0, .ref b), (1, .ref o), (2, .ref (o + 24)), (3, .ref (o + 49))] := hl
    refine lv_goto (tgt := 23) hx hb d_L_law_774 (by decide) ?_
    have hl : lv_has ls 8 [(4, .int (nI (10 * (j + 1)))), (0, .ref b), (1, .ref o), (2, .ref (o + 24)), (3, .ref (o + 49))] := lv_sub hl [0, 3, 4, 5, 6] rfl
    refine W.widen (k := 50 + 4 * (j + 1)) (n := 443 + 24 * (j + 1)) (by omega) (by omega) ?_
    exact K V2 _ _ ls hl ⟨hlo, hF0, hV2, hCO2, ⟨x5, hMO2⟩, _, hq2⟩
set_option maxHeartbeats 4000000 in
set_option maxRecDepth 100000 in
theorem law_2 {p : Program} {l : Launch} {e : Env} {s : State} {m : MethodId} {below : List Frame} {meth : Method} {c : Code} {Q : State → Prop} {D : va_G} {cJ cI cQ cR : ClassId} {sa o b L : Nat} {xs : Nat → Int32} (hC : LCt p l s m c D cJ cI cQ cR sa o b L xs) (j : Nat) (hj : 10 * j + 10 ≤ L) {V : Nat → Nat} {H : Heap} {locs : List Loc} {ls : Array Slot} (hl : lv_has ls 8 (LLt o b (10 * j))) (hS : LSt D cJ cI cQ cR s o V H locs)
    (K : ∀ (V' : Nat → Nat) (H' : Heap) (locs' : List Loc) (ls' : Array Slot), lv_has ls' 8 (LLt o b (10 * (j + 1))) → LSt D cJ cI cQ cR s o V' H' locs' → W p l e room_1 s m #[Value.ref b] below meth c H' locs' (50 + 4 * (j + 1)) (443 + 24 * (j + 1)) Q (F0 m 23 ls' [])) : W p l e room_1 s m #[Value.ref b] below meth c H locs (50 + 4 * j) (443 + 24 * j) Q (F0 m 371 ls []) := by
  obtain ⟨hx, hb, hml, hown, htw, hX, hbl, hK, hE, hst, ho, hL5⟩ := hC
  obtain ⟨hlo, hF0, hV, hCO, ⟨fl, hMO⟩, fq, hq1⟩ := hS
  have hJ : ArrOfT s cJ .long := (hK.2 0 _ rfl).1
  have hl : lv_has ls 8 [(4, .int (nI (10 * j))), (0, .ref b), (1, .ref o), (2, .ref (o + 24)), (3, .ref (o + 49))] := hl
  refine lv_aload_n hx hb d_L_law_371 rfl (lv_at hl 2 rfl) ?_
  refine lv_aload_n hx hb d_L_law_372 rfl (lv_at hl 1 rfl) ?_
  refine lv_iload hx hb d_L_law_373 (lv_at hl 0 rfl) ?_
  refine lv_iconst (v := nI 1) hx hb d_L_law_375 (by decide) ?_
  refine lv_iadd hx hb d_L_law_376 ?_
  refine x_topi (v := nI (10 * j + 1)) (nI_add _ _) ?_
  refine x_sld hx hb ho hX hbl hF0 hlo (10 * j + 1) (by omega) hL5 d_L_law_377 ?_
  refine lv_aload_n hx hb d_L_law_378 rfl (lv_at hl 1 rfl) ?_
  refine lv_iload hx hb d_L_law_379 (lv_at hl 0 rfl) ?_
  refine lv_iconst (v := nI 2) hx hb d_L_law_381 (by decide) ?_
  refine lv_iadd hx hb d_L_law_382 ?_
  refine x_topi (v := nI (10 * j + 2)) (nI_add _ _) ?_
  refine x_sld hx hb ho hX hbl hF0 hlo (10 * j + 2) (by omega) hL5 d_L_law_383 ?_
  refine lv_aload_n hx hb d_L_law_384 rfl (lv_at hl 1 rfl) ?_
  refine lv_iload hx hb d_L_law_385 (lv_at hl 0 rfl) ?_
  refine lv_iconst (v := nI 3) hx hb d_L_law_387 (by decide) ?_
  refine lv_iadd hx hb d_L_law_388 ?_
  refine x_topi (v := nI (10 * j + 3)) (nI_add _ _) ?_
  refine x_sld hx hb ho hX hbl hF0 hlo (10 * j + 3) (by omega) hL5 d_L_law_389 ?_
  refine lv_aload_n hx hb d_L_law_390 rfl (lv_at hl 1 rfl) ?_
  refine lv_iload hx hb d_L_law_391 (lv_at hl 0 rfl) ?_
  refine lv_iconst (v := nI 4) hx hb d_L_law_393 (by decide) ?_
  refine lv_iadd hx hb d_L_law_394 ?_
  refine x_topi (v := nI (10 * j + 4)) (nI_add _ _) ?_
  refine x_sld hx hb ho hX hbl hF0 hlo (10 * j + 4) (by omega) hL5 d_L_law_395 ?_
  refine x_calli (A := fun z => o ≤ z) (vx_runSW (As := [.ref o, .int (xs (10 * j + 1)), .int (xs (10 * j + 2)), .int (xs (10 * j + 3)), .int (xs (10 * j + 4))]) (rest := []) ⟨hx, hb, hml, hown, htw⟩ (l_two l D cJ cI cQ cR o sa hst o V hV (xs (10 * j + 1)) (xs (10 * j + 2)) (xs (10 * j + 3)) (xs (10 * j + 4))) (vx_cwSW 5 htw (gdS kw_136 kw_134 kw_135 kw_0) rfl rfl rfl ⟨by decide, by decide, by decide +kernel⟩ ⟨Nat.le_of_ble_eq_true rfl, Nat.le_of_ble_eq_true rfl⟩) (xPreX hK hE (fun z h1 h2 => hF0.2 z h1 h2) hCO) rfl rfl hl.1 rfl (lv_room (Nat.le_of_ble_eq_true rfl)) d_L_law_396 ⟨by show _ ≤ 644381; omega, by show _ ≤ 7162962; omega⟩) hlo (fun z h => by have := h.1; omega) (fun x5 H1 locs1 hB1 hlo => ?_)
  have hF0 := hF0.tr hB1.1 (fun z h => by have := h.1; omega)
  have hMO := hMO.f hB1.1 (fun z h1 h2 h => by have := h.2; omega)
  have hq1 := hL_f hq1 hB1.1 (fun h => by have := h.2; omega)
  refine lv_istore hx hb d_L_law_399 hl (by decide) rfl (fun ls hl => ?_)
  have hl : lv_has ls 8 [(5, .int x5), (4, .int (nI (10 * j))), (0, .ref b), (1, .ref o), (2, .ref (o + 24)), (3, .ref (o + 49))] := hl
  refine lv_aload_n hx hb d_L_law_401 rfl (lv_at hl 4 rfl) ?_
  refine lv_aload_n hx hb d_L_law_402 rfl (lv_at hl 2 rfl) ?_
  refine lv_iload hx hb d_L_law_403 (lv_at hl 1 rfl) ?_
  refine lv_iconst (v := nI 1) hx hb d_L_law_405 (by decide) ?_
  refine lv_iadd hx hb d_L_law_406 ?_
  refine x_topi (v := nI (10 * j + 1)) (nI_add _ _) ?_
  refine x_sld hx hb ho hX hbl hF0 hlo (10 * j + 1) (by omega) hL5 d_L_law_407 ?_
  refine lv_aload_n hx hb d_L_law_408 rfl (lv_at hl 2 rfl) ?_
  refine lv_iload hx hb d_L_law_409 (lv_at hl 1 rfl) ?_
  refine lv_iconst (v := nI 2) hx hb d_L_law_411 (by decide) ?_
  refine lv_iadd hx hb d_L_law_412 ?_
  refine x_topi (v := nI (10 * j + 2)) (nI_add _ _) ?_
  refine x_sld hx hb ho hX hbl hF0 hlo (10 * j + 2) (by omega) hL5 d_L_law_413 ?_
  refine lv_aload_n hx hb d_L_law_414 rfl (lv_at hl 2 rfl) ?_
  refine lv_iload hx hb d_L_law_415 (lv_at hl 1 rfl) ?_
  refine lv_iconst (v := nI 3) hx hb d_L_law_417 (by decide) ?_
  refine lv_iadd hx hb d_L_law_418 ?_
  refine x_topi (v := nI (10 * j + 3)) (nI_add _ _) ?_
  refine x_sld hx hb ho hX hbl hF0 hlo (10 * j + 3) (by omega) hL5 d_L_law_419 ?_
  refine lv_aload_n hx hb d_L_law_420 rfl (lv_at hl 2 rfl) ?_
  refine lv_iload hx hb d_L_law_421 (lv_at hl 1 rfl) ?_
  refine lv_iconst (v := nI 4) hx hb d_L_law_423 (by decide) ?_
  refine lv_iadd hx hb d_L_law_424 ?_
  refine x_topi (v := nI (10 * j + 4)) (nI_add _ _) ?_
  refine x_sld hx hb ho hX hbl hF0 hlo (10 * j + 4) (by omega) hL5 d_L_law_425 ?_
  refine x_callv (A := fun z => o ≤ z) (va_runV (As := [.int (xs (10 * j + 1)), .int (xs (10 * j + 2)), .int (xs (10 * j + 3)), .int (xs (10 * j + 4))]) (rest := []) ⟨hx, hb, hml, hown, htw⟩ (m_two l D cJ cI cQ cR (o + 24) fl V hV (xs (10 * j + 1)) (xs (10 * j + 2)) (xs (10 * j + 3)) (xs (10 * j + 4))) (xcV 4 htw kw_332 kw_2 kw_329 kw_330 kw_331 rfl rfl ⟨by decide, by decide, by decide +kernel⟩ ⟨Nat.le_of_ble_eq_true rfl, Nat.le_of_ble_eq_true rfl⟩) (xPreV hK (hMO.1.rv hK) hMO) rfl rfl hl.1 rfl (lv_room (Nat.le_of_ble_eq_true rfl)) d_L_law_426 ⟨by show _ ≤ 644381; omega, by show _ ≤ 7162962; omega⟩) hlo (fun z h => by have := h.1; omega) (fun H2 locs2 hB2 hlo => ?_)
  have hF0 := hF0.tr hB2.1 (fun z h => by have := h.1; omega)
  have hq2 := hL_f hq1 hB2.1 (fun h => by have := h.2; omega)
  obtain ⟨V2, hV2, hCO2, hMO2⟩ : ∃ V2 : Nat → Nat, (∀ r, r < 16 → V2 r < 2 ^ 256) ∧ CO D cJ cQ o V2 H2 ∧ MO D cI cR (o + 24) x5 V2 H2 := by
    have hfr : ∀ {V9 : Nat → Nat}, CO D cJ cQ o V9 H1 → CO D cJ cQ o V9 H2 := fun h => h.f hB2.1 (fun z h1 h2 h => by have := h.1; omega)
    rcases hB1.2 with ⟨rfl, k0, k1, k2, k3, g0, g1, g2, g3, g4, g5, g6, g7, hc⟩ | ⟨rfl, hn, hc⟩
    · rcases hB2.2 with ⟨k0', k1', k2', k3', g0', g1', g2', g3', g4', g5', g6', g7', hm⟩ | ⟨hn', hm⟩
      · obtain rfl : k0 = k0' := nI_un g0 g0' (by decide) g1 g1'
        obtain rfl : k1 = k1' := nI_un g2 g2' (by decide) g3 g3'
        obtain rfl : k2 = k2' := nI_un g4 g4' (by decide) g5 g5'
        obtain rfl : k3 = k3' := nI_un g6 g6' (by decide) g7 g7'
        exact ⟨_, opv_up hV (opv_lt (hV _ g4) (hV _ g6)), hfr hc, hm⟩
      · exact absurd ⟨⟨k0, g0, g1⟩, ⟨k1, g2, g3⟩, ⟨k2, g4, g5⟩, ⟨k3, g6, g7⟩⟩ hn'
    · rcases hB2.2 with ⟨k0', k1', k2', k3', g0', g1', g2', g3', g4', g5', g6', g7', hm⟩ | ⟨hn', hm⟩
      · exact absurd ⟨⟨k0', g0', g1'⟩, ⟨k1', g2', g3'⟩, ⟨k2', g4', g5'⟩, ⟨k3', g6', g7'⟩⟩ hn
      · exact ⟨V, hV, hfr hc, hm⟩
  refine lv_aload_n hx hb d_L_law_429 rfl (lv_at hl 4 rfl) ?_
  refine x_calli (A := fun z => o ≤ z) (va_runV (As := []) (rest := []) ⟨hx, hb, hml, hown, htw⟩ (m_thrown l D cJ cI cQ cR (o + 24) x5) (xcV 0 htw kw_308 kw_2 kw_305 kw_306 kw_307 rfl rfl ⟨by decide, by decide, by decide +kernel⟩ ⟨Nat.le_of_ble_eq_true rfl, Nat.le_of_ble_eq_true rfl⟩) (xPreV hK (hMO2.1.rv hK) hMO2.1) rfl rfl hl.1 rfl (lv_room (Nat.le_of_ble_eq_true rfl)) d_L_law_430 ⟨by show _ ≤ 644381; omega, by show _ ≤ 7162962; omega⟩) hlo (fun _ h => h.elim) (fun x8 H8 locs8 hB8 hlo => ?_)
  obtain ⟨e8, e9⟩ := hB8
  subst e8
  rw [e9]
  refine lv_iload hx hb d_L_law_433 (lv_at hl 0 rfl) ?_
  refine lv_icmp_eq (tgt := 440) hx hb d_L_law_435 (by decide) (fun _ => ?_) (fun hc => absurd rfl hc)
  refine lv_goto (tgt := 771) hx hb d_L_law_440 (by decide) ?_
  refine lv_iinc (v := nI (10 * (j + 1))) (k := 1) hx hb d_L_law_771 hl rfl (nI_add (10 * j) 10) (by decide) rfl (fun ls hl => ?_)
  have hl : lv_has ls 8 [(4, .int (nI (10 * (j + 1)))), (5, .int x5), (0, .ref b), (1, .ref o), (2, .ref (o + 24)), (3, .ref (o + 49))] := hl
  refine lv_goto (tgt := 23) hx hb d_L_law_774 (by decide) ?_
  have hl : lv_has ls 8 [(4, .int (nI (10 * (j + 1)))), (0, .ref b), (1, .ref o), (2, .ref (o + 24)), (3, .ref (o + 49))] := lv_sub hl [0, 2, 3, 4, 5] rfl
  refine W.widen (k := 50 + 4 * (j + 1)) (n := 443 + 24 * (j + 1)) (by omega) (by omega) ?_
  exact K V2 _ _ ls hl ⟨hlo, hF0, hV2, hCO2, ⟨x5, hMO2⟩, _, hq2⟩
set_option maxHeartbeats 4000000 in
set_option maxRecDepth 100000 in
theorem law_3 {p : Program} {l : Launch} {e : Env} {s : State} {m : MethodId} {below : List Frame} {meth : Method} {c : Code} {Q : State → Prop} {D : va_G} {cJ cI cQ cR : ClassId} {sa o b L : Nat} {xs : Nat → Int32} (hC : LCt p l s m c D cJ cI cQ cR sa o b L xs) (j : Nat) (hj : 10 * j + 10 ≤ L) {V : Nat → Nat} {H : Heap} {locs : List Loc} {ls : Array Slot} (hl : lv_has ls 8 (LLt o b (10 * j))) (hS : LSt D cJ cI cQ cR s o V H locs)
    (K : ∀ (V' : Nat → Nat) (H' : Heap) (locs' : List Loc) (ls' : Array Slot), lv_has ls' 8 (LLt o b (10 * (j + 1))) → LSt D cJ cI cQ cR s o V' H' locs' → W p l e room_1 s m #[Value.ref b] below meth c H' locs' (50 + 4 * (j + 1)) (443 + 24 * (j + 1)) Q (F0 m 23 ls' [])) : W p l e room_1 s m #[Value.ref b] below meth c H locs (50 + 4 * j) (443 + 24 * j) Q (F0 m 443 ls []) := by
  obtain ⟨hx, hb, hml, hown, htw, hX, hbl, hK, hE, hst, ho, hL5⟩ := hC
  obtain ⟨hlo, hF0, hV, hCO, ⟨fl, hMO⟩, fq, hq1⟩ := hS
  have hJ : ArrOfT s cJ .long := (hK.2 0 _ rfl).1
  have hl : lv_has ls 8 [(4, .int (nI (10 * j))), (0, .ref b), (1, .ref o), (2, .ref (o + 24)), (3, .ref (o + 49))] := hl
  by_cases hz : xs (10 * j + 5) = 0
  · refine lv_aload_n hx hb d_L_law_443 rfl (lv_at hl 2 rfl) ?_
    refine lv_aload_n hx hb d_L_law_444 rfl (lv_at hl 1 rfl) ?_
    refine lv_iload hx hb d_L_law_445 (lv_at hl 0 rfl) ?_
    refine lv_iconst (v := nI 1) hx hb d_L_law_447 (by decide) ?_
    refine lv_iadd hx hb d_L_law_448 ?_
    refine x_topi (v := nI (10 * j + 1)) (nI_add _ _) ?_
    refine x_sld hx hb ho hX hbl hF0 hlo (10 * j + 1) (by omega) hL5 d_L_law_449 ?_
    refine lv_aload_n hx hb d_L_law_450 rfl (lv_at hl 1 rfl) ?_
    refine lv_iload hx hb d_L_law_451 (lv_at hl 0 rfl) ?_
    refine lv_iconst (v := nI 2) hx hb d_L_law_453 (by decide) ?_
    refine lv_iadd hx hb d_L_law_454 ?_
    refine x_topi (v := nI (10 * j + 2)) (nI_add _ _) ?_
    refine x_sld hx hb ho hX hbl hF0 hlo (10 * j + 2) (by omega) hL5 d_L_law_455 ?_
    refine lv_aload_n hx hb d_L_law_456 rfl (lv_at hl 1 rfl) ?_
    refine lv_iload hx hb d_L_law_457 (lv_at hl 0 rfl) ?_
    refine lv_iconst (v := nI 3) hx hb d_L_law_459 (by decide) ?_
    refine lv_iadd hx hb d_L_law_460 ?_
    refine x_topi (v := nI (10 * j + 3)) (nI_add _ _) ?_
    refine x_sld hx hb ho hX hbl hF0 hlo (10 * j + 3) (by omega) hL5 d_L_law_461 ?_
    refine lv_aload_n hx hb d_L_law_462 rfl (lv_at hl 1 rfl) ?_
    refine lv_iload hx hb d_L_law_463 (lv_at hl 0 rfl) ?_
    refine lv_iconst (v := nI 4) hx hb d_L_law_465 (by decide) ?_
    refine lv_iadd hx hb d_L_law_466 ?_
    refine x_topi (v := nI (10 * j + 4)) (nI_add _ _) ?_
    refine x_sld hx hb ho hX hbl hF0 hlo (10 * j + 4) (by omega) hL5 d_L_law_467 ?_
    refine lv_aload_n hx hb d_L_law_468 rfl (lv_at hl 1 rfl) ?_
    refine lv_iload hx hb d_L_law_469 (lv_at hl 0 rfl) ?_
    refine lv_iconst (v := nI 5) hx hb d_L_law_471 (by decide) ?_
    refine lv_iadd hx hb d_L_law_472 ?_
    refine x_topi (v := nI (10 * j + 5)) (nI_add _ _) ?_
    refine x_sld hx hb ho hX hbl hF0 hlo (10 * j + 5) (by omega) hL5 d_L_law_473 ?_
    refine lv_if_eq (tgt := 481) hx hb d_L_law_474 (by decide) (fun _ => ?_) (fun hc => absurd hz hc)
    refine lv_iconst (v := nI 0) hx hb d_L_law_481 (by decide) ?_
    refine x_calli (A := fun z => o ≤ z) (vx_runSW (As := [.ref o, .int (xs (10 * j + 1)), .int (xs (10 * j + 2)), .int (xs (10 * j + 3)), .int (xs (10 * j + 4)), .int (nI 0)]) (rest := []) ⟨hx, hb, hml, hown, htw⟩ (l_modular l D cJ cI cQ cR o sa hst o V hV (xs (10 * j + 1)) (xs (10 * j + 2)) (xs (10 * j + 3)) (xs (10 * j + 4)) (nI 0)) (vx_cwSW 6 htw (gdS kw_239 kw_237 kw_238 kw_0) rfl rfl rfl ⟨by decide, by decide, by decide +kernel⟩ ⟨Nat.le_of_ble_eq_true rfl, Nat.le_of_ble_eq_true rfl⟩) (xPreX hK hE (fun z h1 h2 => hF0.2 z h1 h2) hCO) rfl rfl hl.1 rfl (lv_room (Nat.le_of_ble_eq_true rfl)) d_L_law_482 ⟨by show _ ≤ 644381; omega, by show _ ≤ 7162962; omega⟩) hlo (fun z h => by have := h.1; omega) (fun x5 H1 locs1 hB1 hlo => ?_)
    have hF0 := hF0.tr hB1.1 (fun z h => by have := h.1; omega)
    have hMO := hMO.f hB1.1 (fun z h1 h2 h => by have := h.2; omega)
    have hq1 := hL_f hq1 hB1.1 (fun h => by have := h.2; omega)
    refine lv_istore hx hb d_L_law_485 hl (by decide) rfl (fun ls hl => ?_)
    have hl : lv_has ls 8 [(5, .int x5), (4, .int (nI (10 * j))), (0, .ref b), (1, .ref o), (2, .ref (o + 24)), (3, .ref (o + 49))] := hl
    refine lv_aload_n hx hb d_L_law_487 rfl (lv_at hl 4 rfl) ?_
    refine lv_aload_n hx hb d_L_law_488 rfl (lv_at hl 2 rfl) ?_
    refine lv_iload hx hb d_L_law_489 (lv_at hl 1 rfl) ?_
    refine lv_iconst (v := nI 1) hx hb d_L_law_491 (by decide) ?_
    refine lv_iadd hx hb d_L_law_492 ?_
    refine x_topi (v := nI (10 * j + 1)) (nI_add _ _) ?_
    refine x_sld hx hb ho hX hbl hF0 hlo (10 * j + 1) (by omega) hL5 d_L_law_493 ?_
    refine lv_aload_n hx hb d_L_law_494 rfl (lv_at hl 2 rfl) ?_
    refine lv_iload hx hb d_L_law_495 (lv_at hl 1 rfl) ?_
    refine lv_iconst (v := nI 2) hx hb d_L_law_497 (by decide) ?_
    refine lv_iadd hx hb d_L_law_498 ?_
    refine x_topi (v := nI (10 * j + 2)) (nI_add _ _) ?_
    refine x_sld hx hb ho hX hbl hF0 hlo (10 * j + 2) (by omega) hL5 d_L_law_499 ?_
    refine lv_aload_n hx hb d_L_law_500 rfl (lv_at hl 2 rfl) ?_
    refine lv_iload hx hb d_L_law_501 (lv_at hl 1 rfl) ?_
    refine lv_iconst (v := nI 3) hx hb d_L_law_503 (by decide) ?_
    refine lv_iadd hx hb d_L_law_504 ?_
    refine x_topi (v := nI (10 * j + 3)) (nI_add _ _) ?_
    refine x_sld hx hb ho hX hbl hF0 hlo (10 * j + 3) (by omega) hL5 d_L_law_505 ?_
    refine lv_aload_n hx hb d_L_law_506 rfl (lv_at hl 2 rfl) ?_
    refine lv_iload hx hb d_L_law_507 (lv_at hl 1 rfl) ?_
    refine lv_iconst (v := nI 4) hx hb d_L_law_509 (by decide) ?_
    refine lv_iadd hx hb d_L_law_510 ?_
    refine x_topi (v := nI (10 * j + 4)) (nI_add _ _) ?_
    refine x_sld hx hb ho hX hbl hF0 hlo (10 * j + 4) (by omega) hL5 d_L_law_511 ?_
    refine lv_aload_n hx hb d_L_law_512 rfl (lv_at hl 2 rfl) ?_
    refine lv_iload hx hb d_L_law_513 (lv_at hl 1 rfl) ?_
    refine lv_iconst (v := nI 5) hx hb d_L_law_515 (by decide) ?_
    refine lv_iadd hx hb d_L_law_516 ?_
    refine x_topi (v := nI (10 * j + 5)) (nI_add _ _) ?_
    refine x_sld hx hb ho hX hbl hF0 hlo (10 * j + 5) (by omega) hL5 d_L_law_517 ?_
    refine lv_if_eq (tgt := 525) hx hb d_L_law_518 (by decide) (fun _ => ?_) (fun hc => absurd hz hc)
    refine lv_iconst (v := nI 0) hx hb d_L_law_525 (by decide) ?_
    refine x_callv (A := fun z => o ≤ z) (va_runV (As := [.int (xs (10 * j + 1)), .int (xs (10 * j + 2)), .int (xs (10 * j + 3)), .int (xs (10 * j + 4)), .int (nI 0)]) (rest := []) ⟨hx, hb, hml, hown, htw⟩ (m_modular l D cJ cI cQ cR (o + 24) fl V hV (xs (10 * j + 1)) (xs (10 * j + 2)) (xs (10 * j + 3)) (xs (10 * j + 4)) (nI 0)) (xcV 5 htw kw_404 kw_2 kw_401 kw_402 kw_403 rfl rfl ⟨by decide, by decide, by decide +kernel⟩ ⟨Nat.le_of_ble_eq_true rfl, Nat.le_of_ble_eq_true rfl⟩) (xPreV hK (hMO.1.rv hK) hMO) rfl rfl hl.1 rfl (lv_room (Nat.le_of_ble_eq_true rfl)) d_L_law_526 ⟨by show _ ≤ 644381; omega, by show _ ≤ 7162962; omega⟩) hlo (fun z h => by have := h.1; omega) (fun H2 locs2 hB2 hlo => ?_)
    have hF0 := hF0.tr hB2.1 (fun z h => by have := h.1; omega)
    have hq2 := hL_f hq1 hB2.1 (fun h => by have := h.2; omega)
    obtain ⟨V2, hV2, hCO2, hMO2⟩ : ∃ V2 : Nat → Nat, (∀ r, r < 16 → V2 r < 2 ^ 256) ∧ CO D cJ cQ o V2 H2 ∧ MO D cI cR (o + 24) x5 V2 H2 := by
      have hfr : ∀ {V9 : Nat → Nat}, CO D cJ cQ o V9 H1 → CO D cJ cQ o V9 H2 := fun h => h.f hB2.1 (fun z h1 h2 h => by have := h.1; omega)
      rcases hB1.2 with ⟨rfl, k0, k1, k2, k3, g0, g1, g2, g3, g4, g5, g6, g7, hc⟩ | ⟨rfl, hn, hc⟩
      · rcases hB2.2 with ⟨k0', k1', k2', k3', g0', g1', g2', g3', g4', g5', g6', g7', hm⟩ | ⟨hn', hm⟩
        · obtain rfl : k0 = k0' := nI_un g0 g0' (by decide) g1 g1'
          obtain rfl : k1 = k1' := nI_un g2 g2' (by decide) g3 g3'
          obtain rfl : k2 = k2' := nI_un g4 g4' (by decide) g5 g5'
          obtain rfl : k3 = k3' := nI_un g6 g6' (by decide) g7 g7'
          exact ⟨_, opv_up hV (mdv_lt (hV _ g6)), hfr hc, hm⟩
        · exact absurd ⟨⟨k0, g0, g1⟩, ⟨k1, g2, g3⟩, ⟨k2, g4, g5⟩, ⟨k3, g6, g7⟩⟩ hn'
      · rcases hB2.2 with ⟨k0', k1', k2', k3', g0', g1', g2', g3', g4', g5', g6', g7', hm⟩ | ⟨hn', hm⟩
        · exact absurd ⟨⟨k0', g0', g1'⟩, ⟨k1', g2', g3'⟩, ⟨k2', g4', g5'⟩, ⟨k3', g6', g7'⟩⟩ hn
        · exact ⟨V, hV, hfr hc, hm⟩
    refine lv_aload_n hx hb d_L_law_529 rfl (lv_at hl 4 rfl) ?_
    refine x_calli (A := fun z => o ≤ z) (va_runV (As := []) (rest := []) ⟨hx, hb, hml, hown, htw⟩ (m_thrown l D cJ cI cQ cR (o + 24) x5) (xcV 0 htw kw_308 kw_2 kw_305 kw_306 kw_307 rfl rfl ⟨by decide, by decide, by decide +kernel⟩ ⟨Nat.le_of_ble_eq_true rfl, Nat.le_of_ble_eq_true rfl⟩) (xPreV hK (hMO2.1.rv hK) hMO2.1) rfl rfl hl.1 rfl (lv_room (Nat.le_of_ble_eq_true rfl)) d_L_law_530 ⟨by show _ ≤ 644381; omega, by show _ ≤ 7162962; omega⟩) hlo (fun _ h => h.elim) (fun x8 H8 locs8 hB8 hlo => ?_)
    obtain ⟨e8, e9⟩ := hB8
    subst e8
    rw [e9]
    refine lv_iload hx hb d_L_law_533 (lv_at hl 0 rfl) ?_
    refine lv_icmp_eq (tgt := 540) hx hb d_L_law_535 (by decide) (fun _ => ?_) (fun hc => absurd rfl hc)
    refine lv_goto (tgt := 771) hx hb d_L_law_540 (by decide) ?_
    refine lv_iinc (v := nI (10 * (j + 1))) (k := 1) hx hb d_L_law_771 hl rfl (nI_add (10 * j) 10) (by decide) rfl (fun ls hl => ?_)
    have hl : lv_has ls 8 [(4, .int (nI (10 * (j + 1)))), (5, .int x5), (0, .ref b), (1, .ref o), (2, .ref (o + 24)), (3, .ref (o + 49))] := hl
    refine lv_goto (tgt := 23) hx hb d_L_law_774 (by decide) ?_
    have hl : lv_has ls 8 [(4, .int (nI (10 * (j + 1)))), (0, .ref b), (1, .ref o), (2, .ref (o + 24)), (3, .ref (o + 49))] := lv_sub hl [0, 2, 3, 4, 5] rfl
    refine W.widen (k := 50 + 4 * (j + 1)) (n := 443 + 24 * (j + 1)) (by omega) (by omega) ?_
    exact K V2 _ _ ls hl ⟨hlo, hF0, hV2, hCO2, ⟨x5, hMO2⟩, _, hq2⟩
  · refine lv_aload_n hx hb d_L_law_443 rfl (lv_at hl 2 rfl) ?_
    refine lv_aload_n hx hb d_L_law_444 rfl (lv_at hl 1 rfl) ?_
    refine lv_iload hx hb d_L_law_445 (lv_at hl 0 rfl) ?_
    refine lv_iconst (v := nI 1) hx hb d_L_law_447 (by decide) ?_
    refine lv_iadd hx hb d_L_law_448 ?_
    refine x_topi (v := nI (10 * j + 1)) (nI_add _ _) ?_
    refine x_sld hx hb ho hX hbl hF0 hlo (10 * j + 1) (by omega) hL5 d_L_law_449 ?_
    refine lv_aload_n hx hb d_L_law_450 rfl (lv_at hl 1 rfl) ?_
    refine lv_iload hx hb d_L_law_451 (lv_at hl 0 rfl) ?_
    refine lv_iconst (v := nI 2) hx hb d_L_law_453 (by decide) ?_
    refine lv_iadd hx hb d_L_law_454 ?_
    refine x_topi (v := nI (10 * j + 2)) (nI_add _ _) ?_
    refine x_sld hx hb ho hX hbl hF0 hlo (10 * j + 2) (by omega) hL5 d_L_law_455 ?_
    refine lv_aload_n hx hb d_L_law_456 rfl (lv_at hl 1 rfl) ?_
    refine lv_iload hx hb d_L_law_457 (lv_at hl 0 rfl) ?_
    refine lv_iconst (v := nI 3) hx hb d_L_law_459 (by decide) ?_
    refine lv_iadd hx hb d_L_law_460 ?_
    refine x_topi (v := nI (10 * j + 3)) (nI_add _ _) ?_
    refine x_sld hx hb ho hX hbl hF0 hlo (10 * j + 3) (by omega) hL5 d_L_law_461 ?_
    refine lv_aload_n hx hb d_L_law_462 rfl (lv_at hl 1 rfl) ?_
    refine lv_iload hx hb d_L_law_463 (lv_at hl 0 rfl) ?_
    refine lv_iconst (v := nI 4) hx hb d_L_law_465 (by decide) ?_
    refine lv_iadd hx hb d_L_law_466 ?_
    refine x_topi (v := nI (10 * j + 4)) (nI_add _ _) ?_
    refine x_sld hx hb ho hX hbl hF0 hlo (10 * j + 4) (by omega) hL5 d_L_law_467 ?_
    refine lv_aload_n hx hb d_L_law_468 rfl (lv_at hl 1 rfl) ?_
    refine lv_iload hx hb d_L_law_469 (lv_at hl 0 rfl) ?_
    refine lv_iconst (v := nI 5) hx hb d_L_law_471 (by decide) ?_
    refine lv_iadd hx hb d_L_law_472 ?_
    refine x_topi (v := nI (10 * j + 5)) (nI_add _ _) ?_
    refine x_sld hx hb ho hX hbl hF0 hlo (10 * j + 5) (by omega) hL5 d_L_law_473 ?_
    refine lv_if_eq (tgt := 481) hx hb d_L_law_474 (by decide) (fun hc => absurd hc hz) (fun _ => ?_)
    refine lv_iconst (v := nI 1) hx hb d_L_law_477 (by decide) ?_
    refine lv_goto (tgt := 482) hx hb d_L_law_478 (by decide) ?_
    refine x_calli (A := fun z => o ≤ z) (vx_runSW (As := [.ref o, .int (xs (10 * j + 1)), .int (xs (10 * j + 2)), .int (xs (10 * j + 3)), .int (xs (10 * j + 4)), .int (nI 1)]) (rest := []) ⟨hx, hb, hml, hown, htw⟩ (l_modular l D cJ cI cQ cR o sa hst o V hV (xs (10 * j + 1)) (xs (10 * j + 2)) (xs (10 * j + 3)) (xs (10 * j + 4)) (nI 1)) (vx_cwSW 6 htw (gdS kw_239 kw_237 kw_238 kw_0) rfl rfl rfl ⟨by decide, by decide, by decide +kernel⟩ ⟨Nat.le_of_ble_eq_true rfl, Nat.le_of_ble_eq_true rfl⟩) (xPreX hK hE (fun z h1 h2 => hF0.2 z h1 h2) hCO) rfl rfl hl.1 rfl (lv_room (Nat.le_of_ble_eq_true rfl)) d_L_law_482 ⟨by show _ ≤ 644381; omega, by show _ ≤ 7162962; omega⟩) hlo (fun z h => by have := h.1; omega) (fun x5 H1 locs1 hB1 hlo => ?_)
    have hF0 := hF0.tr hB1.1 (fun z h => by have := h.1; omega)
    have hMO := hMO.f hB1.1 (fun z h1 h2 h => by have := h.2; omega)
    have hq1 := hL_f hq1 hB1.1 (fun h => by have := h.2; omega)
    refine lv_istore hx hb d_L_law_485 hl (by decide) rfl (fun ls hl => ?_)
    have hl : lv_has ls 8 [(5, .int x5), (4, .int (nI (10 * j))), (0, .ref b), (1, .ref o), (2, .ref (o + 24)), (3, .ref (o + 49))] := hl
    refine lv_aload_n hx hb d_L_law_487 rfl (lv_at hl 4 rfl) ?_
    refine lv_aload_n hx hb d_L_law_488 rfl (lv_at hl 2 rfl) ?_
    refine lv_iload hx hb d_L_law_489 (lv_at hl 1 rfl) ?_
    refine lv_iconst (v := nI 1) hx hb d_L_law_491 (by decide) ?_
    refine lv_iadd hx hb d_L_law_492 ?_
    refine x_topi (v := nI (10 * j + 1)) (nI_add _ _) ?_
    refine x_sld hx hb ho hX hbl hF0 hlo (10 * j + 1) (by omega) hL5 d_L_law_493 ?_
    refine lv_aload_n hx hb d_L_law_494 rfl (lv_at hl 2 rfl) ?_
    refine lv_iload hx hb d_L_law_495 (lv_at hl 1 rfl) ?_
    refine lv_iconst (v := nI 2) hx hb d_L_law_497 (by decide) ?_
    refine lv_iadd hx hb d_L_law_498 ?_
    refine x_topi (v := nI (10 * j + 2)) (nI_add _ _) ?_
    refine x_sld hx hb ho hX hbl hF0 hlo (10 * j + 2) (by omega) hL5 d_L_law_499 ?_
    refine lv_aload_n hx hb d_L_law_500 rfl (lv_at hl 2 rfl) ?_
    refine lv_iload hx hb d_L_law_501 (lv_at hl 1 rfl) ?_
    refine lv_iconst (v := nI 3) hx hb d_L_law_503 (by decide) ?_
    refine lv_iadd hx hb d_L_law_504 ?_
    refine x_topi (v := nI (10 * j + 3)) (nI_add _ _) ?_
    refine x_sld hx hb ho hX hbl hF0 hlo (10 * j + 3) (by omega) hL5 d_L_law_505 ?_
    refine lv_aload_n hx hb d_L_law_506 rfl (lv_at hl 2 rfl) ?_
    refine lv_iload hx hb d_L_law_507 (lv_at hl 1 rfl) ?_
    refine lv_iconst (v := nI 4) hx hb d_L_law_509 (by decide) ?_
    refine lv_iadd hx hb d_L_law_510 ?_
    refine x_topi (v := nI (10 * j + 4)) (nI_add _ _) ?_
    refine x_sld hx hb ho hX hbl hF0 hlo (10 * j + 4) (by omega) hL5 d_L_law_511 ?_
    refine lv_aload_n hx hb d_L_law_512 rfl (lv_at hl 2 rfl) ?_
    refine lv_iload hx hb d_L_law_513 (lv_at hl 1 rfl) ?_
    refine lv_iconst (v := nI 5) hx hb d_L_law_515 (by decide) ?_
    refine lv_iadd hx hb d_L_law_516 ?_
    refine x_topi (v := nI (10 * j + 5)) (nI_add _ _) ?_
    refine x_sld hx hb ho hX hbl hF0 hlo (10 * j + 5) (by omega) hL5 d_L_law_517 ?_
    refine lv_if_eq (tgt := 525) hx hb d_L_law_518 (by decide) (fun hc => absurd hc hz) (fun _ => ?_)
    refine lv_iconst (v := nI 1) hx hb d_L_law_521 (by decide) ?_
    refine lv_goto (tgt := 526) hx hb d_L_law_522 (by decide) ?_
    refine x_callv (A := fun z => o ≤ z) (va_runV (As := [.int (xs (10 * j + 1)), .int (xs (10 * j + 2)), .int (xs (10 * j + 3)), .int (xs (10 * j + 4)), .int (nI 1)]) (rest := []) ⟨hx, hb, hml, hown, htw⟩ (m_modular l D cJ cI cQ cR (o + 24) fl V hV (xs (10 * j + 1)) (xs (10 * j + 2)) (xs (10 * j + 3)) (xs (10 * j + 4)) (nI 1)) (xcV 5 htw kw_404 kw_2 kw_401 kw_402 kw_403 rfl rfl ⟨by decide, by decide, by decide +kernel⟩ ⟨Nat.le_of_ble_eq_true rfl, Nat.le_of_ble_eq_true rfl⟩) (xPreV hK (hMO.1.rv hK) hMO) rfl rfl hl.1 rfl (lv_room (Nat.le_of_ble_eq_true rfl)) d_L_law_526 ⟨by show _ ≤ 644381; omega, by show _ ≤ 7162962; omega⟩) hlo (fun z h => by have := h.1; omega) (fun H2 locs2 hB2 hlo => ?_)
    have hF0 := hF0.tr hB2.1 (fun z h => by have := h.1; omega)
    have hq2 := hL_f hq1 hB2.1 (fun h => by have := h.2; omega)
    obtain ⟨V2, hV2, hCO2, hMO2⟩ : ∃ V2 : Nat → Nat, (∀ r, r < 16 → V2 r < 2 ^ 256) ∧ CO D cJ cQ o V2 H2 ∧ MO D cI cR (o + 24) x5 V2 H2 := by
      have hfr : ∀ {V9 : Nat → Nat}, CO D cJ cQ o V9 H1 → CO D cJ cQ o V9 H2 := fun h => h.f hB2.1 (fun z h1 h2 h => by have := h.1; omega)
      rcases hB1.2 with ⟨rfl, k0, k1, k2, k3, g0, g1, g2, g3, g4, g5, g6, g7, hc⟩ | ⟨rfl, hn, hc⟩
      · rcases hB2.2 with ⟨k0', k1', k2', k3', g0', g1', g2', g3', g4', g5', g6', g7', hm⟩ | ⟨hn', hm⟩
        · obtain rfl : k0 = k0' := nI_un g0 g0' (by decide) g1 g1'
          obtain rfl : k1 = k1' := nI_un g2 g2' (by decide) g3 g3'
          obtain rfl : k2 = k2' := nI_un g4 g4' (by decide) g5 g5'
          obtain rfl : k3 = k3' := nI_un g6 g6' (by decide) g7 g7'
          exact ⟨_, opv_up hV (mdv_lt (hV _ g6)), hfr hc, hm⟩
        · exact absurd ⟨⟨k0, g0, g1⟩, ⟨k1, g2, g3⟩, ⟨k2, g4, g5⟩, ⟨k3, g6, g7⟩⟩ hn'
      · rcases hB2.2 with ⟨k0', k1', k2', k3', g0', g1', g2', g3', g4', g5', g6', g7', hm⟩ | ⟨hn', hm⟩
        · exact absurd ⟨⟨k0', g0', g1'⟩, ⟨k1', g2', g3'⟩, ⟨k2', g4', g5'⟩, ⟨k3', g6', g7'⟩⟩ hn
        · exact ⟨V, hV, hfr hc, hm⟩
    refine lv_aload_n hx hb d_L_law_529 rfl (lv_at hl 4 rfl) ?_
    refine x_calli (A := fun z => o ≤ z) (va_runV (As := []) (rest := []) ⟨hx, hb, hml, hown, htw⟩ (m_thrown l D cJ cI cQ cR (o + 24) x5) (xcV 0 htw kw_308 kw_2 kw_305 kw_306 kw_307 rfl rfl ⟨by decide, by decide, by decide +kernel⟩ ⟨Nat.le_of_ble_eq_true rfl, Nat.le_of_ble_eq_true rfl⟩) (xPreV hK (hMO2.1.rv hK) hMO2.1) rfl rfl hl.1 rfl (lv_room (Nat.le_of_ble_eq_true rfl)) d_L_law_530 ⟨by show _ ≤ 644381; omega, by show _ ≤ 7162962; omega⟩) hlo (fun _ h => h.elim) (fun x8 H8 locs8 hB8 hlo => ?_)
    obtain ⟨e8, e9⟩ := hB8
    subst e8
    rw [e9]
    refine lv_iload hx hb d_L_law_533 (lv_at hl 0 rfl) ?_
    refine lv_icmp_eq (tgt := 540) hx hb d_L_law_535 (by decide) (fun _ => ?_) (fun hc => absurd rfl hc)
    refine lv_goto (tgt := 771) hx hb d_L_law_540 (by decide) ?_
    refine lv_iinc (v := nI (10 * (j + 1))) (k := 1) hx hb d_L_law_771 hl rfl (nI_add (10 * j) 10) (by decide) rfl (fun ls hl => ?_)
    have hl : lv_has ls 8 [(4, .int (nI (10 * (j + 1)))), (5, .int x5), (0, .ref b), (1, .ref o), (2, .ref (o + 24)), (3, .ref (o + 49))] := hl
    refine lv_goto (tgt := 23) hx hb d_L_law_774 (by decide) ?_
    have hl : lv_has ls 8 [(4, .int (nI (10 * (j + 1)))), (0, .ref b), (1, .ref o), (2, .ref (o + 24)), (3, .ref (o + 49))] := lv_sub hl [0, 2, 3, 4, 5] rfl
    refine W.widen (k := 50 + 4 * (j + 1)) (n := 443 + 24 * (j + 1)) (by omega) (by omega) ?_
    exact K V2 _ _ ls hl ⟨hlo, hF0, hV2, hCO2, ⟨x5, hMO2⟩, _, hq2⟩
set_option maxHeartbeats 4000000 in
set_option maxRecDepth 100000 in
theorem law_4 {p : Program} {l : Launch} {e : Env} {s : State} {m : MethodId} {below : List Frame} {meth : Method} {c : Code} {Q : State → Prop} {D : va_G} {cJ cI cQ cR : ClassId} {sa o b L : Nat} {xs : Nat → Int32} (hC : LCt p l s m c D cJ cI cQ cR sa o b L xs) (j : Nat) (hj : 10 * j + 10 ≤ L) {V : Nat → Nat} {H : Heap} {locs : List Loc} {ls : Array Slot} (hl : lv_has ls 8 (LLt o b (10 * j))) (hS : LSt D cJ cI cQ cR s o V H locs)
    (K : ∀ (V' : Nat → Nat) (H' : Heap) (locs' : List Loc) (ls' : Array Slot), lv_has ls' 8 (LLt o b (10 * (j + 1))) → LSt D cJ cI cQ cR s o V' H' locs' → W p l e room_1 s m #[Value.ref b] below meth c H' locs' (50 + 4 * (j + 1)) (443 + 24 * (j + 1)) Q (F0 m 23 ls' [])) : W p l e room_1 s m #[Value.ref b] below meth c H locs (50 + 4 * j) (443 + 24 * j) Q (F0 m 543 ls []) := by
  obtain ⟨hx, hb, hml, hown, htw, hX, hbl, hK, hE, hst, ho, hL5⟩ := hC
  obtain ⟨hlo, hF0, hV, hCO, ⟨fl, hMO⟩, fq, hq1⟩ := hS
  have hJ : ArrOfT s cJ .long := (hK.2 0 _ rfl).1
  have hl : lv_has ls 8 [(4, .int (nI (10 * j))), (0, .ref b), (1, .ref o), (2, .ref (o + 24)), (3, .ref (o + 49))] := hl
  by_cases hz : xs (10 * j + 3) = 0
  · refine lv_aload_n hx hb d_L_law_543 rfl (lv_at hl 2 rfl) ?_
    refine lv_aload_n hx hb d_L_law_544 rfl (lv_at hl 1 rfl) ?_
    refine lv_iload hx hb d_L_law_545 (lv_at hl 0 rfl) ?_
    refine lv_iconst (v := nI 1) hx hb d_L_law_547 (by decide) ?_
    refine lv_iadd hx hb d_L_law_548 ?_
    refine x_topi (v := nI (10 * j + 1)) (nI_add _ _) ?_
    refine x_sld hx hb ho hX hbl hF0 hlo (10 * j + 1) (by omega) hL5 d_L_law_549 ?_
    refine lv_aload_n hx hb d_L_law_550 rfl (lv_at hl 1 rfl) ?_
    refine lv_iload hx hb d_L_law_551 (lv_at hl 0 rfl) ?_
    refine lv_iconst (v := nI 2) hx hb d_L_law_553 (by decide) ?_
    refine lv_iadd hx hb d_L_law_554 ?_
    refine x_topi (v := nI (10 * j + 2)) (nI_add _ _) ?_
    refine x_sld hx hb ho hX hbl hF0 hlo (10 * j + 2) (by omega) hL5 d_L_law_555 ?_
    refine lv_aload_n hx hb d_L_law_556 rfl (lv_at hl 1 rfl) ?_
    refine lv_iload hx hb d_L_law_557 (lv_at hl 0 rfl) ?_
    refine lv_iconst (v := nI 3) hx hb d_L_law_559 (by decide) ?_
    refine lv_iadd hx hb d_L_law_560 ?_
    refine x_topi (v := nI (10 * j + 3)) (nI_add _ _) ?_
    refine x_sld hx hb ho hX hbl hF0 hlo (10 * j + 3) (by omega) hL5 d_L_law_561 ?_
    refine lv_if_eq (tgt := 569) hx hb d_L_law_562 (by decide) (fun _ => ?_) (fun hc => absurd hz hc)
    refine lv_iconst (v := nI 0) hx hb d_L_law_569 (by decide) ?_
    refine x_calli (A := fun z => o ≤ z) (vx_runSW (As := [.ref o, .int (xs (10 * j + 1)), .int (xs (10 * j + 2)), .int (nI 0)]) (rest := []) ⟨hx, hb, hml, hown, htw⟩ (l_turn l D cJ cI cQ cR o sa hst o V hV (xs (10 * j + 1)) (xs (10 * j + 2)) (nI 0)) (vx_cwSW 4 htw (gdS kw_246 kw_244 kw_245 kw_0) rfl rfl rfl ⟨by decide, by decide, by decide +kernel⟩ ⟨Nat.le_of_ble_eq_true rfl, Nat.le_of_ble_eq_true rfl⟩) (xPreX hK hE (fun z h1 h2 => hF0.2 z h1 h2) hCO) rfl rfl hl.1 rfl (lv_room (Nat.le_of_ble_eq_true rfl)) d_L_law_570 ⟨by show _ ≤ 644381; omega, by show _ ≤ 7162962; omega⟩) hlo (fun z h => by have := h.1; omega) (fun x5 H1 locs1 hB1 hlo => ?_)
    have hF0 := hF0.tr hB1.1 (fun z h => by have := h.1; omega)
    have hMO := hMO.f hB1.1 (fun z h1 h2 h => by have := h.2; omega)
    have hq1 := hL_f hq1 hB1.1 (fun h => by have := h.2; omega)
    refine lv_istore hx hb d_L_law_573 hl (by decide) rfl (fun ls hl => ?_)
    have hl : lv_has ls 8 [(5, .int x5), (4, .int (nI (10 * j))), (0, .ref b), (1, .ref o), (2, .ref (o + 24)), (3, .ref (o + 49))] := hl
    refine lv_aload_n hx hb d_L_law_575 rfl (lv_at hl 4 rfl) ?_
    refine lv_aload_n hx hb d_L_law_576 rfl (lv_at hl 2 rfl) ?_
    refine lv_iload hx hb d_L_law_577 (lv_at hl 1 rfl) ?_
    refine lv_iconst (v := nI 1) hx hb d_L_law_579 (by decide) ?_
    refine lv_iadd hx hb d_L_law_580 ?_
    refine x_topi (v := nI (10 * j + 1)) (nI_add _ _) ?_
    refine x_sld hx hb ho hX hbl hF0 hlo (10 * j + 1) (by omega) hL5 d_L_law_581 ?_
    refine lv_aload_n hx hb d_L_law_582 rfl (lv_at hl 2 rfl) ?_
    refine lv_iload hx hb d_L_law_583 (lv_at hl 1 rfl) ?_
    refine lv_iconst (v := nI 2) hx hb d_L_law_585 (by decide) ?_
    refine lv_iadd hx hb d_L_law_586 ?_
    refine x_topi (v := nI (10 * j + 2)) (nI_add _ _) ?_
    refine x_sld hx hb ho hX hbl hF0 hlo (10 * j + 2) (by omega) hL5 d_L_law_587 ?_
    refine lv_aload_n hx hb d_L_law_588 rfl (lv_at hl 2 rfl) ?_
    refine lv_iload hx hb d_L_law_589 (lv_at hl 1 rfl) ?_
    refine lv_iconst (v := nI 3) hx hb d_L_law_591 (by decide) ?_
    refine lv_iadd hx hb d_L_law_592 ?_
    refine x_topi (v := nI (10 * j + 3)) (nI_add _ _) ?_
    refine x_sld hx hb ho hX hbl hF0 hlo (10 * j + 3) (by omega) hL5 d_L_law_593 ?_
    refine lv_if_eq (tgt := 601) hx hb d_L_law_594 (by decide) (fun _ => ?_) (fun hc => absurd hz hc)
    refine lv_iconst (v := nI 0) hx hb d_L_law_601 (by decide) ?_
    refine x_callv (A := fun z => o ≤ z) (va_runV (As := [.int (xs (10 * j + 1)), .int (xs (10 * j + 2)), .int (nI 0)]) (rest := []) ⟨hx, hb, hml, hown, htw⟩ (m_turn l D cJ cI cQ cR (o + 24) fl V hV (xs (10 * j + 1)) (xs (10 * j + 2)) (nI 0)) (xcV 3 htw kw_408 kw_2 kw_405 kw_406 kw_407 rfl rfl ⟨by decide, by decide, by decide +kernel⟩ ⟨Nat.le_of_ble_eq_true rfl, Nat.le_of_ble_eq_true rfl⟩) (xPreV hK (hMO.1.rv hK) hMO) rfl rfl hl.1 rfl (lv_room (Nat.le_of_ble_eq_true rfl)) d_L_law_602 ⟨by show _ ≤ 644381; omega, by show _ ≤ 7162962; omega⟩) hlo (fun z h => by have := h.1; omega) (fun H2 locs2 hB2 hlo => ?_)
    have hF0 := hF0.tr hB2.1 (fun z h => by have := h.1; omega)
    have hq2 := hL_f hq1 hB2.1 (fun h => by have := h.2; omega)
    obtain ⟨V2, hV2, hCO2, hMO2⟩ : ∃ V2 : Nat → Nat, (∀ r, r < 16 → V2 r < 2 ^ 256) ∧ CO D cJ cQ o V2 H2 ∧ MO D cI cR (o + 24) x5 V2 H2 := by
      have hfr : ∀ {V9 : Nat → Nat}, CO D cJ cQ o V9 H1 → CO D cJ cQ o V9 H2 := fun h => h.f hB2.1 (fun z h1 h2 h => by have := h.1; omega)
      rcases hB1.2 with ⟨rfl, k0, k1, g0, g1, g2, g3, hc⟩ | ⟨rfl, hn, hc⟩
      · rcases hB2.2 with ⟨k0', k1', g0', g1', g2', g3', hm⟩ | ⟨hn', hm⟩
        · obtain rfl : k0 = k0' := nI_un g0 g0' (by decide) g1 g1'
          obtain rfl : k1 = k1' := nI_un g2 g2' (by decide) g3 g3'
          exact ⟨_, opv_up hV trn_lt, hfr hc, hm⟩
        · exact absurd ⟨⟨k0, g0, g1⟩, ⟨k1, g2, g3⟩⟩ hn'
      · rcases hB2.2 with ⟨k0', k1', g0', g1', g2', g3', hm⟩ | ⟨hn', hm⟩
        · exact absurd ⟨⟨k0', g0', g1'⟩, ⟨k1', g2', g3'⟩⟩ hn
        · exact ⟨V, hV, hfr hc, hm⟩
    refine lv_aload_n hx hb d_L_law_605 rfl (lv_at hl 4 rfl) ?_
    refine x_calli (A := fun z => o ≤ z) (va_runV (As := []) (rest := []) ⟨hx, hb, hml, hown, htw⟩ (m_thrown l D cJ cI cQ cR (o + 24) x5) (xcV 0 htw kw_308 kw_2 kw_305 kw_306 kw_307 rfl rfl ⟨by decide, by decide, by decide +kernel⟩ ⟨Nat.le_of_ble_eq_true rfl, Nat.le_of_ble_eq_true rfl⟩) (xPreV hK (hMO2.1.rv hK) hMO2.1) rfl rfl hl.1 rfl (lv_room (Nat.le_of_ble_eq_true rfl)) d_L_law_606 ⟨by show _ ≤ 644381; omega, by show _ ≤ 7162962; omega⟩) hlo (fun _ h => h.elim) (fun x8 H8 locs8 hB8 hlo => ?_)
    obtain ⟨e8, e9⟩ := hB8
    subst e8
    rw [e9]
    refine lv_iload hx hb d_L_law_609 (lv_at hl 0 rfl) ?_
    refine lv_icmp_eq (tgt := 616) hx hb d_L_law_611 (by decide) (fun _ => ?_) (fun hc => absurd rfl hc)
    refine lv_goto (tgt := 771) hx hb d_L_law_616 (by decide) ?_
    refine lv_iinc (v := nI (10 * (j + 1))) (k := 1) hx hb d_L_law_771 hl rfl (nI_add (10 * j) 10) (by decide) rfl (fun ls hl => ?_)
    have hl : lv_has ls 8 [(4, .int (nI (10 * (j + 1)))), (5, .int x5), (0, .ref b), (1, .ref o), (2, .ref (o + 24)), (3, .ref (o + 49))] := hl
    refine lv_goto (tgt := 23) hx hb d_L_law_774 (by decide) ?_
    have hl : lv_has ls 8 [(4, .int (nI (10 * (j + 1)))), (0, .ref b), (1, .ref o), (2, .ref (o + 24)), (3, .ref (o + 49))] := lv_sub hl [0, 2, 3, 4, 5] rfl
    refine W.widen (k := 50 + 4 * (j + 1)) (n := 443 + 24 * (j + 1)) (by omega) (by omega) ?_
    exact K V2 _ _ ls hl ⟨hlo, hF0, hV2, hCO2, ⟨x5, hMO2⟩, _, hq2⟩
  · refine lv_aload_n hx hb d_L_law_543 rfl (lv_at hl 2 rfl) ?_
    refine lv_aload_n hx hb d_L_law_544 rfl (lv_at hl 1 rfl) ?_
    refine lv_iload hx hb d_L_law_545 (lv_at hl 0 rfl) ?_
    refine lv_iconst (v := nI 1) hx hb d_L_law_547 (by decide) ?_
    refine lv_iadd hx hb d_L_law_548 ?_
    refine x_topi (v := nI (10 * j + 1)) (nI_add _ _) ?_
    refine x_sld hx hb ho hX hbl hF0 hlo (10 * j + 1) (by omega) hL5 d_L_law_549 ?_
    refine lv_aload_n hx hb d_L_law_550 rfl (lv_at hl 1 rfl) ?_
    refine lv_iload hx hb d_L_law_551 (lv_at hl 0 rfl) ?_
    refine lv_iconst (v := nI 2) hx hb d_L_law_553 (by decide) ?_
    refine lv_iadd hx hb d_L_law_554 ?_
    refine x_topi (v := nI (10 * j + 2)) (nI_add _ _) ?_
    refine x_sld hx hb ho hX hbl hF0 hlo (10 * j + 2) (by omega) hL5 d_L_law_555 ?_
    refine lv_aload_n hx hb d_L_law_556 rfl (lv_at hl 1 rfl) ?_
    refine lv_iload hx hb d_L_law_557 (lv_at hl 0 rfl) ?_
    refine lv_iconst (v := nI 3) hx hb d_L_law_559 (by decide) ?_
    refine lv_iadd hx hb d_L_law_560 ?_
    refine x_topi (v := nI (10 * j + 3)) (nI_add _ _) ?_
    refine x_sld hx hb ho hX hbl hF0 hlo (10 * j + 3) (by omega) hL5 d_L_law_561 ?_
    refine lv_if_eq (tgt := 569) hx hb d_L_law_562 (by decide) (fun hc => absurd hc hz) (fun _ => ?_)
    refine lv_iconst (v := nI 1) hx hb d_L_law_565 (by decide) ?_
    refine lv_goto (tgt := 570) hx hb d_L_law_566 (by decide) ?_
    refine x_calli (A := fun z => o ≤ z) (vx_runSW (As := [.ref o, .int (xs (10 * j + 1)), .int (xs (10 * j + 2)), .int (nI 1)]) (rest := []) ⟨hx, hb, hml, hown, htw⟩ (l_turn l D cJ cI cQ cR o sa hst o V hV (xs (10 * j + 1)) (xs (10 * j + 2)) (nI 1)) (vx_cwSW 4 htw (gdS kw_246 kw_244 kw_245 kw_0) rfl rfl rfl ⟨by decide, by decide, by decide +kernel⟩ ⟨Nat.le_of_ble_eq_true rfl, Nat.le_of_ble_eq_true rfl⟩) (xPreX hK hE (fun z h1 h2 => hF0.2 z h1 h2) hCO) rfl rfl hl.1 rfl (lv_room (Nat.le_of_ble_eq_true rfl)) d_L_law_570 ⟨by show _ ≤ 644381; omega, by show _ ≤ 7162962; omega⟩) hlo (fun z h => by have := h.1; omega) (fun x5 H1 locs1 hB1 hlo => ?_)
    have hF0 := hF0.tr hB1.1 (fun z h => by have := h.1; omega)
    have hMO := hMO.f hB1.1 (fun z h1 h2 h => by have := h.2; omega)
    have hq1 := hL_f hq1 hB1.1 (fun h => by have := h.2; omega)
    refine lv_istore hx hb d_L_law_573 hl (by decide) rfl (fun ls hl => ?_)
    have hl : lv_has ls 8 [(5, .int x5), (4, .int (nI (10 * j))), (0, .ref b), (1, .ref o), (2, .ref (o + 24)), (3, .ref (o + 49))] := hl
    refine lv_aload_n hx hb d_L_law_575 rfl (lv_at hl 4 rfl) ?_
    refine lv_aload_n hx hb d_L_law_576 rfl (lv_at hl 2 rfl) ?_
    refine lv_iload hx hb d_L_law_577 (lv_at hl 1 rfl) ?_
    refine lv_iconst (v := nI 1) hx hb d_L_law_579 (by decide) ?_
    refine lv_iadd hx hb d_L_law_580 ?_
    refine x_topi (v := nI (10 * j + 1)) (nI_add _ _) ?_
    refine x_sld hx hb ho hX hbl hF0 hlo (10 * j + 1) (by omega) hL5 d_L_law_581 ?_
    refine lv_aload_n hx hb d_L_law_582 rfl (lv_at hl 2 rfl) ?_
    refine lv_iload hx hb d_L_law_583 (lv_at hl 1 rfl) ?_
    refine lv_iconst (v := nI 2) hx hb d_L_law_585 (by decide) ?_
    refine lv_iadd hx hb d_L_law_586 ?_
    refine x_topi (v := nI (10 * j + 2)) (nI_add _ _) ?_
    refine x_sld hx hb ho hX hbl hF0 hlo (10 * j + 2) (by omega) hL5 d_L_law_587 ?_
    refine lv_aload_n hx hb d_L_law_588 rfl (lv_at hl 2 rfl) ?_
    refine lv_iload hx hb d_L_law_589 (lv_at hl 1 rfl) ?_
    refine lv_iconst (v := nI 3) hx hb d_L_law_591 (by decide) ?_
    refine lv_iadd hx hb d_L_law_592 ?_
    refine x_topi (v := nI (10 * j + 3)) (nI_add _ _) ?_
    refine x_sld hx hb ho hX hbl hF0 hlo (10 * j + 3) (by omega) hL5 d_L_law_593 ?_
    refine lv_if_eq (tgt := 601) hx hb d_L_law_594 (by decide) (fun hc => absurd hc hz) (fun _ => ?_)
    refine lv_iconst (v := nI 1) hx hb d_L_law_597 (by decide) ?_
    refine lv_goto (tgt := 602) hx hb d_L_law_598 (by decide) ?_
    refine x_callv (A := fun z => o ≤ z) (va_runV (As := [.int (xs (10 * j + 1)), .int (xs (10 * j + 2)), .int (nI 1)]) (rest := []) ⟨hx, hb, hml, hown, htw⟩ (m_turn l D cJ cI cQ cR (o + 24) fl V hV (xs (10 * j + 1)) (xs (10 * j + 2)) (nI 1)) (xcV 3 htw kw_408 kw_2 kw_405 kw_406 kw_407 rfl rfl ⟨by decide, by decide, by decide +kernel⟩ ⟨Nat.le_of_ble_eq_true rfl, Nat.le_of_ble_eq_true rfl⟩) (xPreV hK (hMO.1.rv hK) hMO) rfl rfl hl.1 rfl (lv_room (Nat.le_of_ble_eq_true rfl)) d_L_law_602 ⟨by show _ ≤ 644381; omega, by show _ ≤ 7162962; omega⟩) hlo (fun z h => by have := h.1; omega) (fun H2 locs2 hB2 hlo => ?_)
    have hF0 := hF0.tr hB2.1 (fun z h => by have := h.1; omega)
    have hq2 := hL_f hq1 hB2.1 (fun h => by have := h.2; omega)
    obtain ⟨V2, hV2, hCO2, hMO2⟩ : ∃ V2 : Nat → Nat, (∀ r, r < 16 → V2 r < 2 ^ 256) ∧ CO D cJ cQ o V2 H2 ∧ MO D cI cR (o + 24) x5 V2 H2 := by
      have hfr : ∀ {V9 : Nat → Nat}, CO D cJ cQ o V9 H1 → CO D cJ cQ o V9 H2 := fun h => h.f hB2.1 (fun z h1 h2 h => by have := h.1; omega)
      rcases hB1.2 with ⟨rfl, k0, k1, g0, g1, g2, g3, hc⟩ | ⟨rfl, hn, hc⟩
      · rcases hB2.2 with ⟨k0', k1', g0', g1', g2', g3', hm⟩ | ⟨hn', hm⟩
        · obtain rfl : k0 = k0' := nI_un g0 g0' (by decide) g1 g1'
          obtain rfl : k1 = k1' := nI_un g2 g2' (by decide) g3 g3'
          exact ⟨_, opv_up hV trn_lt, hfr hc, hm⟩
        · exact absurd ⟨⟨k0, g0, g1⟩, ⟨k1, g2, g3⟩⟩ hn'
      · rcases hB2.2 with ⟨k0', k1', g0', g1', g2', g3', hm⟩ | ⟨hn', hm⟩
        · exact absurd ⟨⟨k0', g0', g1'⟩, ⟨k1', g2', g3'⟩⟩ hn
        · exact ⟨V, hV, hfr hc, hm⟩
    refine lv_aload_n hx hb d_L_law_605 rfl (lv_at hl 4 rfl) ?_
    refine x_calli (A := fun z => o ≤ z) (va_runV (As := []) (rest := []) ⟨hx, hb, hml, hown, htw⟩ (m_thrown l D cJ cI cQ cR (o + 24) x5) (xcV 0 htw kw_308 kw_2 kw_305 kw_306 kw_307 rfl rfl ⟨by decide, by decide, by decide +kernel⟩ ⟨Nat.le_of_ble_eq_true rfl, Nat.le_of_ble_eq_true rfl⟩) (xPreV hK (hMO2.1.rv hK) hMO2.1) rfl rfl hl.1 rfl (lv_room (Nat.le_of_ble_eq_true rfl)) d_L_law_606 ⟨by show _ ≤ 644381; omega, by show _ ≤ 7162962; omega⟩) hlo (fun _ h => h.elim) (fun x8 H8 locs8 hB8 hlo => ?_)
    obtain ⟨e8, e9⟩ := hB8
    subst e8
    rw [e9]
    refine lv_iload hx hb d_L_law_609 (lv_at hl 0 rfl) ?_
    refine lv_icmp_eq (tgt := 616) hx hb d_L_law_611 (by decide) (fun _ => ?_) (fun hc => absurd rfl hc)
    refine lv_goto (tgt := 771) hx hb d_L_law_616 (by decide) ?_
    refine lv_iinc (v := nI (10 * (j + 1))) (k := 1) hx hb d_L_law_771 hl rfl (nI_add (10 * j) 10) (by decide) rfl (fun ls hl => ?_)
    have hl : lv_has ls 8 [(4, .int (nI (10 * (j + 1)))), (5, .int x5), (0, .ref b), (1, .ref o), (2, .ref (o + 24)), (3, .ref (o + 49))] := hl
    refine lv_goto (tgt := 23) hx hb d_L_law_774 (by decide) ?_
    have hl : lv_has ls 8 [(4, .int (nI (10 * (j + 1)))), (0, .ref b), (1, .ref o), (2, .ref (o + 24)), (3, .ref (o + 49))] := lv_sub hl [0, 2, 3, 4, 5] rfl
    refine W.widen (k := 50 + 4 * (j + 1)) (n := 443 + 24 * (j + 1)) (by omega) (by omega) ?_
    exact K V2 _ _ ls hl ⟨hlo, hF0, hV2, hCO2, ⟨x5, hMO2⟩, _, hq2⟩
set_option maxHeartbeats 4000000 in
set_option maxRecDepth 100000 in
theorem law_5 {p : Program} {l : Launch} {e : Env} {s : State} {m : MethodId} {below : List Frame} {meth : Method} {c : Code} {Q : State → Prop} {D : va_G} {cJ cI cQ cR : ClassId} {sa o b L : Nat} {xs : Nat → Int32} (hC : LCt p l s m c D cJ cI cQ cR sa o b L xs) (j : Nat) (hj : 10 * j + 10 ≤ L) {V : Nat → Nat} {H : Heap} {locs : List Loc} {ls : Array Slot} (hl : lv_has ls 8 (LLt o b (10 * j))) (hS : LSt D cJ cI cQ cR s o V H locs)
    (K : ∀ (V' : Nat → Nat) (H' : Heap) (locs' : List Loc) (ls' : Array Slot), lv_has ls' 8 (LLt o b (10 * (j + 1))) → LSt D cJ cI cQ cR s o V' H' locs' → W p l e room_1 s m #[Value.ref b] below meth c H' locs' (50 + 4 * (j + 1)) (443 + 24 * (j + 1)) Q (F0 m 23 ls' [])) : W p l e room_1 s m #[Value.ref b] below meth c H locs (50 + 4 * j) (443 + 24 * j) Q (F0 m 619 ls []) := by
  obtain ⟨hx, hb, hml, hown, htw, hX, hbl, hK, hE, hst, ho, hL5⟩ := hC
  obtain ⟨hlo, hF0, hV, hCO, ⟨fl, hMO⟩, fq, hq1⟩ := hS
  have hJ : ArrOfT s cJ .long := (hK.2 0 _ rfl).1
  have hl : lv_has ls 8 [(4, .int (nI (10 * j))), (0, .ref b), (1, .ref o), (2, .ref (o + 24)), (3, .ref (o + 49))] := hl
  by_cases hz : xs (10 * j + 3) = 0
  · refine lv_aload_n hx hb d_L_law_619 rfl (lv_at hl 2 rfl) ?_
    refine lv_aload_n hx hb d_L_law_620 rfl (lv_at hl 1 rfl) ?_
    refine lv_iload hx hb d_L_law_621 (lv_at hl 0 rfl) ?_
    refine lv_iconst (v := nI 1) hx hb d_L_law_623 (by decide) ?_
    refine lv_iadd hx hb d_L_law_624 ?_
    refine x_topi (v := nI (10 * j + 1)) (nI_add _ _) ?_
    refine x_sld hx hb ho hX hbl hF0 hlo (10 * j + 1) (by omega) hL5 d_L_law_625 ?_
    refine lv_aload_n hx hb d_L_law_626 rfl (lv_at hl 1 rfl) ?_
    refine lv_iload hx hb d_L_law_627 (lv_at hl 0 rfl) ?_
    refine lv_iconst (v := nI 2) hx hb d_L_law_629 (by decide) ?_
    refine lv_iadd hx hb d_L_law_630 ?_
    refine x_topi (v := nI (10 * j + 2)) (nI_add _ _) ?_
    refine x_sld hx hb ho hX hbl hF0 hlo (10 * j + 2) (by omega) hL5 d_L_law_631 ?_
    refine lv_aload_n hx hb d_L_law_632 rfl (lv_at hl 1 rfl) ?_
    refine lv_iload hx hb d_L_law_633 (lv_at hl 0 rfl) ?_
    refine lv_iconst (v := nI 3) hx hb d_L_law_635 (by decide) ?_
    refine lv_iadd hx hb d_L_law_636 ?_
    refine x_topi (v := nI (10 * j + 3)) (nI_add _ _) ?_
    refine x_sld hx hb ho hX hbl hF0 hlo (10 * j + 3) (by omega) hL5 d_L_law_637 ?_
    refine lv_if_eq (tgt := 645) hx hb d_L_law_638 (by decide) (fun _ => ?_) (fun hc => absurd hz hc)
    refine lv_iconst (v := nI 0) hx hb d_L_law_645 (by decide) ?_
    refine lv_aload_n hx hb d_L_law_646 rfl (lv_at hl 4 rfl) ?_
    refine x_calli (A := fun z => o ≤ z) (vx_runSW (As := [.ref o, .int (xs (10 * j + 1)), .int (xs (10 * j + 2)), .int (nI 0), .ref (o + 49)]) (rest := []) ⟨hx, hb, hml, hown, htw⟩ (l_compare l D cJ cI cQ cR o sa hst o V hV (xs (10 * j + 1)) (xs (10 * j + 2)) (nI 0) (o + 49) fq (by omega)) (vx_cwSW 5 htw (gdS kw_256 kw_254 kw_255 kw_0) rfl rfl rfl ⟨by decide, by decide, by decide +kernel⟩ ⟨Nat.le_of_ble_eq_true rfl, Nat.le_of_ble_eq_true rfl⟩) (xPreX hK hE (fun z h1 h2 => hF0.2 z h1 h2) ⟨hCO, hq1⟩) rfl rfl hl.1 rfl (lv_room (Nat.le_of_ble_eq_true rfl)) d_L_law_647 ⟨by show _ ≤ 644381; omega, by show _ ≤ 7162962; omega⟩) hlo (fun z h => LAo h) (fun x5 H1 locs1 hB1 hlo => ?_)
    have hF0 := hF0.tr hB1.1 (fun z h => LAo h)
    have hMO := hMO.f hB1.1 (fun z h1 h2 h => LAn h h1 (by omega))
    refine lv_istore hx hb d_L_law_650 hl (by decide) rfl (fun ls hl => ?_)
    have hl : lv_has ls 8 [(5, .int x5), (4, .int (nI (10 * j))), (0, .ref b), (1, .ref o), (2, .ref (o + 24)), (3, .ref (o + 49))] := hl
    refine lv_aload_n hx hb d_L_law_652 rfl (lv_at hl 4 rfl) ?_
    refine lv_aload_n hx hb d_L_law_653 rfl (lv_at hl 2 rfl) ?_
    refine lv_iload hx hb d_L_law_654 (lv_at hl 1 rfl) ?_
    refine lv_iconst (v := nI 1) hx hb d_L_law_656 (by decide) ?_
    refine lv_iadd hx hb d_L_law_657 ?_
    refine x_topi (v := nI (10 * j + 1)) (nI_add _ _) ?_
    refine x_sld hx hb ho hX hbl hF0 hlo (10 * j + 1) (by omega) hL5 d_L_law_658 ?_
    refine lv_aload_n hx hb d_L_law_659 rfl (lv_at hl 2 rfl) ?_
    refine lv_iload hx hb d_L_law_660 (lv_at hl 1 rfl) ?_
    refine lv_iconst (v := nI 2) hx hb d_L_law_662 (by decide) ?_
    refine lv_iadd hx hb d_L_law_663 ?_
    refine x_topi (v := nI (10 * j + 2)) (nI_add _ _) ?_
    refine x_sld hx hb ho hX hbl hF0 hlo (10 * j + 2) (by omega) hL5 d_L_law_664 ?_
    refine lv_aload_n hx hb d_L_law_665 rfl (lv_at hl 2 rfl) ?_
    refine lv_iload hx hb d_L_law_666 (lv_at hl 1 rfl) ?_
    refine lv_iconst (v := nI 3) hx hb d_L_law_668 (by decide) ?_
    refine lv_iadd hx hb d_L_law_669 ?_
    refine x_topi (v := nI (10 * j + 3)) (nI_add _ _) ?_
    refine x_sld hx hb ho hX hbl hF0 hlo (10 * j + 3) (by omega) hL5 d_L_law_670 ?_
    refine lv_if_eq (tgt := 678) hx hb d_L_law_671 (by decide) (fun _ => ?_) (fun hc => absurd hz hc)
    refine lv_iconst (v := nI 0) hx hb d_L_law_678 (by decide) ?_
    refine x_calli (A := fun z => o ≤ z) (va_runV (As := [.int (xs (10 * j + 1)), .int (xs (10 * j + 2)), .int (nI 0)]) (rest := []) ⟨hx, hb, hml, hown, htw⟩ (m_compare l D cJ cI cQ cR (o + 24) fl V hV (xs (10 * j + 1)) (xs (10 * j + 2)) (nI 0)) (xcV 3 htw kw_412 kw_2 kw_409 kw_410 kw_411 rfl rfl ⟨by decide, by decide, by decide +kernel⟩ ⟨Nat.le_of_ble_eq_true rfl, Nat.le_of_ble_eq_true rfl⟩) (xPreV hK (hMO.1.rv hK) hMO) rfl rfl hl.1 rfl (lv_room (Nat.le_of_ble_eq_true rfl)) d_L_law_679 ⟨by show _ ≤ 644381; omega, by show _ ≤ 7162962; omega⟩) hlo (fun z h => by have := h.1; omega) (fun y6 H2 locs2 hB2 hlo => ?_)
    have hF0 := hF0.tr hB2.1 (fun z h => by have := h.1; omega)
    obtain ⟨V2, hV2, hCO2, hMO2, f2, hq2, hans⟩ : ∃ V2 : Nat → Nat, (∀ r, r < 16 → V2 r < 2 ^ 256) ∧ CO D cJ cQ o V2 H2 ∧ MO D cI cR (o + 24) x5 V2 H2 ∧ ∃ f2 : Nat → Int64, hL H2 cJ (o + 49) 1 f2 ∧ (x5 = nI 0 → f2 0 = y6.toInt64) := by
      have hfr : ∀ {V9 : Nat → Nat}, CO D cJ cQ o V9 H1 → CO D cJ cQ o V9 H2 := fun h => h.f hB2.1 (fun z h1 h2 h => by have := h.1; omega)
      have hqf : ∀ {f9 : Nat → Int64}, hL H1 cJ (o + 49) 1 f9 → hL H2 cJ (o + 49) 1 f9 := fun h => hL_f h hB2.1 (fun h => by have := h.2; omega)
      rcases hB1.2 with ⟨rfl, k0, k1, g0, g1, g2, g3, hc, f9, hf9, ef9⟩ | ⟨rfl, hn, hc, f9, hf9⟩
      · rcases hB2.2 with ⟨k0', k1', g0', g1', g2', g3', ey, hm⟩ | ⟨hn', hm⟩
        · obtain rfl : k0 = k0' := nI_un g0 g0' (by decide) g1 g1'
          obtain rfl : k1 = k1' := nI_un g2 g2' (by decide) g3 g3'
          exact ⟨_, hV, hfr hc, hm, f9, hqf hf9, fun _ => by rw [ef9, ey]⟩
        · exact absurd ⟨⟨k0, g0, g1⟩, ⟨k1, g2, g3⟩⟩ hn'
      · rcases hB2.2 with ⟨k0', k1', g0', g1', g2', g3', ey, hm⟩ | ⟨hn', hm⟩
        · exact absurd ⟨⟨k0', g0', g1'⟩, ⟨k1', g2', g3'⟩⟩ hn
        · exact ⟨V, hV, hfr hc, hm, f9, hqf hf9, fun h => absurd h (by decide)⟩
    refine lv_istore hx hb d_L_law_682 hl (by decide) rfl (fun ls hl => ?_)
    have hl : lv_has ls 8 [(6, .int y6), (5, .int x5), (4, .int (nI (10 * j))), (0, .ref b), (1, .ref o), (2, .ref (o + 24)), (3, .ref (o + 49))] := hl
    refine lv_aload_n hx hb d_L_law_684 rfl (lv_at hl 5 rfl) ?_
    refine x_calli (A := fun z => o ≤ z) (va_runV (As := []) (rest := []) ⟨hx, hb, hml, hown, htw⟩ (m_thrown l D cJ cI cQ cR (o + 24) x5) (xcV 0 htw kw_308 kw_2 kw_305 kw_306 kw_307 rfl rfl ⟨by decide, by decide, by decide +kernel⟩ ⟨Nat.le_of_ble_eq_true rfl, Nat.le_of_ble_eq_true rfl⟩) (xPreV hK (hMO2.1.rv hK) hMO2.1) rfl rfl hl.1 rfl (lv_room (Nat.le_of_ble_eq_true rfl)) d_L_law_685 ⟨by show _ ≤ 644381; omega, by show _ ≤ 7162962; omega⟩) hlo (fun _ h => h.elim) (fun x8 H8 locs8 hB8 hlo => ?_)
    obtain ⟨e8, e9⟩ := hB8
    subst e8
    rw [e9]
    refine lv_iload hx hb d_L_law_688 (lv_at hl 1 rfl) ?_
    refine lv_icmp_eq (tgt := 695) hx hb d_L_law_690 (by decide) (fun _ => ?_) (fun hc => absurd rfl hc)
    refine lv_iload hx hb d_L_law_695 (lv_at hl 1 rfl) ?_
    refine lv_if_ne (tgt := 712) hx hb d_L_law_697 (by decide) (fun _ => ?_) (fun hc => ?_)
    · refine lv_goto (tgt := 771) hx hb d_L_law_712 (by decide) ?_
      refine lv_iinc (v := nI (10 * (j + 1))) (k := 2) hx hb d_L_law_771 hl rfl (nI_add (10 * j) 10) (by decide) rfl (fun ls hl => ?_)
      have hl : lv_has ls 8 [(4, .int (nI (10 * (j + 1)))), (6, .int y6), (5, .int x5), (0, .ref b), (1, .ref o), (2, .ref (o + 24)), (3, .ref (o + 49))] := hl
      refine lv_goto (tgt := 23) hx hb d_L_law_774 (by decide) ?_
      have hl : lv_has ls 8 [(4, .int (nI (10 * (j + 1)))), (0, .ref b), (1, .ref o), (2, .ref (o + 24)), (3, .ref (o + 49))] := lv_sub hl [0, 3, 4, 5, 6] rfl
      refine W.widen (k := 50 + 4 * (j + 1)) (n := 443 + 24 * (j + 1)) (by omega) (by omega) ?_
      exact K V2 _ _ ls hl ⟨hlo, hF0, hV2, hCO2, ⟨x5, hMO2⟩, _, hq2⟩
    · have hans := hans (hc.trans nI_0.symm)
      refine lv_aload_n hx hb d_L_law_700 rfl (lv_at hl 6 rfl) ?_
      refine lv_iconst (v := nI 0) hx hb d_L_law_701 (by decide) ?_
      refine x_lald hx hb hJ hq2 (0) (rfl) (by omega) (by omega) (v := y6.toInt64) (hans) d_L_law_702 ?_
      refine lv_iload hx hb d_L_law_703 (lv_at hl 0 rfl) ?_
      refine lv_i2l (v := y6.toInt64) hx hb d_L_law_705 (rfl) ?_
      refine W.lcmp hx hb d_L_law_706 ?_
      refine lv_if_eq (tgt := 712) hx hb d_L_law_707 (by decide) (fun _ => ?_) (fun hc => absurd (lgs _) hc)
      refine lv_goto (tgt := 771) hx hb d_L_law_712 (by decide) ?_
      refine lv_iinc (v := nI (10 * (j + 1))) (k := 2) hx hb d_L_law_771 hl rfl (nI_add (10 * j) 10) (by decide) rfl (fun ls hl => ?_)
      have hl : lv_has ls 8 [(4, .int (nI (10 * (j + 1)))), (6, .int y6), (5, .int x5), (0, .ref b), (1, .ref o), (2, .ref (o + 24)), (3, .ref (o + 49))] := hl
      refine lv_goto (tgt := 23) hx hb d_L_law_774 (by decide) ?_
      have hl : lv_has ls 8 [(4, .int (nI (10 * (j + 1)))), (0, .ref b), (1, .ref o), (2, .ref (o + 24)), (3, .ref (o + 49))] := lv_sub hl [0, 3, 4, 5, 6] rfl
      refine W.widen (k := 50 + 4 * (j + 1)) (n := 443 + 24 * (j + 1)) (by omega) (by omega) ?_
      exact K V2 _ _ ls hl ⟨hlo, hF0, hV2, hCO2, ⟨x5, hMO2⟩, _, hq2⟩
  · refine lv_aload_n hx hb d_L_law_619 rfl (lv_at hl 2 rfl) ?_
    refine lv_aload_n hx hb d_L_law_620 rfl (lv_at hl 1 rfl) ?_
    refine lv_iload hx hb d_L_law_621 (lv_at hl 0 rfl) ?_
    refine lv_iconst (v := nI 1) hx hb d_L_law_623 (by decide) ?_
    refine lv_iadd hx hb d_L_law_624 ?_
    refine x_topi (v := nI (10 * j + 1)) (nI_add _ _) ?_
    refine x_sld hx hb ho hX hbl hF0 hlo (10 * j + 1) (by omega) hL5 d_L_law_625 ?_
    refine lv_aload_n hx hb d_L_law_626 rfl (lv_at hl 1 rfl) ?_
    refine lv_iload hx hb d_L_law_627 (lv_at hl 0 rfl) ?_
    refine lv_iconst (v := nI 2) hx hb d_L_law_629 (by decide) ?_
    refine lv_iadd hx hb d_L_law_630 ?_
    refine x_topi (v := nI (10 * j + 2)) (nI_add _ _) ?_
    refine x_sld hx hb ho hX hbl hF0 hlo (10 * j + 2) (by omega) hL5 d_L_law_631 ?_
    refine lv_aload_n hx hb d_L_law_632 rfl (lv_at hl 1 rfl) ?_
    refine lv_iload hx hb d_L_law_633 (lv_at hl 0 rfl) ?_
    refine lv_iconst (v := nI 3) hx hb d_L_law_635 (by decide) ?_
    refine lv_iadd hx hb d_L_law_636 ?_
    refine x_topi (v := nI (10 * j + 3)) (nI_add _ _) ?_
    refine x_sld hx hb ho hX hbl hF0 hlo (10 * j + 3) (by omega) hL5 d_L_law_637 ?_
    refine lv_if_eq (tgt := 645) hx hb d_L_law_638 (by decide) (fun hc => absurd hc hz) (fun _ => ?_)
    refine lv_iconst (v := nI 1) hx hb d_L_law_641 (by decide) ?_
    refine lv_goto (tgt := 646) hx hb d_L_law_642 (by decide) ?_
    refine lv_aload_n hx hb d_L_law_646 rfl (lv_at hl 4 rfl) ?_
    refine x_calli (A := fun z => o ≤ z) (vx_runSW (As := [.ref o, .int (xs (10 * j + 1)), .int (xs (10 * j + 2)), .int (nI 1), .ref (o + 49)]) (rest := []) ⟨hx, hb, hml, hown, htw⟩ (l_compare l D cJ cI cQ cR o sa hst o V hV (xs (10 * j + 1)) (xs (10 * j + 2)) (nI 1) (o + 49) fq (by omega)) (vx_cwSW 5 htw (gdS kw_256 kw_254 kw_255 kw_0) rfl rfl rfl ⟨by decide, by decide, by decide +kernel⟩ ⟨Nat.le_of_ble_eq_true rfl, Nat.le_of_ble_eq_true rfl⟩) (xPreX hK hE (fun z h1 h2 => hF0.2 z h1 h2) ⟨hCO, hq1⟩) rfl rfl hl.1 rfl (lv_room (Nat.le_of_ble_eq_true rfl)) d_L_law_647 ⟨by show _ ≤ 644381; omega, by show _ ≤ 7162962; omega⟩) hlo (fun z h => LAo h) (fun x5 H1 locs1 hB1 hlo => ?_)
    have hF0 := hF0.tr hB1.1 (fun z h => LAo h)
    have hMO := hMO.f hB1.1 (fun z h1 h2 h => LAn h h1 (by omega))
    refine lv_istore hx hb d_L_law_650 hl (by decide) rfl (fun ls hl => ?_)
    have hl : lv_has ls 8 [(5, .int x5), (4, .int (nI (10 * j))), (0, .ref b), (1, .ref o), (2, .ref (o + 24)), (3, .ref (o + 49))] := hl
    refine lv_aload_n hx hb d_L_law_652 rfl (lv_at hl 4 rfl) ?_
    refine lv_aload_n hx hb d_L_law_653 rfl (lv_at hl 2 rfl) ?_
    refine lv_iload hx hb d_L_law_654 (lv_at hl 1 rfl) ?_
    refine lv_iconst (v := nI 1) hx hb d_L_law_656 (by decide) ?_
    refine lv_iadd hx hb d_L_law_657 ?_
    refine x_topi (v := nI (10 * j + 1)) (nI_add _ _) ?_
    refine x_sld hx hb ho hX hbl hF0 hlo (10 * j + 1) (by omega) hL5 d_L_law_658 ?_
    refine lv_aload_n hx hb d_L_law_659 rfl (lv_at hl 2 rfl) ?_
    refine lv_iload hx hb d_L_law_660 (lv_at hl 1 rfl) ?_
    refine lv_iconst (v := nI 2) hx hb d_L_law_662 (by decide) ?_
    refine lv_iadd hx hb d_L_law_663 ?_
    refine x_topi (v := nI (10 * j + 2)) (nI_add _ _) ?_
    refine x_sld hx hb ho hX hbl hF0 hlo (10 * j + 2) (by omega) hL5 d_L_law_664 ?_
    refine lv_aload_n hx hb d_L_law_665 rfl (lv_at hl 2 rfl) ?_
    refine lv_iload hx hb d_L_law_666 (lv_at hl 1 rfl) ?_
    refine lv_iconst (v := nI 3) hx hb d_L_law_668 (by decide) ?_
    refine lv_iadd hx hb d_L_law_669 ?_
    refine x_topi (v := nI (10 * j + 3)) (nI_add _ _) ?_
    refine x_sld hx hb ho hX hbl hF0 hlo (10 * j + 3) (by omega) hL5 d_L_law_670 ?_
    refine lv_if_eq (tgt := 678) hx hb d_L_law_671 (by decide) (fun hc => absurd hc hz) (fun _ => ?_)
    refine lv_iconst (v := nI 1) hx hb d_L_law_674 (by decide) ?_
    refine lv_goto (tgt := 679) hx hb d_L_law_675 (by decide) ?_
    refine x_calli (A := fun z => o ≤ z) (va_runV (As := [.int (xs (10 * j + 1)), .int (xs (10 * j + 2)), .int (nI 1)]) (rest := []) ⟨hx, hb, hml, hown, htw⟩ (m_compare l D cJ cI cQ cR (o + 24) fl V hV (xs (10 * j + 1)) (xs (10 * j + 2)) (nI 1)) (xcV 3 htw kw_412 kw_2 kw_409 kw_410 kw_411 rfl rfl ⟨by decide, by decide, by decide +kernel⟩ ⟨Nat.le_of_ble_eq_true rfl, Nat.le_of_ble_eq_true rfl⟩) (xPreV hK (hMO.1.rv hK) hMO) rfl rfl hl.1 rfl (lv_room (Nat.le_of_ble_eq_true rfl)) d_L_law_679 ⟨by show _ ≤ 644381; omega, by show _ ≤ 7162962; omega⟩) hlo (fun z h => by have := h.1; omega) (fun y6 H2 locs2 hB2 hlo => ?_)
    have hF0 := hF0.tr hB2.1 (fun z h => by have := h.1; omega)
    obtain ⟨V2, hV2, hCO2, hMO2, f2, hq2, hans⟩ : ∃ V2 : Nat → Nat, (∀ r, r < 16 → V2 r < 2 ^ 256) ∧ CO D cJ cQ o V2 H2 ∧ MO D cI cR (o + 24) x5 V2 H2 ∧ ∃ f2 : Nat → Int64, hL H2 cJ (o + 49) 1 f2 ∧ (x5 = nI 0 → f2 0 = y6.toInt64) := by
      have hfr : ∀ {V9 : Nat → Nat}, CO D cJ cQ o V9 H1 → CO D cJ cQ o V9 H2 := fun h => h.f hB2.1 (fun z h1 h2 h => by have := h.1; omega)
      have hqf : ∀ {f9 : Nat → Int64}, hL H1 cJ (o + 49) 1 f9 → hL H2 cJ (o + 49) 1 f9 := fun h => hL_f h hB2.1 (fun h => by have := h.2; omega)
      rcases hB1.2 with ⟨rfl, k0, k1, g0, g1, g2, g3, hc, f9, hf9, ef9⟩ | ⟨rfl, hn, hc, f9, hf9⟩
      · rcases hB2.2 with ⟨k0', k1', g0', g1', g2', g3', ey, hm⟩ | ⟨hn', hm⟩
        · obtain rfl : k0 = k0' := nI_un g0 g0' (by decide) g1 g1'
          obtain rfl : k1 = k1' := nI_un g2 g2' (by decide) g3 g3'
          exact ⟨_, hV, hfr hc, hm, f9, hqf hf9, fun _ => by rw [ef9, ey]⟩
        · exact absurd ⟨⟨k0, g0, g1⟩, ⟨k1, g2, g3⟩⟩ hn'
      · rcases hB2.2 with ⟨k0', k1', g0', g1', g2', g3', ey, hm⟩ | ⟨hn', hm⟩
        · exact absurd ⟨⟨k0', g0', g1'⟩, ⟨k1', g2', g3'⟩⟩ hn
        · exact ⟨V, hV, hfr hc, hm, f9, hqf hf9, fun h => absurd h (by decide)⟩
    refine lv_istore hx hb d_L_law_682 hl (by decide) rfl (fun ls hl => ?_)
    have hl : lv_has ls 8 [(6, .int y6), (5, .int x5), (4, .int (nI (10 * j))), (0, .ref b), (1, .ref o), (2, .ref (o + 24)), (3, .ref (o + 49))] := hl
    refine lv_aload_n hx hb d_L_law_684 rfl (lv_at hl 5 rfl) ?_
    refine x_calli (A := fun z => o ≤ z) (va_runV (As := []) (rest := []) ⟨hx, hb, hml, hown, htw⟩ (m_thrown l D cJ cI cQ cR (o + 24) x5) (xcV 0 htw kw_308 kw_2 kw_305 kw_306 kw_307 rfl rfl ⟨by decide, by decide, by decide +kernel⟩ ⟨Nat.le_of_ble_eq_true rfl, Nat.le_of_ble_eq_true rfl⟩) (xPreV hK (hMO2.1.rv hK) hMO2.1) rfl rfl hl.1 rfl (lv_room (Nat.le_of_ble_eq_true rfl)) d_L_law_685 ⟨by show _ ≤ 644381; omega, by show _ ≤ 7162962; omega⟩) hlo (fun _ h => h.elim) (fun x8 H8 locs8 hB8 hlo => ?_)
    obtain ⟨e8, e9⟩ := hB8
    subst e8
    rw [e9]
    refine lv_iload hx hb d_L_law_688 (lv_at hl 1 rfl) ?_
    refine lv_icmp_eq (tgt := 695) hx hb d_L_law_690 (by decide) (fun _ => ?_) (fun hc => absurd rfl hc)
    refine lv_iload hx hb d_L_law_695 (lv_at hl 1 rfl) ?_
    refine lv_if_ne (tgt := 712) hx hb d_L_law_697 (by decide) (fun _ => ?_) (fun hc => ?_)
    · refine lv_goto (tgt := 771) hx hb d_L_law_712 (by decide) ?_
      refine lv_iinc (v := nI (10 * (j + 1))) (k := 2) hx hb d_L_law_771 hl rfl (nI_add (10 * j) 10) (by decide) rfl (fun ls hl => ?_)
      have hl : lv_has ls 8 [(4, .int (nI (10 * (j + 1)))), (6, .int y6), (5, .int x5), (0, .ref b), (1, .ref o), (2, .ref (o + 24)), (3, .ref (o + 49))] := hl
      refine lv_goto (tgt := 23) hx hb d_L_law_774 (by decide) ?_
      have hl : lv_has ls 8 [(4, .int (nI (10 * (j + 1)))), (0, .ref b), (1, .ref o), (2, .ref (o + 24)), (3, .ref (o + 49))] := lv_sub hl [0, 3, 4, 5, 6] rfl
      refine W.widen (k := 50 + 4 * (j + 1)) (n := 443 + 24 * (j + 1)) (by omega) (by omega) ?_
      exact K V2 _ _ ls hl ⟨hlo, hF0, hV2, hCO2, ⟨x5, hMO2⟩, _, hq2⟩
    · have hans := hans (hc.trans nI_0.symm)
      refine lv_aload_n hx hb d_L_law_700 rfl (lv_at hl 6 rfl) ?_
      refine lv_iconst (v := nI 0) hx hb d_L_law_701 (by decide) ?_
      refine x_lald hx hb hJ hq2 (0) (rfl) (by omega) (by omega) (v := y6.toInt64) (hans) d_L_law_702 ?_
      refine lv_iload hx hb d_L_law_703 (lv_at hl 0 rfl) ?_
      refine lv_i2l (v := y6.toInt64) hx hb d_L_law_705 (rfl) ?_
      refine W.lcmp hx hb d_L_law_706 ?_
      refine lv_if_eq (tgt := 712) hx hb d_L_law_707 (by decide) (fun _ => ?_) (fun hc => absurd (lgs _) hc)
      refine lv_goto (tgt := 771) hx hb d_L_law_712 (by decide) ?_
      refine lv_iinc (v := nI (10 * (j + 1))) (k := 2) hx hb d_L_law_771 hl rfl (nI_add (10 * j) 10) (by decide) rfl (fun ls hl => ?_)
      have hl : lv_has ls 8 [(4, .int (nI (10 * (j + 1)))), (6, .int y6), (5, .int x5), (0, .ref b), (1, .ref o), (2, .ref (o + 24)), (3, .ref (o + 49))] := hl
      refine lv_goto (tgt := 23) hx hb d_L_law_774 (by decide) ?_
      have hl : lv_has ls 8 [(4, .int (nI (10 * (j + 1)))), (0, .ref b), (1, .ref o), (2, .ref (o + 24)), (3, .ref (o + 49))] := lv_sub hl [0, 3, 4, 5, 6] rfl
      refine W.widen (k := 50 + 4 * (j + 1)) (n := 443 + 24 * (j + 1)) (by omega) (by omega) ?_
      exact K V2 _ _ ls hl ⟨hlo, hF0, hV2, hCO2, ⟨x5, hMO2⟩, _, hq2⟩
set_option maxHeartbeats 4000000 in
set_option maxRecDepth 100000 in
theorem law_6 {p : Program} {l : Launch} {e : Env} {s : State} {m : MethodId} {below : List Frame} {meth : Method} {c : Code} {Q : State → Prop} {D : va_G} {cJ cI cQ cR : ClassId} {sa o b L : Nat} {xs : Nat → Int32} (hC : LCt p l s m c D cJ cI cQ cR sa o b L xs) (j : Nat) (hj : 10 * j + 10 ≤ L) {V : Nat → Nat} {H : Heap} {locs : List Loc} {ls : Array Slot} (hl : lv_has ls 8 (LLt o b (10 * j))) (hS : LSt D cJ cI cQ cR s o V H locs)
    (K : ∀ (V' : Nat → Nat) (H' : Heap) (locs' : List Loc) (ls' : Array Slot), lv_has ls' 8 (LLt o b (10 * (j + 1))) → LSt D cJ cI cQ cR s o V' H' locs' → W p l e room_1 s m #[Value.ref b] below meth c H' locs' (50 + 4 * (j + 1)) (443 + 24 * (j + 1)) Q (F0 m 23 ls' [])) : W p l e room_1 s m #[Value.ref b] below meth c H locs (50 + 4 * j) (443 + 24 * j) Q (F0 m 715 ls []) := by
  obtain ⟨hx, hb, hml, hown, htw, hX, hbl, hK, hE, hst, ho, hL5⟩ := hC
  obtain ⟨hlo, hF0, hV, hCO, ⟨fl, hMO⟩, fq, hq1⟩ := hS
  have hJ : ArrOfT s cJ .long := (hK.2 0 _ rfl).1
  have hl : lv_has ls 8 [(4, .int (nI (10 * j))), (0, .ref b), (1, .ref o), (2, .ref (o + 24)), (3, .ref (o + 49))] := hl
  refine lv_aload_n hx hb d_L_law_715 rfl (lv_at hl 2 rfl) ?_
  refine lv_aload_n hx hb d_L_law_716 rfl (lv_at hl 1 rfl) ?_
  refine lv_iload hx hb d_L_law_717 (lv_at hl 0 rfl) ?_
  refine lv_iconst (v := nI 1) hx hb d_L_law_719 (by decide) ?_
  refine lv_iadd hx hb d_L_law_720 ?_
  refine x_topi (v := nI (10 * j + 1)) (nI_add _ _) ?_
  refine x_sld hx hb ho hX hbl hF0 hlo (10 * j + 1) (by omega) hL5 d_L_law_721 ?_
  refine lv_aload_n hx hb d_L_law_722 rfl (lv_at hl 4 rfl) ?_
  refine x_calli (A := fun z => o ≤ z) (vx_runSW (As := [.ref o, .int (xs (10 * j + 1)), .ref (o + 49)]) (rest := []) ⟨hx, hb, hml, hown, htw⟩ (l_bytes l D cJ cI cQ cR o sa hst o V hV (xs (10 * j + 1)) (o + 49) fq (by omega)) (vx_cwSW 3 htw (gdS kw_263 kw_261 kw_262 kw_0) rfl rfl rfl ⟨by decide, by decide, by decide +kernel⟩ ⟨Nat.le_of_ble_eq_true rfl, Nat.le_of_ble_eq_true rfl⟩) (xPreX hK hE (fun z h1 h2 => hF0.2 z h1 h2) ⟨hCO, hq1⟩) rfl rfl hl.1 rfl (lv_room (Nat.le_of_ble_eq_true rfl)) d_L_law_723 ⟨by show _ ≤ 644381; omega, by show _ ≤ 7162962; omega⟩) hlo (fun z h => LAo h) (fun x5 H1 locs1 hB1 hlo => ?_)
  have hF0 := hF0.tr hB1.1 (fun z h => LAo h)
  have hMO := hMO.f hB1.1 (fun z h1 h2 h => LAn h h1 (by omega))
  refine lv_istore hx hb d_L_law_726 hl (by decide) rfl (fun ls hl => ?_)
  have hl : lv_has ls 8 [(5, .int x5), (4, .int (nI (10 * j))), (0, .ref b), (1, .ref o), (2, .ref (o + 24)), (3, .ref (o + 49))] := hl
  refine lv_aload_n hx hb d_L_law_728 rfl (lv_at hl 4 rfl) ?_
  refine lv_aload_n hx hb d_L_law_729 rfl (lv_at hl 2 rfl) ?_
  refine lv_iload hx hb d_L_law_730 (lv_at hl 1 rfl) ?_
  refine lv_iconst (v := nI 1) hx hb d_L_law_732 (by decide) ?_
  refine lv_iadd hx hb d_L_law_733 ?_
  refine x_topi (v := nI (10 * j + 1)) (nI_add _ _) ?_
  refine x_sld hx hb ho hX hbl hF0 hlo (10 * j + 1) (by omega) hL5 d_L_law_734 ?_
  refine x_calli (A := fun z => o ≤ z) (va_runV (As := [.int (xs (10 * j + 1))]) (rest := []) ⟨hx, hb, hml, hown, htw⟩ (m_bytes l D cJ cI cQ cR (o + 24) fl V hV (xs (10 * j + 1))) (xcV 1 htw kw_420 kw_2 kw_417 kw_418 kw_419 rfl rfl ⟨by decide, by decide, by decide +kernel⟩ ⟨Nat.le_of_ble_eq_true rfl, Nat.le_of_ble_eq_true rfl⟩) (xPreV hK (hMO.1.rv hK) hMO) rfl rfl hl.1 rfl (lv_room (Nat.le_of_ble_eq_true rfl)) d_L_law_735 ⟨by show _ ≤ 644381; omega, by show _ ≤ 7162962; omega⟩) hlo (fun z h => by have := h.1; omega) (fun y6 H2 locs2 hB2 hlo => ?_)
  have hF0 := hF0.tr hB2.1 (fun z h => by have := h.1; omega)
  obtain ⟨V2, hV2, hCO2, hMO2, f2, hq2, hans⟩ : ∃ V2 : Nat → Nat, (∀ r, r < 16 → V2 r < 2 ^ 256) ∧ CO D cJ cQ o V2 H2 ∧ MO D cI cR (o + 24) x5 V2 H2 ∧ ∃ f2 : Nat → Int64, hL H2 cJ (o + 49) 1 f2 ∧ (x5 = nI 0 → f2 0 = y6.toInt64) := by
    have hfr : ∀ {V9 : Nat → Nat}, CO D cJ cQ o V9 H1 → CO D cJ cQ o V9 H2 := fun h => h.f hB2.1 (fun z h1 h2 h => by have := h.1; omega)
    have hqf : ∀ {f9 : Nat → Int64}, hL H1 cJ (o + 49) 1 f9 → hL H2 cJ (o + 49) 1 f9 := fun h => hL_f h hB2.1 (fun h => by have := h.2; omega)
    rcases hB1.2 with ⟨rfl, k0, n0, g0, g1, gb, hc, f9, hf9, ef9⟩ | ⟨rfl, hn, hc, f9, hf9⟩
    · rcases hB2.2 with ⟨k1, n1, g3, g4, ey, gb1, _, hm⟩ | ⟨hn', hm⟩
      · obtain rfl : k0 = k1 := nI_un g0 g3 (by decide) g1 g4
        obtain rfl : n0 = n1 := byv_un gb gb1
        exact ⟨_, hV, hfr hc, hm, f9, hqf hf9, fun _ => by rw [ef9, ey]⟩
      · exact absurd ⟨k0, g0, g1⟩ hn'
    · rcases hB2.2 with ⟨k1, n1, g3, g4, ey, gb1, _, hm⟩ | ⟨hn', hm⟩
      · exact absurd ⟨k1, g3, g4⟩ hn
      · exact ⟨V, hV, hfr hc, hm, f9, hqf hf9, fun h => absurd h (by decide)⟩
  refine lv_istore hx hb d_L_law_738 hl (by decide) rfl (fun ls hl => ?_)
  have hl : lv_has ls 8 [(6, .int y6), (5, .int x5), (4, .int (nI (10 * j))), (0, .ref b), (1, .ref o), (2, .ref (o + 24)), (3, .ref (o + 49))] := hl
  refine lv_aload_n hx hb d_L_law_740 rfl (lv_at hl 5 rfl) ?_
  refine x_calli (A := fun z => o ≤ z) (va_runV (As := []) (rest := []) ⟨hx, hb, hml, hown, htw⟩ (m_thrown l D cJ cI cQ cR (o + 24) x5) (xcV 0 htw kw_308 kw_2 kw_305 kw_306 kw_307 rfl rfl ⟨by decide, by decide, by decide +kernel⟩ ⟨Nat.le_of_ble_eq_true rfl, Nat.le_of_ble_eq_true rfl⟩) (xPreV hK (hMO2.1.rv hK) hMO2.1) rfl rfl hl.1 rfl (lv_room (Nat.le_of_ble_eq_true rfl)) d_L_law_741 ⟨by show _ ≤ 644381; omega, by show _ ≤ 7162962; omega⟩) hlo (fun _ h => h.elim) (fun x8 H8 locs8 hB8 hlo => ?_)
  obtain ⟨e8, e9⟩ := hB8
  subst e8
  rw [e9]
  refine lv_iload hx hb d_L_law_744 (lv_at hl 1 rfl) ?_
  refine lv_icmp_eq (tgt := 751) hx hb d_L_law_746 (by decide) (fun _ => ?_) (fun hc => absurd rfl hc)
  refine lv_iload hx hb d_L_law_751 (lv_at hl 1 rfl) ?_
  refine lv_if_ne (tgt := 768) hx hb d_L_law_753 (by decide) (fun _ => ?_) (fun hc => ?_)
  · refine lv_goto (tgt := 771) hx hb d_L_law_768 (by decide) ?_
    refine lv_iinc (v := nI (10 * (j + 1))) (k := 2) hx hb d_L_law_771 hl rfl (nI_add (10 * j) 10) (by decide) rfl (fun ls hl => ?_)
    have hl : lv_has ls 8 [(4, .int (nI (10 * (j + 1)))), (6, .int y6), (5, .int x5), (0, .ref b), (1, .ref o), (2, .ref (o + 24)), (3, .ref (o + 49))] := hl
    refine lv_goto (tgt := 23) hx hb d_L_law_774 (by decide) ?_
    have hl : lv_has ls 8 [(4, .int (nI (10 * (j + 1)))), (0, .ref b), (1, .ref o), (2, .ref (o + 24)), (3, .ref (o + 49))] := lv_sub hl [0, 3, 4, 5, 6] rfl
    refine W.widen (k := 50 + 4 * (j + 1)) (n := 443 + 24 * (j + 1)) (by omega) (by omega) ?_
    exact K V2 _ _ ls hl ⟨hlo, hF0, hV2, hCO2, ⟨x5, hMO2⟩, _, hq2⟩
  · have hans := hans (hc.trans nI_0.symm)
    refine lv_aload_n hx hb d_L_law_756 rfl (lv_at hl 6 rfl) ?_
    refine lv_iconst (v := nI 0) hx hb d_L_law_757 (by decide) ?_
    refine x_lald hx hb hJ hq2 (0) (rfl) (by omega) (by omega) (v := y6.toInt64) (hans) d_L_law_758 ?_
    refine lv_iload hx hb d_L_law_759 (lv_at hl 0 rfl) ?_
    refine lv_i2l (v := y6.toInt64) hx hb d_L_law_761 (rfl) ?_
    refine W.lcmp hx hb d_L_law_762 ?_
    refine lv_if_eq (tgt := 768) hx hb d_L_law_763 (by decide) (fun _ => ?_) (fun hc => absurd (lgs _) hc)
    refine lv_goto (tgt := 771) hx hb d_L_law_768 (by decide) ?_
    refine lv_iinc (v := nI (10 * (j + 1))) (k := 2) hx hb d_L_law_771 hl rfl (nI_add (10 * j) 10) (by decide) rfl (fun ls hl => ?_)
    have hl : lv_has ls 8 [(4, .int (nI (10 * (j + 1)))), (6, .int y6), (5, .int x5), (0, .ref b), (1, .ref o), (2, .ref (o + 24)), (3, .ref (o + 49))] := hl
    refine lv_goto (tgt := 23) hx hb d_L_law_774 (by decide) ?_
    have hl : lv_has ls 8 [(4, .int (nI (10 * (j + 1)))), (0, .ref b), (1, .ref o), (2, .ref (o + 24)), (3, .ref (o + 49))] := lv_sub hl [0, 3, 4, 5, 6] rfl
    refine W.widen (k := 50 + 4 * (j + 1)) (n := 443 + 24 * (j + 1)) (by omega) (by omega) ?_
    exact K V2 _ _ ls hl ⟨hlo, hF0, hV2, hCO2, ⟨x5, hMO2⟩, _, hq2⟩
