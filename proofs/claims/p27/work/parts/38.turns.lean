set_option maxRecDepth 100000 in
set_option maxHeartbeats 8000000 in
theorem tn_0 {p : Program} {l : Launch} {e : Env} {R : Room} {s : State} {m : MethodId} {args : Array Value} {below : List Frame} {meth : Method} {c : Code} {H : Heap} {locs : List Loc} {cells slots : Nat} {Q : State → Prop} {g : gT} {S : gSt} {ls : Array Slot} {b u2 u3 N : Nat} {xs : Nat → Int32} (C0 : Ct p s m args c g RL cL_law 24) (hfl : l.stackTraces = false) (hX : va_X b 260 xs s s.heap) (hxs : ∀ k : Nat, k < 260 → xs k = 9) (hbl : b < s.heap.size) (hbA : ¬ oA g b) (hR : R.frames = 11 ∧ R.locals = 410) (hcs : cells + 1 ≤ R.cells ∧ slots + 6 ≤ R.slots) (F : Fr S 0 0) (hH : Hp g S s H locs) (hN : N ≤ H.size) (hl : lv_has ls 24 [(0, .ref b), (1, .ref (g.1 0)), (2, .ref u2), (3, .ref u3), (4, .int (iI 0)), (5, .int (iI 0)), (6, .int (iI 1)), (7, .int (iI 260)), (8, .int (iI 0))])
    (kk : ∀ (S9 : gSt) (H9 : Heap) (locs9 : List Loc) (ls9 : Array Slot), Fr S9 1 0 → Hp g S9 s H9 locs9 → N ≤ H9.size → lv_has ls9 24 [(0, .ref b), (1, .ref (g.1 0)), (2, .ref u2), (3, .ref u3), (4, .int (iI 0)), (5, .int (iI 0)), (6, .int (iI 1)), (7, .int (iI 260)), (8, .int (iI 1))] → W p l e R s m args below meth c H9 locs9 cells slots Q (F0 m 73 ls9 [])) : W p l e R s m args below meth c H locs cells slots Q (F0 m 73 ls []) := by
  have zx := C0.1
  have zb := C0.2.1
  refine lv_iload zx zb dL_law_73 (lv_at hl 8 rfl) ?_
  refine lv_iload zx zb dL_law_75 (lv_at hl 7 rfl) ?_
  refine bq_ge (tgt := 1362) zx zb dL_law_77 (by decide) ⟨by omega, by omega⟩ ⟨by omega, by omega⟩ (fun zq => absurd zq (by omega)) (fun _ => ?_)
  refine lv_iload zx zb dL_law_80 (lv_at hl 6 rfl) ?_
  refine bz_eq (tgt := 1362) zx zb dL_law_82 (by decide) ⟨by omega, by omega⟩ (fun zq => absurd zq (by omega)) (fun _ => ?_)
  refine lv_iload zx zb dL_law_85 (lv_at hl 8 rfl) ?_
  refine lv_aload_n zx zb dL_law_87 rfl (lv_at hl 0 rfl) ?_
  refine va_slen zx zb hX hbl hbA hH.2 dL_law_88 ?_
  rw [show Int32.ofNat 260 = iI 260 by decide]
  refine bq_ge (tgt := 99) zx zb dL_law_89 (by decide) ⟨by omega, by omega⟩ ⟨by omega, by omega⟩ (fun zq => absurd zq (by omega)) (fun _ => ?_)
  refine lv_aload_n zx zb dL_law_92 rfl (lv_at hl 0 rfl) ?_
  refine lv_iload zx zb dL_law_93 (lv_at hl 8 rfl) ?_
  refine slG C0 hX hbl hbA (by decide) hH (by omega) (by omega) dL_law_95 ?_
  rw [show (xs (0 : Int).toNat).toInt = 9 by rw [hxs _ (by omega)]; rfl]
  refine lv_goto (tgt := 116) zx zb dL_law_96 (by decide) ?_
  refine lv_istore (lv' := [(9, .int (iI 9)), (0, .ref b), (1, .ref (g.1 0)), (2, .ref u2), (3, .ref u3), (4, .int (iI 0)), (5, .int (iI 0)), (6, .int (iI 1)), (7, .int (iI 260)), (8, .int (iI 0))]) zx zb dL_law_116 hl (by decide) rfl (fun ls hl => ?_)
  refine lv_iload zx zb dL_law_118 (lv_at hl 0 rfl) ?_
  refine bi_const (n := 4) zx zb dL_law_120 ?_
  refine bs_shr (r := 0) zx zb dL_law_121 (by decide) ?_
  refine bi_ldc (n := 268435455) zx zb C0.2.2.2.1 (C0.2.2.2.2.1.w (gm 588 (by decide +kernel) rfl)) dL_law_122 ?_
  refine bs_and (r := 0) zx zb dL_law_124 (by decide) ?_
  refine lv_istore (lv' := [(10, .int (iI 0)), (9, .int (iI 9)), (0, .ref b), (1, .ref (g.1 0)), (2, .ref u2), (3, .ref u3), (4, .int (iI 0)), (5, .int (iI 0)), (6, .int (iI 1)), (7, .int (iI 260)), (8, .int (iI 0))]) zx zb dL_law_125 hl (by decide) rfl (fun ls hl => ?_)
  refine lv_iload zx zb dL_law_127 (lv_at hl 10 rfl) ?_
  refine bi_bip (n := 6) zx zb dL_law_129 (by decide) ?_
  refine bq_ge (tgt := 138) zx zb dL_law_131 (by decide) ⟨by omega, by omega⟩ ⟨by omega, by omega⟩ (fun zq => absurd zq (by omega)) (fun _ => ?_)
  refine bi_const (n := 0) zx zb dL_law_134 ?_
  refine lv_goto (tgt := 154) zx zb dL_law_135 (by decide) ?_
  refine lv_istore (lv' := [(11, .int (iI 0)), (10, .int (iI 0)), (9, .int (iI 9)), (0, .ref b), (1, .ref (g.1 0)), (2, .ref u2), (3, .ref u3), (4, .int (iI 0)), (5, .int (iI 0)), (6, .int (iI 1)), (7, .int (iI 260)), (8, .int (iI 0))]) zx zb dL_law_154 hl (by decide) rfl (fun ls hl => ?_)
  refine lv_aload_n zx zb dL_law_156 rfl (lv_at hl 4 rfl) ?_
  refine cvZ (r' := 0) (rest := []) (As := []) (b := g.1 0) C0 hH hN (k_X6_stars l g S F) rfl kw_L_27 ky_X6_stars ⟨by have := hR.1; omega, by have := hR.2; omega⟩ ⟨by omega, by omega⟩ 0 rfl rfl rfl hl.1 rfl (Nat.le_of_ble_eq_true rfl) dL_law_157 (fun H locs hH hN => ?_)
  refine lv_istore (lv' := [(12, .int (iI 0)), (11, .int (iI 0)), (10, .int (iI 0)), (9, .int (iI 9)), (0, .ref b), (1, .ref (g.1 0)), (2, .ref u2), (3, .ref u3), (4, .int (iI 0)), (5, .int (iI 0)), (6, .int (iI 1)), (7, .int (iI 260)), (8, .int (iI 0))]) zx zb dL_law_160 hl (by decide) rfl (fun ls hl => ?_)
  refine lv_aload_n zx zb dL_law_162 rfl (lv_at hl 5 rfl) ?_
  refine cvZ (r' := 0) (rest := []) (As := []) (b := g.1 0) C0 hH hN (k_X6_figures l g S F) rfl kw_L_41 ky_X6_figures ⟨by have := hR.1; omega, by have := hR.2; omega⟩ ⟨by omega, by omega⟩ 0 rfl rfl rfl hl.1 rfl (Nat.le_of_ble_eq_true rfl) dL_law_163 (fun H locs hH hN => ?_)
  refine lv_istore (lv' := [(13, .int (iI 0)), (12, .int (iI 0)), (11, .int (iI 0)), (10, .int (iI 0)), (9, .int (iI 9)), (0, .ref b), (1, .ref (g.1 0)), (2, .ref u2), (3, .ref u3), (4, .int (iI 0)), (5, .int (iI 0)), (6, .int (iI 1)), (7, .int (iI 260)), (8, .int (iI 0))]) zx zb dL_law_166 hl (by decide) rfl (fun ls hl => ?_)
  refine lv_iload zx zb dL_law_168 (lv_at hl 1 rfl) ?_
  refine bz_ne (tgt := 177) zx zb dL_law_170 (by decide) ⟨by omega, by omega⟩ (fun zq => absurd zq (by omega)) (fun _ => ?_)
  refine bi_const (n := 0) zx zb dL_law_173 ?_
  refine lv_goto (tgt := 182) zx zb dL_law_174 (by decide) ?_
  refine lv_istore (lv' := [(14, .int (iI 0)), (13, .int (iI 0)), (12, .int (iI 0)), (11, .int (iI 0)), (10, .int (iI 0)), (9, .int (iI 9)), (0, .ref b), (1, .ref (g.1 0)), (2, .ref u2), (3, .ref u3), (4, .int (iI 0)), (5, .int (iI 0)), (6, .int (iI 1)), (7, .int (iI 260)), (8, .int (iI 0))]) zx zb dL_law_182 hl (by decide) rfl (fun ls hl => ?_)
  refine lv_iload zx zb dL_law_184 (lv_at hl 1 rfl) ?_
  refine bz_ne (tgt := 193) zx zb dL_law_186 (by decide) ⟨by omega, by omega⟩ (fun zq => absurd zq (by omega)) (fun _ => ?_)
  refine bi_const (n := 0) zx zb dL_law_189 ?_
  refine lv_goto (tgt := 200) zx zb dL_law_190 (by decide) ?_
  refine lv_istore (lv' := [(15, .int (iI 0)), (14, .int (iI 0)), (13, .int (iI 0)), (12, .int (iI 0)), (11, .int (iI 0)), (10, .int (iI 0)), (9, .int (iI 9)), (0, .ref b), (1, .ref (g.1 0)), (2, .ref u2), (3, .ref u3), (4, .int (iI 0)), (5, .int (iI 0)), (6, .int (iI 1)), (7, .int (iI 260)), (8, .int (iI 0))]) zx zb dL_law_200 hl (by decide) rfl (fun ls hl => ?_)
  refine lv_iload zx zb dL_law_202 (lv_at hl 5 rfl) ?_
  refine bi_const (n := 4) zx zb dL_law_204 ?_
  refine bs_shr (r := 0) zx zb dL_law_205 (by decide) ?_
  refine bi_sip (n := 360) zx zb dL_law_206 (by decide) ?_
  refine bs_rem (r := 0) zx zb dL_law_209 ⟨by omega, by omega⟩ ⟨by omega, by omega⟩ (by omega) (by decide) ?_
  refine lv_istore (lv' := [(16, .int (iI 0)), (15, .int (iI 0)), (14, .int (iI 0)), (13, .int (iI 0)), (12, .int (iI 0)), (11, .int (iI 0)), (10, .int (iI 0)), (9, .int (iI 9)), (0, .ref b), (1, .ref (g.1 0)), (2, .ref u2), (3, .ref u3), (4, .int (iI 0)), (5, .int (iI 0)), (6, .int (iI 1)), (7, .int (iI 260)), (8, .int (iI 0))]) zx zb dL_law_210 hl (by decide) rfl (fun ls hl => ?_)
  refine lv_iload zx zb dL_law_212 (lv_at hl 6 rfl) ?_
  refine bi_bip (n := 11) zx zb dL_law_214 (by decide) ?_
  refine bs_shr (r := 0) zx zb dL_law_216 (by decide) ?_
  refine bi_sip (n := 181) zx zb dL_law_217 (by decide) ?_
  refine bs_rem (r := 0) zx zb dL_law_220 ⟨by omega, by omega⟩ ⟨by omega, by omega⟩ (by omega) (by decide) ?_
  refine bi_bip (n := 90) zx zb dL_law_221 (by decide) ?_
  refine bs_sub (r := (-90)) zx zb dL_law_223 (by decide) ?_
  refine lv_istore (lv' := [(17, .int (iI (-90))), (16, .int (iI 0)), (15, .int (iI 0)), (14, .int (iI 0)), (13, .int (iI 0)), (12, .int (iI 0)), (11, .int (iI 0)), (10, .int (iI 0)), (9, .int (iI 9)), (0, .ref b), (1, .ref (g.1 0)), (2, .ref u2), (3, .ref u3), (4, .int (iI 0)), (5, .int (iI 0)), (6, .int (iI 1)), (7, .int (iI 260)), (8, .int (iI 0))]) zx zb dL_law_224 hl (by decide) rfl (fun ls hl => ?_)
  refine lv_iload zx zb dL_law_226 (lv_at hl 6 rfl) ?_
  refine bz_ne (tgt := 295) zx zb dL_law_228 (by decide) ⟨by omega, by omega⟩ (fun zq => absurd zq (by omega)) (fun _ => ?_)
  refine lv_iload zx zb dL_law_231 (lv_at hl 5 rfl) ?_
  refine bi_bip (n := 24) zx zb dL_law_233 (by decide) ?_
  refine bq_ge (tgt := 295) zx zb dL_law_235 (by decide) ⟨by omega, by omega⟩ ⟨by omega, by omega⟩ (fun zq => absurd zq (by omega)) (fun _ => ?_)
  refine lv_aload_n zx zb dL_law_238 rfl (lv_at hl 10 rfl) ?_
  refine lv_iload zx zb dL_law_239 (lv_at hl 1 rfl) ?_
  refine lv_iload zx zb dL_law_241 (lv_at hl 0 rfl) ?_
  refine cvZ (r' := 0) (rest := []) (As := [.int (iI 0), .int (iI (-90))]) (b := g.1 0) C0 hH hN (c_X6_addStar l g S 0 (-90) ⟨⟨by omega, by omega⟩, by omega, by omega⟩ (by have := F.ns; omega)) F.ns kw_L_82 ky_X6_addStar ⟨by have := hR.1; omega, by have := hR.2; omega⟩ ⟨by omega, by omega⟩ 0 rfl rfl rfl hl.1 rfl (Nat.le_of_ble_eq_true rfl) dL_law_243 (fun H locs hH hN => ?_)
  have F1 : Fr (adS S 0 (-90)) 1 0 := F.add (by omega)
  refine lv_iload zx zb dL_law_246 (lv_at hl 5 rfl) ?_
  refine bq_ne (tgt := 286) zx zb dL_law_248 (by decide) ⟨by omega, by omega⟩ ⟨by omega, by omega⟩ (fun zq => absurd zq (by omega)) (fun _ => ?_)
  refine lv_aload_n zx zb dL_law_251 rfl (lv_at hl 10 rfl) ?_
  refine lv_iload zx zb dL_law_252 (lv_at hl 5 rfl) ?_
  refine cvZ (r' := (-1)) (rest := []) (As := [.int (iI 0)]) (b := g.1 0) C0 hH hN (k_X6_figureOf l g (adS S 0 (-90)) 0 F1 ⟨by omega, by omega⟩) rfl kw_L_38 ky_X6_figureOf ⟨by have := hR.1; omega, by have := hR.2; omega⟩ ⟨by omega, by omega⟩ 0 rfl rfl rfl hl.1 rfl (Nat.le_of_ble_eq_true rfl) dL_law_254 (fun H locs hH hN => ?_)
  refine bi_const (n := (-1)) zx zb dL_law_257 ?_
  refine bq_ne (tgt := 286) zx zb dL_law_258 (by decide) ⟨by omega, by omega⟩ ⟨by omega, by omega⟩ (fun zq => absurd zq (by omega)) (fun _ => ?_)
  refine lv_aload_n zx zb dL_law_261 rfl (lv_at hl 10 rfl) ?_
  refine lv_iload zx zb dL_law_262 (lv_at hl 5 rfl) ?_
  refine cvZ (r' := 0) (rest := []) (As := [.int (iI 0)]) (b := g.1 0) C0 hH hN (c_X6_placeOf l g (adS S 0 (-90)) 0 F1.hn1 (by have := F1.ns; omega)) (F.pl) kw_L_32 ky_X6_placeOf ⟨by have := hR.1; omega, by have := hR.2; omega⟩ ⟨by omega, by omega⟩ 0 rfl rfl rfl hl.1 rfl (Nat.le_of_ble_eq_true rfl) dL_law_264 (fun H locs hH hN => ?_)
  refine bi_sip (n := 1000) zx zb dL_law_267 (by decide) ?_
  refine lv_iload zx zb dL_law_270 (lv_at hl 1 rfl) ?_
  refine bs_mul (r := 0) zx zb dL_law_272 (by decide) ?_
  refine lv_iload zx zb dL_law_273 (lv_at hl 0 rfl) ?_
  refine bs_add (r := (-90)) zx zb dL_law_275 (by decide) ?_
  refine bi_bip (n := 90) zx zb dL_law_276 (by decide) ?_
  refine bs_add (r := 0) zx zb dL_law_278 (by decide) ?_
  refine bq_ne (tgt := 286) zx zb dL_law_279 (by decide) ⟨by omega, by omega⟩ ⟨by omega, by omega⟩ (fun zq => absurd zq (by omega)) (fun _ => ?_)
  refine bi_const (n := 1) zx zb dL_law_282 ?_
  refine lv_goto (tgt := 287) zx zb dL_law_283 (by decide) ?_
  refine lv_istore (lv' := [(6, .int (iI 1)), (17, .int (iI (-90))), (16, .int (iI 0)), (15, .int (iI 0)), (14, .int (iI 0)), (13, .int (iI 0)), (12, .int (iI 0)), (11, .int (iI 0)), (10, .int (iI 0)), (9, .int (iI 9)), (0, .ref b), (1, .ref (g.1 0)), (2, .ref u2), (3, .ref u3), (4, .int (iI 0)), (5, .int (iI 0)), (7, .int (iI 260)), (8, .int (iI 0))]) zx zb dL_law_287 hl (by decide) rfl (fun ls hl => ?_)
  refine bi_const (n := 0) zx zb dL_law_289 ?_
  refine lv_istore (lv' := [(4, .int (iI 0)), (6, .int (iI 1)), (17, .int (iI (-90))), (16, .int (iI 0)), (15, .int (iI 0)), (14, .int (iI 0)), (13, .int (iI 0)), (12, .int (iI 0)), (11, .int (iI 0)), (10, .int (iI 0)), (9, .int (iI 9)), (0, .ref b), (1, .ref (g.1 0)), (2, .ref u2), (3, .ref u3), (5, .int (iI 0)), (7, .int (iI 260)), (8, .int (iI 0))]) zx zb dL_law_290 hl (by decide) rfl (fun ls hl => ?_)
  refine lv_goto (tgt := 1124) zx zb dL_law_292 (by decide) ?_
  refine bi_const (n := 0) zx zb dL_law_1124 ?_
  refine lv_istore (lv' := [(18, .int (iI 0)), (4, .int (iI 0)), (6, .int (iI 1)), (17, .int (iI (-90))), (16, .int (iI 0)), (15, .int (iI 0)), (14, .int (iI 0)), (13, .int (iI 0)), (12, .int (iI 0)), (11, .int (iI 0)), (10, .int (iI 0)), (9, .int (iI 9)), (0, .ref b), (1, .ref (g.1 0)), (2, .ref u2), (3, .ref u3), (5, .int (iI 0)), (7, .int (iI 260)), (8, .int (iI 0))]) zx zb dL_law_1125 hl (by decide) rfl (fun ls hl => ?_)
  refine bi_const (n := 0) zx zb dL_law_1127 ?_
  refine lv_istore (lv' := [(19, .int (iI 0)), (18, .int (iI 0)), (4, .int (iI 0)), (6, .int (iI 1)), (17, .int (iI (-90))), (16, .int (iI 0)), (15, .int (iI 0)), (14, .int (iI 0)), (13, .int (iI 0)), (12, .int (iI 0)), (11, .int (iI 0)), (10, .int (iI 0)), (9, .int (iI 9)), (0, .ref b), (1, .ref (g.1 0)), (2, .ref u2), (3, .ref u3), (5, .int (iI 0)), (7, .int (iI 260)), (8, .int (iI 0))]) zx zb dL_law_1128 hl (by decide) rfl (fun ls hl => ?_)
  refine lv_iload zx zb dL_law_1130 (lv_at hl 0 rfl) ?_
  refine lv_iload zx zb dL_law_1132 (lv_at hl 17 rfl) ?_
  refine bq_ge (tgt := 1240) zx zb dL_law_1134 (by decide) ⟨by omega, by omega⟩ ⟨by omega, by omega⟩ (fun _ => ?_) (fun zq => absurd zq (by omega))
  refine lv_iload zx zb dL_law_1240 (lv_at hl 3 rfl) ?_
  refine bz_eq (tgt := 1265) zx zb dL_law_1242 (by decide) ⟨by omega, by omega⟩ (fun zq => absurd zq (by omega)) (fun _ => ?_)
  refine lv_aload_n zx zb dL_law_1245 rfl (lv_at hl 14 rfl) ?_
  refine cvZ (r' := 0) (rest := []) (As := []) (b := g.1 0) C0 hH hN (k_X6_wrong l g (adS S 0 (-90)) F1) rfl kw_L_76 ky_X6_wrong ⟨by have := hR.1; omega, by have := hR.2; omega⟩ ⟨by omega, by omega⟩ 0 rfl rfl rfl hl.1 rfl (Nat.le_of_ble_eq_true rfl) dL_law_1246 (fun H locs hH hN => ?_)
  refine lv_iload zx zb dL_law_1249 (lv_at hl 1 rfl) ?_
  refine bq_ne (tgt := 1265) zx zb dL_law_1251 (by decide) ⟨by omega, by omega⟩ ⟨by omega, by omega⟩ (fun zq => absurd zq (by omega)) (fun _ => ?_)
  refine lv_aload_n zx zb dL_law_1254 rfl (lv_at hl 14 rfl) ?_
  refine csZ (r' := 1) (rest := []) (As := [.ref (g.1 0)]) C0 hH hN (c_L_areNames l g (adS S 0 (-90)) 1 0 F1) rfl kw_L_119 ky_L_areNames ⟨by have := hR.1; omega, by have := hR.2; omega⟩ ⟨by omega, by omega⟩ rfl hl.1 rfl (Nat.le_of_ble_eq_true rfl) dL_law_1255 (fun H locs hH hN => ?_)
  refine bz_eq (tgt := 1265) zx zb dL_law_1258 (by decide) ⟨by omega, by omega⟩ (fun zq => absurd zq (by omega)) (fun _ => ?_)
  refine bi_const (n := 1) zx zb dL_law_1261 ?_
  refine lv_goto (tgt := 1266) zx zb dL_law_1262 (by decide) ?_
  refine lv_istore (lv' := [(6, .int (iI 1)), (19, .int (iI 0)), (18, .int (iI 0)), (4, .int (iI 0)), (17, .int (iI (-90))), (16, .int (iI 0)), (15, .int (iI 0)), (14, .int (iI 0)), (13, .int (iI 0)), (12, .int (iI 0)), (11, .int (iI 0)), (10, .int (iI 0)), (9, .int (iI 9)), (0, .ref b), (1, .ref (g.1 0)), (2, .ref u2), (3, .ref u3), (5, .int (iI 0)), (7, .int (iI 260)), (8, .int (iI 0))]) zx zb dL_law_1266 hl (by decide) rfl (fun ls hl => ?_)
  refine lv_iload zx zb dL_law_1268 (lv_at hl 0 rfl) ?_
  refine bz_eq (tgt := 1353) zx zb dL_law_1270 (by decide) ⟨by omega, by omega⟩ (fun zq => absurd zq (by omega)) (fun _ => ?_)
  refine lv_aload_n zx zb dL_law_1273 rfl (lv_at hl 14 rfl) ?_
  refine cvZ (r' := 0) (rest := []) (As := []) (b := g.1 0) C0 hH hN (k_X6_figures l g (adS S 0 (-90)) F1) rfl kw_L_41 ky_X6_figures ⟨by have := hR.1; omega, by have := hR.2; omega⟩ ⟨by omega, by omega⟩ 0 rfl rfl rfl hl.1 rfl (Nat.le_of_ble_eq_true rfl) dL_law_1274 (fun H locs hH hN => ?_)
  refine bz_eq (tgt := 1349) zx zb dL_law_1277 (by decide) ⟨by omega, by omega⟩ (fun _ => ?_) (fun zq => absurd zq (by omega))
  refine bi_const (n := 1) zx zb dL_law_1349 ?_
  refine lv_goto (tgt := 1354) zx zb dL_law_1350 (by decide) ?_
  refine lv_istore (lv' := [(6, .int (iI 1)), (19, .int (iI 0)), (18, .int (iI 0)), (4, .int (iI 0)), (17, .int (iI (-90))), (16, .int (iI 0)), (15, .int (iI 0)), (14, .int (iI 0)), (13, .int (iI 0)), (12, .int (iI 0)), (11, .int (iI 0)), (10, .int (iI 0)), (9, .int (iI 9)), (0, .ref b), (1, .ref (g.1 0)), (2, .ref u2), (3, .ref u3), (5, .int (iI 0)), (7, .int (iI 260)), (8, .int (iI 0))]) zx zb dL_law_1354 hl (by decide) rfl (fun ls hl => ?_)
  refine bi_inc (k0 := 19) (n := 1) (lv' := [(8, .int (iI (0 + 1))), (6, .int (iI 1)), (19, .int (iI 0)), (18, .int (iI 0)), (4, .int (iI 0)), (17, .int (iI (-90))), (16, .int (iI 0)), (15, .int (iI 0)), (14, .int (iI 0)), (13, .int (iI 0)), (12, .int (iI 0)), (11, .int (iI 0)), (10, .int (iI 0)), (9, .int (iI 9)), (0, .ref b), (1, .ref (g.1 0)), (2, .ref u2), (3, .ref u3), (5, .int (iI 0)), (7, .int (iI 260))]) zx zb dL_law_1356 hl rfl (by decide) rfl (fun ls hl => ?_)
  refine lv_goto (tgt := 73) zx zb dL_law_1359 (by decide) ?_
  exact kk _ _ _ _ F1 hH hN (lv_sub hl [14, 15, 16, 17, 4, 18, 1, 19, 0] rfl)
set_option maxRecDepth 100000 in
set_option maxHeartbeats 8000000 in
theorem tn_1 {p : Program} {l : Launch} {e : Env} {R : Room} {s : State} {m : MethodId} {args : Array Value} {below : List Frame} {meth : Method} {c : Code} {H : Heap} {locs : List Loc} {cells slots : Nat} {Q : State → Prop} {g : gT} {S : gSt} {ls : Array Slot} {b u2 u3 N : Nat} {xs : Nat → Int32} (C0 : Ct p s m args c g RL cL_law 24) (hfl : l.stackTraces = false) (hX : va_X b 260 xs s s.heap) (hxs : ∀ k : Nat, k < 260 → xs k = 9) (hbl : b < s.heap.size) (hbA : ¬ oA g b) (hR : R.frames = 11 ∧ R.locals = 410) (hcs : cells + 1 ≤ R.cells ∧ slots + 6 ≤ R.slots) (F : Fr S 1 0) (hH : Hp g S s H locs) (hN : N ≤ H.size) (hl : lv_has ls 24 [(0, .ref b), (1, .ref (g.1 0)), (2, .ref u2), (3, .ref u3), (4, .int (iI 0)), (5, .int (iI 0)), (6, .int (iI 1)), (7, .int (iI 260)), (8, .int (iI 1))])
    (kk : ∀ (S9 : gSt) (H9 : Heap) (locs9 : List Loc) (ls9 : Array Slot), Fr S9 2 0 → Hp g S9 s H9 locs9 → N ≤ H9.size → lv_has ls9 24 [(0, .ref b), (1, .ref (g.1 0)), (2, .ref u2), (3, .ref u3), (4, .int (iI 0)), (5, .int (iI 0)), (6, .int (iI 1)), (7, .int (iI 260)), (8, .int (iI 2))] → W p l e R s m args below meth c H9 locs9 cells slots Q (F0 m 73 ls9 [])) : W p l e R s m args below meth c H locs cells slots Q (F0 m 73 ls []) := by
  have zx := C0.1
  have zb := C0.2.1
  refine lv_iload zx zb dL_law_73 (lv_at hl 8 rfl) ?_
  refine lv_iload zx zb dL_law_75 (lv_at hl 7 rfl) ?_
  refine bq_ge (tgt := 1362) zx zb dL_law_77 (by decide) ⟨by omega, by omega⟩ ⟨by omega, by omega⟩ (fun zq => absurd zq (by omega)) (fun _ => ?_)
  refine lv_iload zx zb dL_law_80 (lv_at hl 6 rfl) ?_
  refine bz_eq (tgt := 1362) zx zb dL_law_82 (by decide) ⟨by omega, by omega⟩ (fun zq => absurd zq (by omega)) (fun _ => ?_)
  refine lv_iload zx zb dL_law_85 (lv_at hl 8 rfl) ?_
  refine lv_aload_n zx zb dL_law_87 rfl (lv_at hl 0 rfl) ?_
  refine va_slen zx zb hX hbl hbA hH.2 dL_law_88 ?_
  rw [show Int32.ofNat 260 = iI 260 by decide]
  refine bq_ge (tgt := 99) zx zb dL_law_89 (by decide) ⟨by omega, by omega⟩ ⟨by omega, by omega⟩ (fun zq => absurd zq (by omega)) (fun _ => ?_)
  refine lv_aload_n zx zb dL_law_92 rfl (lv_at hl 0 rfl) ?_
  refine lv_iload zx zb dL_law_93 (lv_at hl 8 rfl) ?_
  refine slG C0 hX hbl hbA (by decide) hH (by omega) (by omega) dL_law_95 ?_
  rw [show (xs (1 : Int).toNat).toInt = 9 by rw [hxs _ (by omega)]; rfl]
  refine lv_goto (tgt := 116) zx zb dL_law_96 (by decide) ?_
  refine lv_istore (lv' := [(9, .int (iI 9)), (0, .ref b), (1, .ref (g.1 0)), (2, .ref u2), (3, .ref u3), (4, .int (iI 0)), (5, .int (iI 0)), (6, .int (iI 1)), (7, .int (iI 260)), (8, .int (iI 1))]) zx zb dL_law_116 hl (by decide) rfl (fun ls hl => ?_)
  refine lv_iload zx zb dL_law_118 (lv_at hl 0 rfl) ?_
  refine bi_const (n := 4) zx zb dL_law_120 ?_
  refine bs_shr (r := 0) zx zb dL_law_121 (by decide) ?_
  refine bi_ldc (n := 268435455) zx zb C0.2.2.2.1 (C0.2.2.2.2.1.w (gm 588 (by decide +kernel) rfl)) dL_law_122 ?_
  refine bs_and (r := 0) zx zb dL_law_124 (by decide) ?_
  refine lv_istore (lv' := [(10, .int (iI 0)), (9, .int (iI 9)), (0, .ref b), (1, .ref (g.1 0)), (2, .ref u2), (3, .ref u3), (4, .int (iI 0)), (5, .int (iI 0)), (6, .int (iI 1)), (7, .int (iI 260)), (8, .int (iI 1))]) zx zb dL_law_125 hl (by decide) rfl (fun ls hl => ?_)
  refine lv_iload zx zb dL_law_127 (lv_at hl 10 rfl) ?_
  refine bi_bip (n := 6) zx zb dL_law_129 (by decide) ?_
  refine bq_ge (tgt := 138) zx zb dL_law_131 (by decide) ⟨by omega, by omega⟩ ⟨by omega, by omega⟩ (fun zq => absurd zq (by omega)) (fun _ => ?_)
  refine bi_const (n := 0) zx zb dL_law_134 ?_
  refine lv_goto (tgt := 154) zx zb dL_law_135 (by decide) ?_
  refine lv_istore (lv' := [(11, .int (iI 0)), (10, .int (iI 0)), (9, .int (iI 9)), (0, .ref b), (1, .ref (g.1 0)), (2, .ref u2), (3, .ref u3), (4, .int (iI 0)), (5, .int (iI 0)), (6, .int (iI 1)), (7, .int (iI 260)), (8, .int (iI 1))]) zx zb dL_law_154 hl (by decide) rfl (fun ls hl => ?_)
  refine lv_aload_n zx zb dL_law_156 rfl (lv_at hl 4 rfl) ?_
  refine cvZ (r' := 1) (rest := []) (As := []) (b := g.1 0) C0 hH hN (k_X6_stars l g S F) rfl kw_L_27 ky_X6_stars ⟨by have := hR.1; omega, by have := hR.2; omega⟩ ⟨by omega, by omega⟩ 0 rfl rfl rfl hl.1 rfl (Nat.le_of_ble_eq_true rfl) dL_law_157 (fun H locs hH hN => ?_)
  refine lv_istore (lv' := [(12, .int (iI 1)), (11, .int (iI 0)), (10, .int (iI 0)), (9, .int (iI 9)), (0, .ref b), (1, .ref (g.1 0)), (2, .ref u2), (3, .ref u3), (4, .int (iI 0)), (5, .int (iI 0)), (6, .int (iI 1)), (7, .int (iI 260)), (8, .int (iI 1))]) zx zb dL_law_160 hl (by decide) rfl (fun ls hl => ?_)
  refine lv_aload_n zx zb dL_law_162 rfl (lv_at hl 5 rfl) ?_
  refine cvZ (r' := 0) (rest := []) (As := []) (b := g.1 0) C0 hH hN (k_X6_figures l g S F) rfl kw_L_41 ky_X6_figures ⟨by have := hR.1; omega, by have := hR.2; omega⟩ ⟨by omega, by omega⟩ 0 rfl rfl rfl hl.1 rfl (Nat.le_of_ble_eq_true rfl) dL_law_163 (fun H locs hH hN => ?_)
  refine lv_istore (lv' := [(13, .int (iI 0)), (12, .int (iI 1)), (11, .int (iI 0)), (10, .int (iI 0)), (9, .int (iI 9)), (0, .ref b), (1, .ref (g.1 0)), (2, .ref u2), (3, .ref u3), (4, .int (iI 0)), (5, .int (iI 0)), (6, .int (iI 1)), (7, .int (iI 260)), (8, .int (iI 1))]) zx zb dL_law_166 hl (by decide) rfl (fun ls hl => ?_)
  refine lv_iload zx zb dL_law_168 (lv_at hl 1 rfl) ?_
  refine bz_ne (tgt := 177) zx zb dL_law_170 (by decide) ⟨by omega, by omega⟩ (fun _ => ?_) (fun zq => absurd zq (by omega))
  refine lv_iload zx zb dL_law_177 (lv_at hl 3 rfl) ?_
  refine lv_iload zx zb dL_law_179 (lv_at hl 1 rfl) ?_
  refine bs_rem (r := 0) zx zb dL_law_181 ⟨by omega, by omega⟩ ⟨by omega, by omega⟩ (by omega) (by decide) ?_
  refine lv_istore (lv' := [(14, .int (iI 0)), (13, .int (iI 0)), (12, .int (iI 1)), (11, .int (iI 0)), (10, .int (iI 0)), (9, .int (iI 9)), (0, .ref b), (1, .ref (g.1 0)), (2, .ref u2), (3, .ref u3), (4, .int (iI 0)), (5, .int (iI 0)), (6, .int (iI 1)), (7, .int (iI 260)), (8, .int (iI 1))]) zx zb dL_law_182 hl (by decide) rfl (fun ls hl => ?_)
  refine lv_iload zx zb dL_law_184 (lv_at hl 1 rfl) ?_
  refine bz_ne (tgt := 193) zx zb dL_law_186 (by decide) ⟨by omega, by omega⟩ (fun zq => absurd zq (by omega)) (fun _ => ?_)
  refine bi_const (n := 0) zx zb dL_law_189 ?_
  refine lv_goto (tgt := 200) zx zb dL_law_190 (by decide) ?_
  refine lv_istore (lv' := [(15, .int (iI 0)), (14, .int (iI 0)), (13, .int (iI 0)), (12, .int (iI 1)), (11, .int (iI 0)), (10, .int (iI 0)), (9, .int (iI 9)), (0, .ref b), (1, .ref (g.1 0)), (2, .ref u2), (3, .ref u3), (4, .int (iI 0)), (5, .int (iI 0)), (6, .int (iI 1)), (7, .int (iI 260)), (8, .int (iI 1))]) zx zb dL_law_200 hl (by decide) rfl (fun ls hl => ?_)
  refine lv_iload zx zb dL_law_202 (lv_at hl 5 rfl) ?_
  refine bi_const (n := 4) zx zb dL_law_204 ?_
  refine bs_shr (r := 0) zx zb dL_law_205 (by decide) ?_
  refine bi_sip (n := 360) zx zb dL_law_206 (by decide) ?_
  refine bs_rem (r := 0) zx zb dL_law_209 ⟨by omega, by omega⟩ ⟨by omega, by omega⟩ (by omega) (by decide) ?_
  refine lv_istore (lv' := [(16, .int (iI 0)), (15, .int (iI 0)), (14, .int (iI 0)), (13, .int (iI 0)), (12, .int (iI 1)), (11, .int (iI 0)), (10, .int (iI 0)), (9, .int (iI 9)), (0, .ref b), (1, .ref (g.1 0)), (2, .ref u2), (3, .ref u3), (4, .int (iI 0)), (5, .int (iI 0)), (6, .int (iI 1)), (7, .int (iI 260)), (8, .int (iI 1))]) zx zb dL_law_210 hl (by decide) rfl (fun ls hl => ?_)
  refine lv_iload zx zb dL_law_212 (lv_at hl 6 rfl) ?_
  refine bi_bip (n := 11) zx zb dL_law_214 (by decide) ?_
  refine bs_shr (r := 0) zx zb dL_law_216 (by decide) ?_
  refine bi_sip (n := 181) zx zb dL_law_217 (by decide) ?_
  refine bs_rem (r := 0) zx zb dL_law_220 ⟨by omega, by omega⟩ ⟨by omega, by omega⟩ (by omega) (by decide) ?_
  refine bi_bip (n := 90) zx zb dL_law_221 (by decide) ?_
  refine bs_sub (r := (-90)) zx zb dL_law_223 (by decide) ?_
  refine lv_istore (lv' := [(17, .int (iI (-90))), (16, .int (iI 0)), (15, .int (iI 0)), (14, .int (iI 0)), (13, .int (iI 0)), (12, .int (iI 1)), (11, .int (iI 0)), (10, .int (iI 0)), (9, .int (iI 9)), (0, .ref b), (1, .ref (g.1 0)), (2, .ref u2), (3, .ref u3), (4, .int (iI 0)), (5, .int (iI 0)), (6, .int (iI 1)), (7, .int (iI 260)), (8, .int (iI 1))]) zx zb dL_law_224 hl (by decide) rfl (fun ls hl => ?_)
  refine lv_iload zx zb dL_law_226 (lv_at hl 6 rfl) ?_
  refine bz_ne (tgt := 295) zx zb dL_law_228 (by decide) ⟨by omega, by omega⟩ (fun zq => absurd zq (by omega)) (fun _ => ?_)
  refine lv_iload zx zb dL_law_231 (lv_at hl 5 rfl) ?_
  refine bi_bip (n := 24) zx zb dL_law_233 (by decide) ?_
  refine bq_ge (tgt := 295) zx zb dL_law_235 (by decide) ⟨by omega, by omega⟩ ⟨by omega, by omega⟩ (fun zq => absurd zq (by omega)) (fun _ => ?_)
  refine lv_aload_n zx zb dL_law_238 rfl (lv_at hl 10 rfl) ?_
  refine lv_iload zx zb dL_law_239 (lv_at hl 1 rfl) ?_
  refine lv_iload zx zb dL_law_241 (lv_at hl 0 rfl) ?_
  refine cvZ (r' := 1) (rest := []) (As := [.int (iI 0), .int (iI (-90))]) (b := g.1 0) C0 hH hN (c_X6_addStar l g S 0 (-90) ⟨⟨by omega, by omega⟩, by omega, by omega⟩ (by have := F.ns; omega)) F.ns kw_L_82 ky_X6_addStar ⟨by have := hR.1; omega, by have := hR.2; omega⟩ ⟨by omega, by omega⟩ 0 rfl rfl rfl hl.1 rfl (Nat.le_of_ble_eq_true rfl) dL_law_243 (fun H locs hH hN => ?_)
  have F1 : Fr (adS S 0 (-90)) 2 0 := F.add (by omega)
  refine lv_iload zx zb dL_law_246 (lv_at hl 5 rfl) ?_
  refine bq_ne (tgt := 286) zx zb dL_law_248 (by decide) ⟨by omega, by omega⟩ ⟨by omega, by omega⟩ (fun zq => absurd zq (by omega)) (fun _ => ?_)
  refine lv_aload_n zx zb dL_law_251 rfl (lv_at hl 10 rfl) ?_
  refine lv_iload zx zb dL_law_252 (lv_at hl 5 rfl) ?_
  refine cvZ (r' := (-1)) (rest := []) (As := [.int (iI 1)]) (b := g.1 0) C0 hH hN (k_X6_figureOf l g (adS S 0 (-90)) 1 F1 ⟨by omega, by omega⟩) rfl kw_L_38 ky_X6_figureOf ⟨by have := hR.1; omega, by have := hR.2; omega⟩ ⟨by omega, by omega⟩ 0 rfl rfl rfl hl.1 rfl (Nat.le_of_ble_eq_true rfl) dL_law_254 (fun H locs hH hN => ?_)
  refine bi_const (n := (-1)) zx zb dL_law_257 ?_
  refine bq_ne (tgt := 286) zx zb dL_law_258 (by decide) ⟨by omega, by omega⟩ ⟨by omega, by omega⟩ (fun zq => absurd zq (by omega)) (fun _ => ?_)
  refine lv_aload_n zx zb dL_law_261 rfl (lv_at hl 10 rfl) ?_
  refine lv_iload zx zb dL_law_262 (lv_at hl 5 rfl) ?_
  refine cvZ (r' := 0) (rest := []) (As := [.int (iI 1)]) (b := g.1 0) C0 hH hN (c_X6_placeOf l g (adS S 0 (-90)) 1 F1.hn1 (by have := F1.ns; omega)) (F.pl) kw_L_32 ky_X6_placeOf ⟨by have := hR.1; omega, by have := hR.2; omega⟩ ⟨by omega, by omega⟩ 0 rfl rfl rfl hl.1 rfl (Nat.le_of_ble_eq_true rfl) dL_law_264 (fun H locs hH hN => ?_)
  refine bi_sip (n := 1000) zx zb dL_law_267 (by decide) ?_
  refine lv_iload zx zb dL_law_270 (lv_at hl 1 rfl) ?_
  refine bs_mul (r := 0) zx zb dL_law_272 (by decide) ?_
  refine lv_iload zx zb dL_law_273 (lv_at hl 0 rfl) ?_
  refine bs_add (r := (-90)) zx zb dL_law_275 (by decide) ?_
  refine bi_bip (n := 90) zx zb dL_law_276 (by decide) ?_
  refine bs_add (r := 0) zx zb dL_law_278 (by decide) ?_
  refine bq_ne (tgt := 286) zx zb dL_law_279 (by decide) ⟨by omega, by omega⟩ ⟨by omega, by omega⟩ (fun zq => absurd zq (by omega)) (fun _ => ?_)
  refine bi_const (n := 1) zx zb dL_law_282 ?_
  refine lv_goto (tgt := 287) zx zb dL_law_283 (by decide) ?_
  refine lv_istore (lv' := [(6, .int (iI 1)), (17, .int (iI (-90))), (16, .int (iI 0)), (15, .int (iI 0)), (14, .int (iI 0)), (13, .int (iI 0)), (12, .int (iI 1)), (11, .int (iI 0)), (10, .int (iI 0)), (9, .int (iI 9)), (0, .ref b), (1, .ref (g.1 0)), (2, .ref u2), (3, .ref u3), (4, .int (iI 0)), (5, .int (iI 0)), (7, .int (iI 260)), (8, .int (iI 1))]) zx zb dL_law_287 hl (by decide) rfl (fun ls hl => ?_)
  refine bi_const (n := 0) zx zb dL_law_289 ?_
  refine lv_istore (lv' := [(4, .int (iI 0)), (6, .int (iI 1)), (17, .int (iI (-90))), (16, .int (iI 0)), (15, .int (iI 0)), (14, .int (iI 0)), (13, .int (iI 0)), (12, .int (iI 1)), (11, .int (iI 0)), (10, .int (iI 0)), (9, .int (iI 9)), (0, .ref b), (1, .ref (g.1 0)), (2, .ref u2), (3, .ref u3), (5, .int (iI 0)), (7, .int (iI 260)), (8, .int (iI 1))]) zx zb dL_law_290 hl (by decide) rfl (fun ls hl => ?_)
  refine lv_goto (tgt := 1124) zx zb dL_law_292 (by decide) ?_
  refine bi_const (n := 0) zx zb dL_law_1124 ?_
  refine lv_istore (lv' := [(18, .int (iI 0)), (4, .int (iI 0)), (6, .int (iI 1)), (17, .int (iI (-90))), (16, .int (iI 0)), (15, .int (iI 0)), (14, .int (iI 0)), (13, .int (iI 0)), (12, .int (iI 1)), (11, .int (iI 0)), (10, .int (iI 0)), (9, .int (iI 9)), (0, .ref b), (1, .ref (g.1 0)), (2, .ref u2), (3, .ref u3), (5, .int (iI 0)), (7, .int (iI 260)), (8, .int (iI 1))]) zx zb dL_law_1125 hl (by decide) rfl (fun ls hl => ?_)
  refine bi_const (n := 0) zx zb dL_law_1127 ?_
  refine lv_istore (lv' := [(19, .int (iI 0)), (18, .int (iI 0)), (4, .int (iI 0)), (6, .int (iI 1)), (17, .int (iI (-90))), (16, .int (iI 0)), (15, .int (iI 0)), (14, .int (iI 0)), (13, .int (iI 0)), (12, .int (iI 1)), (11, .int (iI 0)), (10, .int (iI 0)), (9, .int (iI 9)), (0, .ref b), (1, .ref (g.1 0)), (2, .ref u2), (3, .ref u3), (5, .int (iI 0)), (7, .int (iI 260)), (8, .int (iI 1))]) zx zb dL_law_1128 hl (by decide) rfl (fun ls hl => ?_)
  refine lv_iload zx zb dL_law_1130 (lv_at hl 0 rfl) ?_
  refine lv_iload zx zb dL_law_1132 (lv_at hl 17 rfl) ?_
  refine bq_ge (tgt := 1240) zx zb dL_law_1134 (by decide) ⟨by omega, by omega⟩ ⟨by omega, by omega⟩ (fun _ => ?_) (fun zq => absurd zq (by omega))
  refine lv_iload zx zb dL_law_1240 (lv_at hl 3 rfl) ?_
  refine bz_eq (tgt := 1265) zx zb dL_law_1242 (by decide) ⟨by omega, by omega⟩ (fun zq => absurd zq (by omega)) (fun _ => ?_)
  refine lv_aload_n zx zb dL_law_1245 rfl (lv_at hl 14 rfl) ?_
  refine cvZ (r' := 0) (rest := []) (As := []) (b := g.1 0) C0 hH hN (k_X6_wrong l g (adS S 0 (-90)) F1) rfl kw_L_76 ky_X6_wrong ⟨by have := hR.1; omega, by have := hR.2; omega⟩ ⟨by omega, by omega⟩ 0 rfl rfl rfl hl.1 rfl (Nat.le_of_ble_eq_true rfl) dL_law_1246 (fun H locs hH hN => ?_)
  refine lv_iload zx zb dL_law_1249 (lv_at hl 1 rfl) ?_
  refine bq_ne (tgt := 1265) zx zb dL_law_1251 (by decide) ⟨by omega, by omega⟩ ⟨by omega, by omega⟩ (fun zq => absurd zq (by omega)) (fun _ => ?_)
  refine lv_aload_n zx zb dL_law_1254 rfl (lv_at hl 14 rfl) ?_
  refine csZ (r' := 1) (rest := []) (As := [.ref (g.1 0)]) C0 hH hN (c_L_areNames l g (adS S 0 (-90)) 2 0 F1) rfl kw_L_119 ky_L_areNames ⟨by have := hR.1; omega, by have := hR.2; omega⟩ ⟨by omega, by omega⟩ rfl hl.1 rfl (Nat.le_of_ble_eq_true rfl) dL_law_1255 (fun H locs hH hN => ?_)
  refine bz_eq (tgt := 1265) zx zb dL_law_1258 (by decide) ⟨by omega, by omega⟩ (fun zq => absurd zq (by omega)) (fun _ => ?_)
  refine bi_const (n := 1) zx zb dL_law_1261 ?_
  refine lv_goto (tgt := 1266) zx zb dL_law_1262 (by decide) ?_
  refine lv_istore (lv' := [(6, .int (iI 1)), (19, .int (iI 0)), (18, .int (iI 0)), (4, .int (iI 0)), (17, .int (iI (-90))), (16, .int (iI 0)), (15, .int (iI 0)), (14, .int (iI 0)), (13, .int (iI 0)), (12, .int (iI 1)), (11, .int (iI 0)), (10, .int (iI 0)), (9, .int (iI 9)), (0, .ref b), (1, .ref (g.1 0)), (2, .ref u2), (3, .ref u3), (5, .int (iI 0)), (7, .int (iI 260)), (8, .int (iI 1))]) zx zb dL_law_1266 hl (by decide) rfl (fun ls hl => ?_)
  refine lv_iload zx zb dL_law_1268 (lv_at hl 0 rfl) ?_
  refine bz_eq (tgt := 1353) zx zb dL_law_1270 (by decide) ⟨by omega, by omega⟩ (fun zq => absurd zq (by omega)) (fun _ => ?_)
  refine lv_aload_n zx zb dL_law_1273 rfl (lv_at hl 14 rfl) ?_
  refine cvZ (r' := 0) (rest := []) (As := []) (b := g.1 0) C0 hH hN (k_X6_figures l g (adS S 0 (-90)) F1) rfl kw_L_41 ky_X6_figures ⟨by have := hR.1; omega, by have := hR.2; omega⟩ ⟨by omega, by omega⟩ 0 rfl rfl rfl hl.1 rfl (Nat.le_of_ble_eq_true rfl) dL_law_1274 (fun H locs hH hN => ?_)
  refine bz_eq (tgt := 1349) zx zb dL_law_1277 (by decide) ⟨by omega, by omega⟩ (fun _ => ?_) (fun zq => absurd zq (by omega))
  refine bi_const (n := 1) zx zb dL_law_1349 ?_
  refine lv_goto (tgt := 1354) zx zb dL_law_1350 (by decide) ?_
  refine lv_istore (lv' := [(6, .int (iI 1)), (19, .int (iI 0)), (18, .int (iI 0)), (4, .int (iI 0)), (17, .int (iI (-90))), (16, .int (iI 0)), (15, .int (iI 0)), (14, .int (iI 0)), (13, .int (iI 0)), (12, .int (iI 1)), (11, .int (iI 0)), (10, .int (iI 0)), (9, .int (iI 9)), (0, .ref b), (1, .ref (g.1 0)), (2, .ref u2), (3, .ref u3), (5, .int (iI 0)), (7, .int (iI 260)), (8, .int (iI 1))]) zx zb dL_law_1354 hl (by decide) rfl (fun ls hl => ?_)
  refine bi_inc (k0 := 19) (n := 1) (lv' := [(8, .int (iI (1 + 1))), (6, .int (iI 1)), (19, .int (iI 0)), (18, .int (iI 0)), (4, .int (iI 0)), (17, .int (iI (-90))), (16, .int (iI 0)), (15, .int (iI 0)), (14, .int (iI 0)), (13, .int (iI 0)), (12, .int (iI 1)), (11, .int (iI 0)), (10, .int (iI 0)), (9, .int (iI 9)), (0, .ref b), (1, .ref (g.1 0)), (2, .ref u2), (3, .ref u3), (5, .int (iI 0)), (7, .int (iI 260))]) zx zb dL_law_1356 hl rfl (by decide) rfl (fun ls hl => ?_)
  refine lv_goto (tgt := 73) zx zb dL_law_1359 (by decide) ?_
  exact kk _ _ _ _ F1 hH hN (lv_sub hl [14, 15, 16, 17, 4, 18, 1, 19, 0] rfl)
set_option maxRecDepth 100000 in
set_option maxHeartbeats 8000000 in
theorem tn_2 {p : Program} {l : Launch} {e : Env} {R : Room} {s : State} {m : MethodId} {args : Array Value} {below : List Frame} {meth : Method} {c : Code} {H : Heap} {locs : List Loc} {cells slots : Nat} {Q : State → Prop} {g : gT} {S : gSt} {ls : Array Slot} {b u2 u3 N : Nat} {xs : Nat → Int32} (C0 : Ct p s m args c g RL cL_law 24) (hfl : l.stackTraces = false) (hX : va_X b 260 xs s s.heap) (hxs : ∀ k : Nat, k < 260 → xs k = 9) (hbl : b < s.heap.size) (hbA : ¬ oA g b) (hR : R.frames = 11 ∧ R.locals = 410) (hcs : cells + 1 ≤ R.cells ∧ slots + 6 ≤ R.slots) (F : Fr S 2 0) (hH : Hp g S s H locs) (hN : N ≤ H.size) (hl : lv_has ls 24 [(0, .ref b), (1, .ref (g.1 0)), (2, .ref u2), (3, .ref u3), (4, .int (iI 0)), (5, .int (iI 0)), (6, .int (iI 1)), (7, .int (iI 260)), (8, .int (iI 2))])
    (kk : ∀ (S9 : gSt) (H9 : Heap) (locs9 : List Loc) (ls9 : Array Slot), Fr S9 3 0 → Hp g S9 s H9 locs9 → N ≤ H9.size → lv_has ls9 24 [(0, .ref b), (1, .ref (g.1 0)), (2, .ref u2), (3, .ref u3), (4, .int (iI 0)), (5, .int (iI 0)), (6, .int (iI 1)), (7, .int (iI 260)), (8, .int (iI 3))] → W p l e R s m args below meth c H9 locs9 cells slots Q (F0 m 73 ls9 [])) : W p l e R s m args below meth c H locs cells slots Q (F0 m 73 ls []) := by
  have zx := C0.1
  have zb := C0.2.1
  refine lv_iload zx zb dL_law_73 (lv_at hl 8 rfl) ?_
  refine lv_iload zx zb dL_law_75 (lv_at hl 7 rfl) ?_
  refine bq_ge (tgt := 1362) zx zb dL_law_77 (by decide) ⟨by omega, by omega⟩ ⟨by omega, by omega⟩ (fun zq => absurd zq (by omega)) (fun _ => ?_)
  refine lv_iload zx zb dL_law_80 (lv_at hl 6 rfl) ?_
  refine bz_eq (tgt := 1362) zx zb dL_law_82 (by decide) ⟨by omega, by omega⟩ (fun zq => absurd zq (by omega)) (fun _ => ?_)
  refine lv_iload zx zb dL_law_85 (lv_at hl 8 rfl) ?_
  refine lv_aload_n zx zb dL_law_87 rfl (lv_at hl 0 rfl) ?_
  refine va_slen zx zb hX hbl hbA hH.2 dL_law_88 ?_
  rw [show Int32.ofNat 260 = iI 260 by decide]
  refine bq_ge (tgt := 99) zx zb dL_law_89 (by decide) ⟨by omega, by omega⟩ ⟨by omega, by omega⟩ (fun zq => absurd zq (by omega)) (fun _ => ?_)
  refine lv_aload_n zx zb dL_law_92 rfl (lv_at hl 0 rfl) ?_
  refine lv_iload zx zb dL_law_93 (lv_at hl 8 rfl) ?_
  refine slG C0 hX hbl hbA (by decide) hH (by omega) (by omega) dL_law_95 ?_
  rw [show (xs (2 : Int).toNat).toInt = 9 by rw [hxs _ (by omega)]; rfl]
  refine lv_goto (tgt := 116) zx zb dL_law_96 (by decide) ?_
  refine lv_istore (lv' := [(9, .int (iI 9)), (0, .ref b), (1, .ref (g.1 0)), (2, .ref u2), (3, .ref u3), (4, .int (iI 0)), (5, .int (iI 0)), (6, .int (iI 1)), (7, .int (iI 260)), (8, .int (iI 2))]) zx zb dL_law_116 hl (by decide) rfl (fun ls hl => ?_)
  refine lv_iload zx zb dL_law_118 (lv_at hl 0 rfl) ?_
  refine bi_const (n := 4) zx zb dL_law_120 ?_
  refine bs_shr (r := 0) zx zb dL_law_121 (by decide) ?_
  refine bi_ldc (n := 268435455) zx zb C0.2.2.2.1 (C0.2.2.2.2.1.w (gm 588 (by decide +kernel) rfl)) dL_law_122 ?_
  refine bs_and (r := 0) zx zb dL_law_124 (by decide) ?_
  refine lv_istore (lv' := [(10, .int (iI 0)), (9, .int (iI 9)), (0, .ref b), (1, .ref (g.1 0)), (2, .ref u2), (3, .ref u3), (4, .int (iI 0)), (5, .int (iI 0)), (6, .int (iI 1)), (7, .int (iI 260)), (8, .int (iI 2))]) zx zb dL_law_125 hl (by decide) rfl (fun ls hl => ?_)
  refine lv_iload zx zb dL_law_127 (lv_at hl 10 rfl) ?_
  refine bi_bip (n := 6) zx zb dL_law_129 (by decide) ?_
  refine bq_ge (tgt := 138) zx zb dL_law_131 (by decide) ⟨by omega, by omega⟩ ⟨by omega, by omega⟩ (fun zq => absurd zq (by omega)) (fun _ => ?_)
  refine bi_const (n := 0) zx zb dL_law_134 ?_
  refine lv_goto (tgt := 154) zx zb dL_law_135 (by decide) ?_
  refine lv_istore (lv' := [(11, .int (iI 0)), (10, .int (iI 0)), (9, .int (iI 9)), (0, .ref b), (1, .ref (g.1 0)), (2, .ref u2), (3, .ref u3), (4, .int (iI 0)), (5, .int (iI 0)), (6, .int (iI 1)), (7, .int (iI 260)), (8, .int (iI 2))]) zx zb dL_law_154 hl (by decide) rfl (fun ls hl => ?_)
  refine lv_aload_n zx zb dL_law_156 rfl (lv_at hl 4 rfl) ?_
  refine cvZ (r' := 2) (rest := []) (As := []) (b := g.1 0) C0 hH hN (k_X6_stars l g S F) rfl kw_L_27 ky_X6_stars ⟨by have := hR.1; omega, by have := hR.2; omega⟩ ⟨by omega, by omega⟩ 0 rfl rfl rfl hl.1 rfl (Nat.le_of_ble_eq_true rfl) dL_law_157 (fun H locs hH hN => ?_)
  refine lv_istore (lv' := [(12, .int (iI 2)), (11, .int (iI 0)), (10, .int (iI 0)), (9, .int (iI 9)), (0, .ref b), (1, .ref (g.1 0)), (2, .ref u2), (3, .ref u3), (4, .int (iI 0)), (5, .int (iI 0)), (6, .int (iI 1)), (7, .int (iI 260)), (8, .int (iI 2))]) zx zb dL_law_160 hl (by decide) rfl (fun ls hl => ?_)
  refine lv_aload_n zx zb dL_law_162 rfl (lv_at hl 5 rfl) ?_
  refine cvZ (r' := 0) (rest := []) (As := []) (b := g.1 0) C0 hH hN (k_X6_figures l g S F) rfl kw_L_41 ky_X6_figures ⟨by have := hR.1; omega, by have := hR.2; omega⟩ ⟨by omega, by omega⟩ 0 rfl rfl rfl hl.1 rfl (Nat.le_of_ble_eq_true rfl) dL_law_163 (fun H locs hH hN => ?_)
  refine lv_istore (lv' := [(13, .int (iI 0)), (12, .int (iI 2)), (11, .int (iI 0)), (10, .int (iI 0)), (9, .int (iI 9)), (0, .ref b), (1, .ref (g.1 0)), (2, .ref u2), (3, .ref u3), (4, .int (iI 0)), (5, .int (iI 0)), (6, .int (iI 1)), (7, .int (iI 260)), (8, .int (iI 2))]) zx zb dL_law_166 hl (by decide) rfl (fun ls hl => ?_)
  refine lv_iload zx zb dL_law_168 (lv_at hl 1 rfl) ?_
  refine bz_ne (tgt := 177) zx zb dL_law_170 (by decide) ⟨by omega, by omega⟩ (fun _ => ?_) (fun zq => absurd zq (by omega))
  refine lv_iload zx zb dL_law_177 (lv_at hl 3 rfl) ?_
  refine lv_iload zx zb dL_law_179 (lv_at hl 1 rfl) ?_
  refine bs_rem (r := 0) zx zb dL_law_181 ⟨by omega, by omega⟩ ⟨by omega, by omega⟩ (by omega) (by decide) ?_
  refine lv_istore (lv' := [(14, .int (iI 0)), (13, .int (iI 0)), (12, .int (iI 2)), (11, .int (iI 0)), (10, .int (iI 0)), (9, .int (iI 9)), (0, .ref b), (1, .ref (g.1 0)), (2, .ref u2), (3, .ref u3), (4, .int (iI 0)), (5, .int (iI 0)), (6, .int (iI 1)), (7, .int (iI 260)), (8, .int (iI 2))]) zx zb dL_law_182 hl (by decide) rfl (fun ls hl => ?_)
  refine lv_iload zx zb dL_law_184 (lv_at hl 1 rfl) ?_
  refine bz_ne (tgt := 193) zx zb dL_law_186 (by decide) ⟨by omega, by omega⟩ (fun zq => absurd zq (by omega)) (fun _ => ?_)
  refine bi_const (n := 0) zx zb dL_law_189 ?_
  refine lv_goto (tgt := 200) zx zb dL_law_190 (by decide) ?_
  refine lv_istore (lv' := [(15, .int (iI 0)), (14, .int (iI 0)), (13, .int (iI 0)), (12, .int (iI 2)), (11, .int (iI 0)), (10, .int (iI 0)), (9, .int (iI 9)), (0, .ref b), (1, .ref (g.1 0)), (2, .ref u2), (3, .ref u3), (4, .int (iI 0)), (5, .int (iI 0)), (6, .int (iI 1)), (7, .int (iI 260)), (8, .int (iI 2))]) zx zb dL_law_200 hl (by decide) rfl (fun ls hl => ?_)
  refine lv_iload zx zb dL_law_202 (lv_at hl 5 rfl) ?_
  refine bi_const (n := 4) zx zb dL_law_204 ?_
  refine bs_shr (r := 0) zx zb dL_law_205 (by decide) ?_
  refine bi_sip (n := 360) zx zb dL_law_206 (by decide) ?_
  refine bs_rem (r := 0) zx zb dL_law_209 ⟨by omega, by omega⟩ ⟨by omega, by omega⟩ (by omega) (by decide) ?_
  refine lv_istore (lv' := [(16, .int (iI 0)), (15, .int (iI 0)), (14, .int (iI 0)), (13, .int (iI 0)), (12, .int (iI 2)), (11, .int (iI 0)), (10, .int (iI 0)), (9, .int (iI 9)), (0, .ref b), (1, .ref (g.1 0)), (2, .ref u2), (3, .ref u3), (4, .int (iI 0)), (5, .int (iI 0)), (6, .int (iI 1)), (7, .int (iI 260)), (8, .int (iI 2))]) zx zb dL_law_210 hl (by decide) rfl (fun ls hl => ?_)
  refine lv_iload zx zb dL_law_212 (lv_at hl 6 rfl) ?_
  refine bi_bip (n := 11) zx zb dL_law_214 (by decide) ?_
  refine bs_shr (r := 0) zx zb dL_law_216 (by decide) ?_
  refine bi_sip (n := 181) zx zb dL_law_217 (by decide) ?_
  refine bs_rem (r := 0) zx zb dL_law_220 ⟨by omega, by omega⟩ ⟨by omega, by omega⟩ (by omega) (by decide) ?_
  refine bi_bip (n := 90) zx zb dL_law_221 (by decide) ?_
  refine bs_sub (r := (-90)) zx zb dL_law_223 (by decide) ?_
  refine lv_istore (lv' := [(17, .int (iI (-90))), (16, .int (iI 0)), (15, .int (iI 0)), (14, .int (iI 0)), (13, .int (iI 0)), (12, .int (iI 2)), (11, .int (iI 0)), (10, .int (iI 0)), (9, .int (iI 9)), (0, .ref b), (1, .ref (g.1 0)), (2, .ref u2), (3, .ref u3), (4, .int (iI 0)), (5, .int (iI 0)), (6, .int (iI 1)), (7, .int (iI 260)), (8, .int (iI 2))]) zx zb dL_law_224 hl (by decide) rfl (fun ls hl => ?_)
  refine lv_iload zx zb dL_law_226 (lv_at hl 6 rfl) ?_
  refine bz_ne (tgt := 295) zx zb dL_law_228 (by decide) ⟨by omega, by omega⟩ (fun zq => absurd zq (by omega)) (fun _ => ?_)
  refine lv_iload zx zb dL_law_231 (lv_at hl 5 rfl) ?_
  refine bi_bip (n := 24) zx zb dL_law_233 (by decide) ?_
  refine bq_ge (tgt := 295) zx zb dL_law_235 (by decide) ⟨by omega, by omega⟩ ⟨by omega, by omega⟩ (fun zq => absurd zq (by omega)) (fun _ => ?_)
  refine lv_aload_n zx zb dL_law_238 rfl (lv_at hl 10 rfl) ?_
  refine lv_iload zx zb dL_law_239 (lv_at hl 1 rfl) ?_
  refine lv_iload zx zb dL_law_241 (lv_at hl 0 rfl) ?_
  refine cvZ (r' := 2) (rest := []) (As := [.int (iI 0), .int (iI (-90))]) (b := g.1 0) C0 hH hN (c_X6_addStar l g S 0 (-90) ⟨⟨by omega, by omega⟩, by omega, by omega⟩ (by have := F.ns; omega)) F.ns kw_L_82 ky_X6_addStar ⟨by have := hR.1; omega, by have := hR.2; omega⟩ ⟨by omega, by omega⟩ 0 rfl rfl rfl hl.1 rfl (Nat.le_of_ble_eq_true rfl) dL_law_243 (fun H locs hH hN => ?_)
  have F1 : Fr (adS S 0 (-90)) 3 0 := F.add (by omega)
  refine lv_iload zx zb dL_law_246 (lv_at hl 5 rfl) ?_
  refine bq_ne (tgt := 286) zx zb dL_law_248 (by decide) ⟨by omega, by omega⟩ ⟨by omega, by omega⟩ (fun zq => absurd zq (by omega)) (fun _ => ?_)
  refine lv_aload_n zx zb dL_law_251 rfl (lv_at hl 10 rfl) ?_
  refine lv_iload zx zb dL_law_252 (lv_at hl 5 rfl) ?_
  refine cvZ (r' := (-1)) (rest := []) (As := [.int (iI 2)]) (b := g.1 0) C0 hH hN (k_X6_figureOf l g (adS S 0 (-90)) 2 F1 ⟨by omega, by omega⟩) rfl kw_L_38 ky_X6_figureOf ⟨by have := hR.1; omega, by have := hR.2; omega⟩ ⟨by omega, by omega⟩ 0 rfl rfl rfl hl.1 rfl (Nat.le_of_ble_eq_true rfl) dL_law_254 (fun H locs hH hN => ?_)
  refine bi_const (n := (-1)) zx zb dL_law_257 ?_
  refine bq_ne (tgt := 286) zx zb dL_law_258 (by decide) ⟨by omega, by omega⟩ ⟨by omega, by omega⟩ (fun zq => absurd zq (by omega)) (fun _ => ?_)
  refine lv_aload_n zx zb dL_law_261 rfl (lv_at hl 10 rfl) ?_
  refine lv_iload zx zb dL_law_262 (lv_at hl 5 rfl) ?_
  refine cvZ (r' := 0) (rest := []) (As := [.int (iI 2)]) (b := g.1 0) C0 hH hN (c_X6_placeOf l g (adS S 0 (-90)) 2 F1.hn1 (by have := F1.ns; omega)) (F.pl) kw_L_32 ky_X6_placeOf ⟨by have := hR.1; omega, by have := hR.2; omega⟩ ⟨by omega, by omega⟩ 0 rfl rfl rfl hl.1 rfl (Nat.le_of_ble_eq_true rfl) dL_law_264 (fun H locs hH hN => ?_)
  refine bi_sip (n := 1000) zx zb dL_law_267 (by decide) ?_
  refine lv_iload zx zb dL_law_270 (lv_at hl 1 rfl) ?_
  refine bs_mul (r := 0) zx zb dL_law_272 (by decide) ?_
  refine lv_iload zx zb dL_law_273 (lv_at hl 0 rfl) ?_
  refine bs_add (r := (-90)) zx zb dL_law_275 (by decide) ?_
  refine bi_bip (n := 90) zx zb dL_law_276 (by decide) ?_
  refine bs_add (r := 0) zx zb dL_law_278 (by decide) ?_
  refine bq_ne (tgt := 286) zx zb dL_law_279 (by decide) ⟨by omega, by omega⟩ ⟨by omega, by omega⟩ (fun zq => absurd zq (by omega)) (fun _ => ?_)
  refine bi_const (n := 1) zx zb dL_law_282 ?_
  refine lv_goto (tgt := 287) zx zb dL_law_283 (by decide) ?_
  refine lv_istore (lv' := [(6, .int (iI 1)), (17, .int (iI (-90))), (16, .int (iI 0)), (15, .int (iI 0)), (14, .int (iI 0)), (13, .int (iI 0)), (12, .int (iI 2)), (11, .int (iI 0)), (10, .int (iI 0)), (9, .int (iI 9)), (0, .ref b), (1, .ref (g.1 0)), (2, .ref u2), (3, .ref u3), (4, .int (iI 0)), (5, .int (iI 0)), (7, .int (iI 260)), (8, .int (iI 2))]) zx zb dL_law_287 hl (by decide) rfl (fun ls hl => ?_)
  refine bi_const (n := 0) zx zb dL_law_289 ?_
  refine lv_istore (lv' := [(4, .int (iI 0)), (6, .int (iI 1)), (17, .int (iI (-90))), (16, .int (iI 0)), (15, .int (iI 0)), (14, .int (iI 0)), (13, .int (iI 0)), (12, .int (iI 2)), (11, .int (iI 0)), (10, .int (iI 0)), (9, .int (iI 9)), (0, .ref b), (1, .ref (g.1 0)), (2, .ref u2), (3, .ref u3), (5, .int (iI 0)), (7, .int (iI 260)), (8, .int (iI 2))]) zx zb dL_law_290 hl (by decide) rfl (fun ls hl => ?_)
  refine lv_goto (tgt := 1124) zx zb dL_law_292 (by decide) ?_
  refine bi_const (n := 0) zx zb dL_law_1124 ?_
  refine lv_istore (lv' := [(18, .int (iI 0)), (4, .int (iI 0)), (6, .int (iI 1)), (17, .int (iI (-90))), (16, .int (iI 0)), (15, .int (iI 0)), (14, .int (iI 0)), (13, .int (iI 0)), (12, .int (iI 2)), (11, .int (iI 0)), (10, .int (iI 0)), (9, .int (iI 9)), (0, .ref b), (1, .ref (g.1 0)), (2, .ref u2), (3, .ref u3), (5, .int (iI 0)), (7, .int (iI 260)), (8, .int (iI 2))]) zx zb dL_law_1125 hl (by decide) rfl (fun ls hl => ?_)
  refine bi_const (n := 0) zx zb dL_law_1127 ?_
  refine lv_istore (lv' := [(19, .int (iI 0)), (18, .int (iI 0)), (4, .int (iI 0)), (6, .int (iI 1)), (17, .int (iI (-90))), (16, .int (iI 0)), (15, .int (iI 0)), (14, .int (iI 0)), (13, .int (iI 0)), (12, .int (iI 2)), (11, .int (iI 0)), (10, .int (iI 0)), (9, .int (iI 9)), (0, .ref b), (1, .ref (g.1 0)), (2, .ref u2), (3, .ref u3), (5, .int (iI 0)), (7, .int (iI 260)), (8, .int (iI 2))]) zx zb dL_law_1128 hl (by decide) rfl (fun ls hl => ?_)
  refine lv_iload zx zb dL_law_1130 (lv_at hl 0 rfl) ?_
  refine lv_iload zx zb dL_law_1132 (lv_at hl 17 rfl) ?_
  refine bq_ge (tgt := 1240) zx zb dL_law_1134 (by decide) ⟨by omega, by omega⟩ ⟨by omega, by omega⟩ (fun _ => ?_) (fun zq => absurd zq (by omega))
  refine lv_iload zx zb dL_law_1240 (lv_at hl 3 rfl) ?_
  refine bz_eq (tgt := 1265) zx zb dL_law_1242 (by decide) ⟨by omega, by omega⟩ (fun zq => absurd zq (by omega)) (fun _ => ?_)
  refine lv_aload_n zx zb dL_law_1245 rfl (lv_at hl 14 rfl) ?_
  refine cvZ (r' := 0) (rest := []) (As := []) (b := g.1 0) C0 hH hN (k_X6_wrong l g (adS S 0 (-90)) F1) rfl kw_L_76 ky_X6_wrong ⟨by have := hR.1; omega, by have := hR.2; omega⟩ ⟨by omega, by omega⟩ 0 rfl rfl rfl hl.1 rfl (Nat.le_of_ble_eq_true rfl) dL_law_1246 (fun H locs hH hN => ?_)
  refine lv_iload zx zb dL_law_1249 (lv_at hl 1 rfl) ?_
  refine bq_ne (tgt := 1265) zx zb dL_law_1251 (by decide) ⟨by omega, by omega⟩ ⟨by omega, by omega⟩ (fun zq => absurd zq (by omega)) (fun _ => ?_)
  refine lv_aload_n zx zb dL_law_1254 rfl (lv_at hl 14 rfl) ?_
  refine csZ (r' := 1) (rest := []) (As := [.ref (g.1 0)]) C0 hH hN (c_L_areNames l g (adS S 0 (-90)) 3 0 F1) rfl kw_L_119 ky_L_areNames ⟨by have := hR.1; omega, by have := hR.2; omega⟩ ⟨by omega, by omega⟩ rfl hl.1 rfl (Nat.le_of_ble_eq_true rfl) dL_law_1255 (fun H locs hH hN => ?_)
  refine bz_eq (tgt := 1265) zx zb dL_law_1258 (by decide) ⟨by omega, by omega⟩ (fun zq => absurd zq (by omega)) (fun _ => ?_)
  refine bi_const (n := 1) zx zb dL_law_1261 ?_
  refine lv_goto (tgt := 1266) zx zb dL_law_1262 (by decide) ?_
  refine lv_istore (lv' := [(6, .int (iI 1)), (19, .int (iI 0)), (18, .int (iI 0)), (4, .int (iI 0)), (17, .int (iI (-90))), (16, .int (iI 0)), (15, .int (iI 0)), (14, .int (iI 0)), (13, .int (iI 0)), (12, .int (iI 2)), (11, .int (iI 0)), (10, .int (iI 0)), (9, .int (iI 9)), (0, .ref b), (1, .ref (g.1 0)), (2, .ref u2), (3, .ref u3), (5, .int (iI 0)), (7, .int (iI 260)), (8, .int (iI 2))]) zx zb dL_law_1266 hl (by decide) rfl (fun ls hl => ?_)
  refine lv_iload zx zb dL_law_1268 (lv_at hl 0 rfl) ?_
  refine bz_eq (tgt := 1353) zx zb dL_law_1270 (by decide) ⟨by omega, by omega⟩ (fun zq => absurd zq (by omega)) (fun _ => ?_)
  refine lv_aload_n zx zb dL_law_1273 rfl (lv_at hl 14 rfl) ?_
  refine cvZ (r' := 0) (rest := []) (As := []) (b := g.1 0) C0 hH hN (k_X6_figures l g (adS S 0 (-90)) F1) rfl kw_L_41 ky_X6_figures ⟨by have := hR.1; omega, by have := hR.2; omega⟩ ⟨by omega, by omega⟩ 0 rfl rfl rfl hl.1 rfl (Nat.le_of_ble_eq_true rfl) dL_law_1274 (fun H locs hH hN => ?_)
  refine bz_eq (tgt := 1349) zx zb dL_law_1277 (by decide) ⟨by omega, by omega⟩ (fun _ => ?_) (fun zq => absurd zq (by omega))
  refine bi_const (n := 1) zx zb dL_law_1349 ?_
  refine lv_goto (tgt := 1354) zx zb dL_law_1350 (by decide) ?_
  refine lv_istore (lv' := [(6, .int (iI 1)), (19, .int (iI 0)), (18, .int (iI 0)), (4, .int (iI 0)), (17, .int (iI (-90))), (16, .int (iI 0)), (15, .int (iI 0)), (14, .int (iI 0)), (13, .int (iI 0)), (12, .int (iI 2)), (11, .int (iI 0)), (10, .int (iI 0)), (9, .int (iI 9)), (0, .ref b), (1, .ref (g.1 0)), (2, .ref u2), (3, .ref u3), (5, .int (iI 0)), (7, .int (iI 260)), (8, .int (iI 2))]) zx zb dL_law_1354 hl (by decide) rfl (fun ls hl => ?_)
  refine bi_inc (k0 := 19) (n := 1) (lv' := [(8, .int (iI (2 + 1))), (6, .int (iI 1)), (19, .int (iI 0)), (18, .int (iI 0)), (4, .int (iI 0)), (17, .int (iI (-90))), (16, .int (iI 0)), (15, .int (iI 0)), (14, .int (iI 0)), (13, .int (iI 0)), (12, .int (iI 2)), (11, .int (iI 0)), (10, .int (iI 0)), (9, .int (iI 9)), (0, .ref b), (1, .ref (g.1 0)), (2, .ref u2), (3, .ref u3), (5, .int (iI 0)), (7, .int (iI 260))]) zx zb dL_law_1356 hl rfl (by decide) rfl (fun ls hl => ?_)
  refine lv_goto (tgt := 73) zx zb dL_law_1359 (by decide) ?_
  exact kk _ _ _ _ F1 hH hN (lv_sub hl [14, 15, 16, 17, 4, 18, 1, 19, 0] rfl)
set_option maxRecDepth 100000 in
set_option maxHeartbeats 8000000 in
theorem tn_3 {p : Program} {l : Launch} {e : Env} {R : Room} {s : State} {m : MethodId} {args : Array Value} {below : List Frame} {meth : Method} {c : Code} {H : Heap} {locs : List Loc} {cells slots : Nat} {Q : State → Prop} {g : gT} {S : gSt} {ls : Array Slot} {b u2 u3 N : Nat} {xs : Nat → Int32} (C0 : Ct p s m args c g RL cL_law 24) (hfl : l.stackTraces = false) (hX : va_X b 260 xs s s.heap) (hxs : ∀ k : Nat, k < 260 → xs k = 9) (hbl : b < s.heap.size) (hbA : ¬ oA g b) (hR : R.frames = 11 ∧ R.locals = 410) (hcs : cells + 1 ≤ R.cells ∧ slots + 6 ≤ R.slots) (F : Fr S 3 0) (hH : Hp g S s H locs) (hN : N ≤ H.size) (hl : lv_has ls 24 [(0, .ref b), (1, .ref (g.1 0)), (2, .ref u2), (3, .ref u3), (4, .int (iI 0)), (5, .int (iI 0)), (6, .int (iI 1)), (7, .int (iI 260)), (8, .int (iI 3))])
    (kk : ∀ (S9 : gSt) (H9 : Heap) (locs9 : List Loc) (ls9 : Array Slot), Fr S9 4 0 → Hp g S9 s H9 locs9 → N ≤ H9.size → lv_has ls9 24 [(0, .ref b), (1, .ref (g.1 0)), (2, .ref u2), (3, .ref u3), (4, .int (iI 0)), (5, .int (iI 0)), (6, .int (iI 1)), (7, .int (iI 260)), (8, .int (iI 4))] → W p l e R s m args below meth c H9 locs9 cells slots Q (F0 m 73 ls9 [])) : W p l e R s m args below meth c H locs cells slots Q (F0 m 73 ls []) := by
  have zx := C0.1
  have zb := C0.2.1
  refine lv_iload zx zb dL_law_73 (lv_at hl 8 rfl) ?_
  refine lv_iload zx zb dL_law_75 (lv_at hl 7 rfl) ?_
  refine bq_ge (tgt := 1362) zx zb dL_law_77 (by decide) ⟨by omega, by omega⟩ ⟨by omega, by omega⟩ (fun zq => absurd zq (by omega)) (fun _ => ?_)
  refine lv_iload zx zb dL_law_80 (lv_at hl 6 rfl) ?_
  refine bz_eq (tgt := 1362) zx zb dL_law_82 (by decide) ⟨by omega, by omega⟩ (fun zq => absurd zq (by omega)) (fun _ => ?_)
  refine lv_iload zx zb dL_law_85 (lv_at hl 8 rfl) ?_
  refine lv_aload_n zx zb dL_law_87 rfl (lv_at hl 0 rfl) ?_
  refine va_slen zx zb hX hbl hbA hH.2 dL_law_88 ?_
  rw [show Int32.ofNat 260 = iI 260 by decide]
  refine bq_ge (tgt := 99) zx zb dL_law_89 (by decide) ⟨by omega, by omega⟩ ⟨by omega, by omega⟩ (fun zq => absurd zq (by omega)) (fun _ => ?_)
  refine lv_aload_n zx zb dL_law_92 rfl (lv_at hl 0 rfl) ?_
  refine lv_iload zx zb dL_law_93 (lv_at hl 8 rfl) ?_
  refine slG C0 hX hbl hbA (by decide) hH (by omega) (by omega) dL_law_95 ?_
  rw [show (xs (3 : Int).toNat).toInt = 9 by rw [hxs _ (by omega)]; rfl]
  refine lv_goto (tgt := 116) zx zb dL_law_96 (by decide) ?_
  refine lv_istore (lv' := [(9, .int (iI 9)), (0, .ref b), (1, .ref (g.1 0)), (2, .ref u2), (3, .ref u3), (4, .int (iI 0)), (5, .int (iI 0)), (6, .int (iI 1)), (7, .int (iI 260)), (8, .int (iI 3))]) zx zb dL_law_116 hl (by decide) rfl (fun ls hl => ?_)
  refine lv_iload zx zb dL_law_118 (lv_at hl 0 rfl) ?_
  refine bi_const (n := 4) zx zb dL_law_120 ?_
  refine bs_shr (r := 0) zx zb dL_law_121 (by decide) ?_
  refine bi_ldc (n := 268435455) zx zb C0.2.2.2.1 (C0.2.2.2.2.1.w (gm 588 (by decide +kernel) rfl)) dL_law_122 ?_
  refine bs_and (r := 0) zx zb dL_law_124 (by decide) ?_
  refine lv_istore (lv' := [(10, .int (iI 0)), (9, .int (iI 9)), (0, .ref b), (1, .ref (g.1 0)), (2, .ref u2), (3, .ref u3), (4, .int (iI 0)), (5, .int (iI 0)), (6, .int (iI 1)), (7, .int (iI 260)), (8, .int (iI 3))]) zx zb dL_law_125 hl (by decide) rfl (fun ls hl => ?_)
  refine lv_iload zx zb dL_law_127 (lv_at hl 10 rfl) ?_
  refine bi_bip (n := 6) zx zb dL_law_129 (by decide) ?_
  refine bq_ge (tgt := 138) zx zb dL_law_131 (by decide) ⟨by omega, by omega⟩ ⟨by omega, by omega⟩ (fun zq => absurd zq (by omega)) (fun _ => ?_)
  refine bi_const (n := 0) zx zb dL_law_134 ?_
  refine lv_goto (tgt := 154) zx zb dL_law_135 (by decide) ?_
  refine lv_istore (lv' := [(11, .int (iI 0)), (10, .int (iI 0)), (9, .int (iI 9)), (0, .ref b), (1, .ref (g.1 0)), (2, .ref u2), (3, .ref u3), (4, .int (iI 0)), (5, .int (iI 0)), (6, .int (iI 1)), (7, .int (iI 260)), (8, .int (iI 3))]) zx zb dL_law_154 hl (by decide) rfl (fun ls hl => ?_)
  refine lv_aload_n zx zb dL_law_156 rfl (lv_at hl 4 rfl) ?_
  refine cvZ (r' := 3) (rest := []) (As := []) (b := g.1 0) C0 hH hN (k_X6_stars l g S F) rfl kw_L_27 ky_X6_stars ⟨by have := hR.1; omega, by have := hR.2; omega⟩ ⟨by omega, by omega⟩ 0 rfl rfl rfl hl.1 rfl (Nat.le_of_ble_eq_true rfl) dL_law_157 (fun H locs hH hN => ?_)
  refine lv_istore (lv' := [(12, .int (iI 3)), (11, .int (iI 0)), (10, .int (iI 0)), (9, .int (iI 9)), (0, .ref b), (1, .ref (g.1 0)), (2, .ref u2), (3, .ref u3), (4, .int (iI 0)), (5, .int (iI 0)), (6, .int (iI 1)), (7, .int (iI 260)), (8, .int (iI 3))]) zx zb dL_law_160 hl (by decide) rfl (fun ls hl => ?_)
  refine lv_aload_n zx zb dL_law_162 rfl (lv_at hl 5 rfl) ?_
  refine cvZ (r' := 0) (rest := []) (As := []) (b := g.1 0) C0 hH hN (k_X6_figures l g S F) rfl kw_L_41 ky_X6_figures ⟨by have := hR.1; omega, by have := hR.2; omega⟩ ⟨by omega, by omega⟩ 0 rfl rfl rfl hl.1 rfl (Nat.le_of_ble_eq_true rfl) dL_law_163 (fun H locs hH hN => ?_)
  refine lv_istore (lv' := [(13, .int (iI 0)), (12, .int (iI 3)), (11, .int (iI 0)), (10, .int (iI 0)), (9, .int (iI 9)), (0, .ref b), (1, .ref (g.1 0)), (2, .ref u2), (3, .ref u3), (4, .int (iI 0)), (5, .int (iI 0)), (6, .int (iI 1)), (7, .int (iI 260)), (8, .int (iI 3))]) zx zb dL_law_166 hl (by decide) rfl (fun ls hl => ?_)
  refine lv_iload zx zb dL_law_168 (lv_at hl 1 rfl) ?_
  refine bz_ne (tgt := 177) zx zb dL_law_170 (by decide) ⟨by omega, by omega⟩ (fun _ => ?_) (fun zq => absurd zq (by omega))
  refine lv_iload zx zb dL_law_177 (lv_at hl 3 rfl) ?_
  refine lv_iload zx zb dL_law_179 (lv_at hl 1 rfl) ?_
  refine bs_rem (r := 0) zx zb dL_law_181 ⟨by omega, by omega⟩ ⟨by omega, by omega⟩ (by omega) (by decide) ?_
  refine lv_istore (lv' := [(14, .int (iI 0)), (13, .int (iI 0)), (12, .int (iI 3)), (11, .int (iI 0)), (10, .int (iI 0)), (9, .int (iI 9)), (0, .ref b), (1, .ref (g.1 0)), (2, .ref u2), (3, .ref u3), (4, .int (iI 0)), (5, .int (iI 0)), (6, .int (iI 1)), (7, .int (iI 260)), (8, .int (iI 3))]) zx zb dL_law_182 hl (by decide) rfl (fun ls hl => ?_)
  refine lv_iload zx zb dL_law_184 (lv_at hl 1 rfl) ?_
  refine bz_ne (tgt := 193) zx zb dL_law_186 (by decide) ⟨by omega, by omega⟩ (fun zq => absurd zq (by omega)) (fun _ => ?_)
  refine bi_const (n := 0) zx zb dL_law_189 ?_
  refine lv_goto (tgt := 200) zx zb dL_law_190 (by decide) ?_
  refine lv_istore (lv' := [(15, .int (iI 0)), (14, .int (iI 0)), (13, .int (iI 0)), (12, .int (iI 3)), (11, .int (iI 0)), (10, .int (iI 0)), (9, .int (iI 9)), (0, .ref b), (1, .ref (g.1 0)), (2, .ref u2), (3, .ref u3), (4, .int (iI 0)), (5, .int (iI 0)), (6, .int (iI 1)), (7, .int (iI 260)), (8, .int (iI 3))]) zx zb dL_law_200 hl (by decide) rfl (fun ls hl => ?_)
  refine lv_iload zx zb dL_law_202 (lv_at hl 5 rfl) ?_
  refine bi_const (n := 4) zx zb dL_law_204 ?_
  refine bs_shr (r := 0) zx zb dL_law_205 (by decide) ?_
  refine bi_sip (n := 360) zx zb dL_law_206 (by decide) ?_
  refine bs_rem (r := 0) zx zb dL_law_209 ⟨by omega, by omega⟩ ⟨by omega, by omega⟩ (by omega) (by decide) ?_
  refine lv_istore (lv' := [(16, .int (iI 0)), (15, .int (iI 0)), (14, .int (iI 0)), (13, .int (iI 0)), (12, .int (iI 3)), (11, .int (iI 0)), (10, .int (iI 0)), (9, .int (iI 9)), (0, .ref b), (1, .ref (g.1 0)), (2, .ref u2), (3, .ref u3), (4, .int (iI 0)), (5, .int (iI 0)), (6, .int (iI 1)), (7, .int (iI 260)), (8, .int (iI 3))]) zx zb dL_law_210 hl (by decide) rfl (fun ls hl => ?_)
  refine lv_iload zx zb dL_law_212 (lv_at hl 6 rfl) ?_
  refine bi_bip (n := 11) zx zb dL_law_214 (by decide) ?_
  refine bs_shr (r := 0) zx zb dL_law_216 (by decide) ?_
  refine bi_sip (n := 181) zx zb dL_law_217 (by decide) ?_
  refine bs_rem (r := 0) zx zb dL_law_220 ⟨by omega, by omega⟩ ⟨by omega, by omega⟩ (by omega) (by decide) ?_
  refine bi_bip (n := 90) zx zb dL_law_221 (by decide) ?_
  refine bs_sub (r := (-90)) zx zb dL_law_223 (by decide) ?_
  refine lv_istore (lv' := [(17, .int (iI (-90))), (16, .int (iI 0)), (15, .int (iI 0)), (14, .int (iI 0)), (13, .int (iI 0)), (12, .int (iI 3)), (11, .int (iI 0)), (10, .int (iI 0)), (9, .int (iI 9)), (0, .ref b), (1, .ref (g.1 0)), (2, .ref u2), (3, .ref u3), (4, .int (iI 0)), (5, .int (iI 0)), (6, .int (iI 1)), (7, .int (iI 260)), (8, .int (iI 3))]) zx zb dL_law_224 hl (by decide) rfl (fun ls hl => ?_)
  refine lv_iload zx zb dL_law_226 (lv_at hl 6 rfl) ?_
  refine bz_ne (tgt := 295) zx zb dL_law_228 (by decide) ⟨by omega, by omega⟩ (fun zq => absurd zq (by omega)) (fun _ => ?_)
  refine lv_iload zx zb dL_law_231 (lv_at hl 5 rfl) ?_
  refine bi_bip (n := 24) zx zb dL_law_233 (by decide) ?_
  refine bq_ge (tgt := 295) zx zb dL_law_235 (by decide) ⟨by omega, by omega⟩ ⟨by omega, by omega⟩ (fun zq => absurd zq (by omega)) (fun _ => ?_)
  refine lv_aload_n zx zb dL_law_238 rfl (lv_at hl 10 rfl) ?_
  refine lv_iload zx zb dL_law_239 (lv_at hl 1 rfl) ?_
  refine lv_iload zx zb dL_law_241 (lv_at hl 0 rfl) ?_
  refine cvZ (r' := 3) (rest := []) (As := [.int (iI 0), .int (iI (-90))]) (b := g.1 0) C0 hH hN (c_X6_addStar l g S 0 (-90) ⟨⟨by omega, by omega⟩, by omega, by omega⟩ (by have := F.ns; omega)) F.ns kw_L_82 ky_X6_addStar ⟨by have := hR.1; omega, by have := hR.2; omega⟩ ⟨by omega, by omega⟩ 0 rfl rfl rfl hl.1 rfl (Nat.le_of_ble_eq_true rfl) dL_law_243 (fun H locs hH hN => ?_)
  have F1 : Fr (adS S 0 (-90)) 4 0 := F.add (by omega)
  refine lv_iload zx zb dL_law_246 (lv_at hl 5 rfl) ?_
  refine bq_ne (tgt := 286) zx zb dL_law_248 (by decide) ⟨by omega, by omega⟩ ⟨by omega, by omega⟩ (fun zq => absurd zq (by omega)) (fun _ => ?_)
  refine lv_aload_n zx zb dL_law_251 rfl (lv_at hl 10 rfl) ?_
  refine lv_iload zx zb dL_law_252 (lv_at hl 5 rfl) ?_
  refine cvZ (r' := (-1)) (rest := []) (As := [.int (iI 3)]) (b := g.1 0) C0 hH hN (k_X6_figureOf l g (adS S 0 (-90)) 3 F1 ⟨by omega, by omega⟩) rfl kw_L_38 ky_X6_figureOf ⟨by have := hR.1; omega, by have := hR.2; omega⟩ ⟨by omega, by omega⟩ 0 rfl rfl rfl hl.1 rfl (Nat.le_of_ble_eq_true rfl) dL_law_254 (fun H locs hH hN => ?_)
  refine bi_const (n := (-1)) zx zb dL_law_257 ?_
  refine bq_ne (tgt := 286) zx zb dL_law_258 (by decide) ⟨by omega, by omega⟩ ⟨by omega, by omega⟩ (fun zq => absurd zq (by omega)) (fun _ => ?_)
  refine lv_aload_n zx zb dL_law_261 rfl (lv_at hl 10 rfl) ?_
  refine lv_iload zx zb dL_law_262 (lv_at hl 5 rfl) ?_
  refine cvZ (r' := 0) (rest := []) (As := [.int (iI 3)]) (b := g.1 0) C0 hH hN (c_X6_placeOf l g (adS S 0 (-90)) 3 F1.hn1 (by have := F1.ns; omega)) (F.pl) kw_L_32 ky_X6_placeOf ⟨by have := hR.1; omega, by have := hR.2; omega⟩ ⟨by omega, by omega⟩ 0 rfl rfl rfl hl.1 rfl (Nat.le_of_ble_eq_true rfl) dL_law_264 (fun H locs hH hN => ?_)
  refine bi_sip (n := 1000) zx zb dL_law_267 (by decide) ?_
  refine lv_iload zx zb dL_law_270 (lv_at hl 1 rfl) ?_
  refine bs_mul (r := 0) zx zb dL_law_272 (by decide) ?_
  refine lv_iload zx zb dL_law_273 (lv_at hl 0 rfl) ?_
  refine bs_add (r := (-90)) zx zb dL_law_275 (by decide) ?_
  refine bi_bip (n := 90) zx zb dL_law_276 (by decide) ?_
  refine bs_add (r := 0) zx zb dL_law_278 (by decide) ?_
  refine bq_ne (tgt := 286) zx zb dL_law_279 (by decide) ⟨by omega, by omega⟩ ⟨by omega, by omega⟩ (fun zq => absurd zq (by omega)) (fun _ => ?_)
  refine bi_const (n := 1) zx zb dL_law_282 ?_
  refine lv_goto (tgt := 287) zx zb dL_law_283 (by decide) ?_
  refine lv_istore (lv' := [(6, .int (iI 1)), (17, .int (iI (-90))), (16, .int (iI 0)), (15, .int (iI 0)), (14, .int (iI 0)), (13, .int (iI 0)), (12, .int (iI 3)), (11, .int (iI 0)), (10, .int (iI 0)), (9, .int (iI 9)), (0, .ref b), (1, .ref (g.1 0)), (2, .ref u2), (3, .ref u3), (4, .int (iI 0)), (5, .int (iI 0)), (7, .int (iI 260)), (8, .int (iI 3))]) zx zb dL_law_287 hl (by decide) rfl (fun ls hl => ?_)
  refine bi_const (n := 0) zx zb dL_law_289 ?_
  refine lv_istore (lv' := [(4, .int (iI 0)), (6, .int (iI 1)), (17, .int (iI (-90))), (16, .int (iI 0)), (15, .int (iI 0)), (14, .int (iI 0)), (13, .int (iI 0)), (12, .int (iI 3)), (11, .int (iI 0)), (10, .int (iI 0)), (9, .int (iI 9)), (0, .ref b), (1, .ref (g.1 0)), (2, .ref u2), (3, .ref u3), (5, .int (iI 0)), (7, .int (iI 260)), (8, .int (iI 3))]) zx zb dL_law_290 hl (by decide) rfl (fun ls hl => ?_)
  refine lv_goto (tgt := 1124) zx zb dL_law_292 (by decide) ?_
  refine bi_const (n := 0) zx zb dL_law_1124 ?_
  refine lv_istore (lv' := [(18, .int (iI 0)), (4, .int (iI 0)), (6, .int (iI 1)), (17, .int (iI (-90))), (16, .int (iI 0)), (15, .int (iI 0)), (14, .int (iI 0)), (13, .int (iI 0)), (12, .int (iI 3)), (11, .int (iI 0)), (10, .int (iI 0)), (9, .int (iI 9)), (0, .ref b), (1, .ref (g.1 0)), (2, .ref u2), (3, .ref u3), (5, .int (iI 0)), (7, .int (iI 260)), (8, .int (iI 3))]) zx zb dL_law_1125 hl (by decide) rfl (fun ls hl => ?_)
  refine bi_const (n := 0) zx zb dL_law_1127 ?_
  refine lv_istore (lv' := [(19, .int (iI 0)), (18, .int (iI 0)), (4, .int (iI 0)), (6, .int (iI 1)), (17, .int (iI (-90))), (16, .int (iI 0)), (15, .int (iI 0)), (14, .int (iI 0)), (13, .int (iI 0)), (12, .int (iI 3)), (11, .int (iI 0)), (10, .int (iI 0)), (9, .int (iI 9)), (0, .ref b), (1, .ref (g.1 0)), (2, .ref u2), (3, .ref u3), (5, .int (iI 0)), (7, .int (iI 260)), (8, .int (iI 3))]) zx zb dL_law_1128 hl (by decide) rfl (fun ls hl => ?_)
  refine lv_iload zx zb dL_law_1130 (lv_at hl 0 rfl) ?_
  refine lv_iload zx zb dL_law_1132 (lv_at hl 17 rfl) ?_
  refine bq_ge (tgt := 1240) zx zb dL_law_1134 (by decide) ⟨by omega, by omega⟩ ⟨by omega, by omega⟩ (fun _ => ?_) (fun zq => absurd zq (by omega))
  refine lv_iload zx zb dL_law_1240 (lv_at hl 3 rfl) ?_
  refine bz_eq (tgt := 1265) zx zb dL_law_1242 (by decide) ⟨by omega, by omega⟩ (fun zq => absurd zq (by omega)) (fun _ => ?_)
  refine lv_aload_n zx zb dL_law_1245 rfl (lv_at hl 14 rfl) ?_
  refine cvZ (r' := 0) (rest := []) (As := []) (b := g.1 0) C0 hH hN (k_X6_wrong l g (adS S 0 (-90)) F1) rfl kw_L_76 ky_X6_wrong ⟨by have := hR.1; omega, by have := hR.2; omega⟩ ⟨by omega, by omega⟩ 0 rfl rfl rfl hl.1 rfl (Nat.le_of_ble_eq_true rfl) dL_law_1246 (fun H locs hH hN => ?_)
  refine lv_iload zx zb dL_law_1249 (lv_at hl 1 rfl) ?_
  refine bq_ne (tgt := 1265) zx zb dL_law_1251 (by decide) ⟨by omega, by omega⟩ ⟨by omega, by omega⟩ (fun zq => absurd zq (by omega)) (fun _ => ?_)
  refine lv_aload_n zx zb dL_law_1254 rfl (lv_at hl 14 rfl) ?_
  refine csZ (r' := 1) (rest := []) (As := [.ref (g.1 0)]) C0 hH hN (c_L_areNames l g (adS S 0 (-90)) 4 0 F1) rfl kw_L_119 ky_L_areNames ⟨by have := hR.1; omega, by have := hR.2; omega⟩ ⟨by omega, by omega⟩ rfl hl.1 rfl (Nat.le_of_ble_eq_true rfl) dL_law_1255 (fun H locs hH hN => ?_)
  refine bz_eq (tgt := 1265) zx zb dL_law_1258 (by decide) ⟨by omega, by omega⟩ (fun zq => absurd zq (by omega)) (fun _ => ?_)
  refine bi_const (n := 1) zx zb dL_law_1261 ?_
  refine lv_goto (tgt := 1266) zx zb dL_law_1262 (by decide) ?_
  refine lv_istore (lv' := [(6, .int (iI 1)), (19, .int (iI 0)), (18, .int (iI 0)), (4, .int (iI 0)), (17, .int (iI (-90))), (16, .int (iI 0)), (15, .int (iI 0)), (14, .int (iI 0)), (13, .int (iI 0)), (12, .int (iI 3)), (11, .int (iI 0)), (10, .int (iI 0)), (9, .int (iI 9)), (0, .ref b), (1, .ref (g.1 0)), (2, .ref u2), (3, .ref u3), (5, .int (iI 0)), (7, .int (iI 260)), (8, .int (iI 3))]) zx zb dL_law_1266 hl (by decide) rfl (fun ls hl => ?_)
  refine lv_iload zx zb dL_law_1268 (lv_at hl 0 rfl) ?_
  refine bz_eq (tgt := 1353) zx zb dL_law_1270 (by decide) ⟨by omega, by omega⟩ (fun zq => absurd zq (by omega)) (fun _ => ?_)
  refine lv_aload_n zx zb dL_law_1273 rfl (lv_at hl 14 rfl) ?_
  refine cvZ (r' := 0) (rest := []) (As := []) (b := g.1 0) C0 hH hN (k_X6_figures l g (adS S 0 (-90)) F1) rfl kw_L_41 ky_X6_figures ⟨by have := hR.1; omega, by have := hR.2; omega⟩ ⟨by omega, by omega⟩ 0 rfl rfl rfl hl.1 rfl (Nat.le_of_ble_eq_true rfl) dL_law_1274 (fun H locs hH hN => ?_)
  refine bz_eq (tgt := 1349) zx zb dL_law_1277 (by decide) ⟨by omega, by omega⟩ (fun _ => ?_) (fun zq => absurd zq (by omega))
  refine bi_const (n := 1) zx zb dL_law_1349 ?_
  refine lv_goto (tgt := 1354) zx zb dL_law_1350 (by decide) ?_
  refine lv_istore (lv' := [(6, .int (iI 1)), (19, .int (iI 0)), (18, .int (iI 0)), (4, .int (iI 0)), (17, .int (iI (-90))), (16, .int (iI 0)), (15, .int (iI 0)), (14, .int (iI 0)), (13, .int (iI 0)), (12, .int (iI 3)), (11, .int (iI 0)), (10, .int (iI 0)), (9, .int (iI 9)), (0, .ref b), (1, .ref (g.1 0)), (2, .ref u2), (3, .ref u3), (5, .int (iI 0)), (7, .int (iI 260)), (8, .int (iI 3))]) zx zb dL_law_1354 hl (by decide) rfl (fun ls hl => ?_)
  refine bi_inc (k0 := 19) (n := 1) (lv' := [(8, .int (iI (3 + 1))), (6, .int (iI 1)), (19, .int (iI 0)), (18, .int (iI 0)), (4, .int (iI 0)), (17, .int (iI (-90))), (16, .int (iI 0)), (15, .int (iI 0)), (14, .int (iI 0)), (13, .int (iI 0)), (12, .int (iI 3)), (11, .int (iI 0)), (10, .int (iI 0)), (9, .int (iI 9)), (0, .ref b), (1, .ref (g.1 0)), (2, .ref u2), (3, .ref u3), (5, .int (iI 0)), (7, .int (iI 260))]) zx zb dL_law_1356 hl rfl (by decide) rfl (fun ls hl => ?_)
  refine lv_goto (tgt := 73) zx zb dL_law_1359 (by decide) ?_
  exact kk _ _ _ _ F1 hH hN (lv_sub hl [14, 15, 16, 17, 4, 18, 1, 19, 0] rfl)
set_option maxRecDepth 100000 in
set_option maxHeartbeats 8000000 in
theorem tn_4 {p : Program} {l : Launch} {e : Env} {R : Room} {s : State} {m : MethodId} {args : Array Value} {below : List Frame} {meth : Method} {c : Code} {H : Heap} {locs : List Loc} {cells slots : Nat} {Q : State → Prop} {g : gT} {S : gSt} {ls : Array Slot} {b u2 u3 N : Nat} {xs : Nat → Int32} (C0 : Ct p s m args c g RL cL_law 24) (hfl : l.stackTraces = false) (hX : va_X b 260 xs s s.heap) (hxs : ∀ k : Nat, k < 260 → xs k = 9) (hbl : b < s.heap.size) (hbA : ¬ oA g b) (hR : R.frames = 11 ∧ R.locals = 410) (hcs : cells + 1 ≤ R.cells ∧ slots + 6 ≤ R.slots) (F : Fr S 4 0) (hH : Hp g S s H locs) (hN : N ≤ H.size) (hl : lv_has ls 24 [(0, .ref b), (1, .ref (g.1 0)), (2, .ref u2), (3, .ref u3), (4, .int (iI 0)), (5, .int (iI 0)), (6, .int (iI 1)), (7, .int (iI 260)), (8, .int (iI 4))])
    (kk : ∀ (S9 : gSt) (H9 : Heap) (locs9 : List Loc) (ls9 : Array Slot), Fr S9 5 0 → Hp g S9 s H9 locs9 → N ≤ H9.size → lv_has ls9 24 [(0, .ref b), (1, .ref (g.1 0)), (2, .ref u2), (3, .ref u3), (4, .int (iI 0)), (5, .int (iI 0)), (6, .int (iI 1)), (7, .int (iI 260)), (8, .int (iI 5))] → W p l e R s m args below meth c H9 locs9 cells slots Q (F0 m 73 ls9 [])) : W p l e R s m args below meth c H locs cells slots Q (F0 m 73 ls []) := by
  have zx := C0.1
  have zb := C0.2.1
  refine lv_iload zx zb dL_law_73 (lv_at hl 8 rfl) ?_
  refine lv_iload zx zb dL_law_75 (lv_at hl 7 rfl) ?_
  refine bq_ge (tgt := 1362) zx zb dL_law_77 (by decide) ⟨by omega, by omega⟩ ⟨by omega, by omega⟩ (fun zq => absurd zq (by omega)) (fun _ => ?_)
  refine lv_iload zx zb dL_law_80 (lv_at hl 6 rfl) ?_
  refine bz_eq (tgt := 1362) zx zb dL_law_82 (by decide) ⟨by omega, by omega⟩ (fun zq => absurd zq (by omega)) (fun _ => ?_)
  refine lv_iload zx zb dL_law_85 (lv_at hl 8 rfl) ?_
  refine lv_aload_n zx zb dL_law_87 rfl (lv_at hl 0 rfl) ?_
  refine va_slen zx zb hX hbl hbA hH.2 dL_law_88 ?_
  rw [show Int32.ofNat 260 = iI 260 by decide]
  refine bq_ge (tgt := 99) zx zb dL_law_89 (by decide) ⟨by omega, by omega⟩ ⟨by omega, by omega⟩ (fun zq => absurd zq (by omega)) (fun _ => ?_)
  refine lv_aload_n zx zb dL_law_92 rfl (lv_at hl 0 rfl) ?_
  refine lv_iload zx zb dL_law_93 (lv_at hl 8 rfl) ?_
  refine slG C0 hX hbl hbA (by decide) hH (by omega) (by omega) dL_law_95 ?_
  rw [show (xs (4 : Int).toNat).toInt = 9 by rw [hxs _ (by omega)]; rfl]
  refine lv_goto (tgt := 116) zx zb dL_law_96 (by decide) ?_
  refine lv_istore (lv' := [(9, .int (iI 9)), (0, .ref b), (1, .ref (g.1 0)), (2, .ref u2), (3, .ref u3), (4, .int (iI 0)), (5, .int (iI 0)), (6, .int (iI 1)), (7, .int (iI 260)), (8, .int (iI 4))]) zx zb dL_law_116 hl (by decide) rfl (fun ls hl => ?_)
  refine lv_iload zx zb dL_law_118 (lv_at hl 0 rfl) ?_
  refine bi_const (n := 4) zx zb dL_law_120 ?_
  refine bs_shr (r := 0) zx zb dL_law_121 (by decide) ?_
  refine bi_ldc (n := 268435455) zx zb C0.2.2.2.1 (C0.2.2.2.2.1.w (gm 588 (by decide +kernel) rfl)) dL_law_122 ?_
  refine bs_and (r := 0) zx zb dL_law_124 (by decide) ?_
  refine lv_istore (lv' := [(10, .int (iI 0)), (9, .int (iI 9)), (0, .ref b), (1, .ref (g.1 0)), (2, .ref u2), (3, .ref u3), (4, .int (iI 0)), (5, .int (iI 0)), (6, .int (iI 1)), (7, .int (iI 260)), (8, .int (iI 4))]) zx zb dL_law_125 hl (by decide) rfl (fun ls hl => ?_)
  refine lv_iload zx zb dL_law_127 (lv_at hl 10 rfl) ?_
  refine bi_bip (n := 6) zx zb dL_law_129 (by decide) ?_
  refine bq_ge (tgt := 138) zx zb dL_law_131 (by decide) ⟨by omega, by omega⟩ ⟨by omega, by omega⟩ (fun zq => absurd zq (by omega)) (fun _ => ?_)
  refine bi_const (n := 0) zx zb dL_law_134 ?_
  refine lv_goto (tgt := 154) zx zb dL_law_135 (by decide) ?_
  refine lv_istore (lv' := [(11, .int (iI 0)), (10, .int (iI 0)), (9, .int (iI 9)), (0, .ref b), (1, .ref (g.1 0)), (2, .ref u2), (3, .ref u3), (4, .int (iI 0)), (5, .int (iI 0)), (6, .int (iI 1)), (7, .int (iI 260)), (8, .int (iI 4))]) zx zb dL_law_154 hl (by decide) rfl (fun ls hl => ?_)
  refine lv_aload_n zx zb dL_law_156 rfl (lv_at hl 4 rfl) ?_
  refine cvZ (r' := 4) (rest := []) (As := []) (b := g.1 0) C0 hH hN (k_X6_stars l g S F) rfl kw_L_27 ky_X6_stars ⟨by have := hR.1; omega, by have := hR.2; omega⟩ ⟨by omega, by omega⟩ 0 rfl rfl rfl hl.1 rfl (Nat.le_of_ble_eq_true rfl) dL_law_157 (fun H locs hH hN => ?_)
  refine lv_istore (lv' := [(12, .int (iI 4)), (11, .int (iI 0)), (10, .int (iI 0)), (9, .int (iI 9)), (0, .ref b), (1, .ref (g.1 0)), (2, .ref u2), (3, .ref u3), (4, .int (iI 0)), (5, .int (iI 0)), (6, .int (iI 1)), (7, .int (iI 260)), (8, .int (iI 4))]) zx zb dL_law_160 hl (by decide) rfl (fun ls hl => ?_)
  refine lv_aload_n zx zb dL_law_162 rfl (lv_at hl 5 rfl) ?_
  refine cvZ (r' := 0) (rest := []) (As := []) (b := g.1 0) C0 hH hN (k_X6_figures l g S F) rfl kw_L_41 ky_X6_figures ⟨by have := hR.1; omega, by have := hR.2; omega⟩ ⟨by omega, by omega⟩ 0 rfl rfl rfl hl.1 rfl (Nat.le_of_ble_eq_true rfl) dL_law_163 (fun H locs hH hN => ?_)
  refine lv_istore (lv' := [(13, .int (iI 0)), (12, .int (iI 4)), (11, .int (iI 0)), (10, .int (iI 0)), (9, .int (iI 9)), (0, .ref b), (1, .ref (g.1 0)), (2, .ref u2), (3, .ref u3), (4, .int (iI 0)), (5, .int (iI 0)), (6, .int (iI 1)), (7, .int (iI 260)), (8, .int (iI 4))]) zx zb dL_law_166 hl (by decide) rfl (fun ls hl => ?_)
  refine lv_iload zx zb dL_law_168 (lv_at hl 1 rfl) ?_
  refine bz_ne (tgt := 177) zx zb dL_law_170 (by decide) ⟨by omega, by omega⟩ (fun _ => ?_) (fun zq => absurd zq (by omega))
  refine lv_iload zx zb dL_law_177 (lv_at hl 3 rfl) ?_
  refine lv_iload zx zb dL_law_179 (lv_at hl 1 rfl) ?_
  refine bs_rem (r := 0) zx zb dL_law_181 ⟨by omega, by omega⟩ ⟨by omega, by omega⟩ (by omega) (by decide) ?_
  refine lv_istore (lv' := [(14, .int (iI 0)), (13, .int (iI 0)), (12, .int (iI 4)), (11, .int (iI 0)), (10, .int (iI 0)), (9, .int (iI 9)), (0, .ref b), (1, .ref (g.1 0)), (2, .ref u2), (3, .ref u3), (4, .int (iI 0)), (5, .int (iI 0)), (6, .int (iI 1)), (7, .int (iI 260)), (8, .int (iI 4))]) zx zb dL_law_182 hl (by decide) rfl (fun ls hl => ?_)
  refine lv_iload zx zb dL_law_184 (lv_at hl 1 rfl) ?_
  refine bz_ne (tgt := 193) zx zb dL_law_186 (by decide) ⟨by omega, by omega⟩ (fun zq => absurd zq (by omega)) (fun _ => ?_)
  refine bi_const (n := 0) zx zb dL_law_189 ?_
  refine lv_goto (tgt := 200) zx zb dL_law_190 (by decide) ?_
  refine lv_istore (lv' := [(15, .int (iI 0)), (14, .int (iI 0)), (13, .int (iI 0)), (12, .int (iI 4)), (11, .int (iI 0)), (10, .int (iI 0)), (9, .int (iI 9)), (0, .ref b), (1, .ref (g.1 0)), (2, .ref u2), (3, .ref u3), (4, .int (iI 0)), (5, .int (iI 0)), (6, .int (iI 1)), (7, .int (iI 260)), (8, .int (iI 4))]) zx zb dL_law_200 hl (by decide) rfl (fun ls hl => ?_)
  refine lv_iload zx zb dL_law_202 (lv_at hl 5 rfl) ?_
  refine bi_const (n := 4) zx zb dL_law_204 ?_
  refine bs_shr (r := 0) zx zb dL_law_205 (by decide) ?_
  refine bi_sip (n := 360) zx zb dL_law_206 (by decide) ?_
  refine bs_rem (r := 0) zx zb dL_law_209 ⟨by omega, by omega⟩ ⟨by omega, by omega⟩ (by omega) (by decide) ?_
  refine lv_istore (lv' := [(16, .int (iI 0)), (15, .int (iI 0)), (14, .int (iI 0)), (13, .int (iI 0)), (12, .int (iI 4)), (11, .int (iI 0)), (10, .int (iI 0)), (9, .int (iI 9)), (0, .ref b), (1, .ref (g.1 0)), (2, .ref u2), (3, .ref u3), (4, .int (iI 0)), (5, .int (iI 0)), (6, .int (iI 1)), (7, .int (iI 260)), (8, .int (iI 4))]) zx zb dL_law_210 hl (by decide) rfl (fun ls hl => ?_)
  refine lv_iload zx zb dL_law_212 (lv_at hl 6 rfl) ?_
  refine bi_bip (n := 11) zx zb dL_law_214 (by decide) ?_
  refine bs_shr (r := 0) zx zb dL_law_216 (by decide) ?_
  refine bi_sip (n := 181) zx zb dL_law_217 (by decide) ?_
  refine bs_rem (r := 0) zx zb dL_law_220 ⟨by omega, by omega⟩ ⟨by omega, by omega⟩ (by omega) (by decide) ?_
  refine bi_bip (n := 90) zx zb dL_law_221 (by decide) ?_
  refine bs_sub (r := (-90)) zx zb dL_law_223 (by decide) ?_
  refine lv_istore (lv' := [(17, .int (iI (-90))), (16, .int (iI 0)), (15, .int (iI 0)), (14, .int (iI 0)), (13, .int (iI 0)), (12, .int (iI 4)), (11, .int (iI 0)), (10, .int (iI 0)), (9, .int (iI 9)), (0, .ref b), (1, .ref (g.1 0)), (2, .ref u2), (3, .ref u3), (4, .int (iI 0)), (5, .int (iI 0)), (6, .int (iI 1)), (7, .int (iI 260)), (8, .int (iI 4))]) zx zb dL_law_224 hl (by decide) rfl (fun ls hl => ?_)
  refine lv_iload zx zb dL_law_226 (lv_at hl 6 rfl) ?_
  refine bz_ne (tgt := 295) zx zb dL_law_228 (by decide) ⟨by omega, by omega⟩ (fun zq => absurd zq (by omega)) (fun _ => ?_)
  refine lv_iload zx zb dL_law_231 (lv_at hl 5 rfl) ?_
  refine bi_bip (n := 24) zx zb dL_law_233 (by decide) ?_
  refine bq_ge (tgt := 295) zx zb dL_law_235 (by decide) ⟨by omega, by omega⟩ ⟨by omega, by omega⟩ (fun zq => absurd zq (by omega)) (fun _ => ?_)
  refine lv_aload_n zx zb dL_law_238 rfl (lv_at hl 10 rfl) ?_
  refine lv_iload zx zb dL_law_239 (lv_at hl 1 rfl) ?_
  refine lv_iload zx zb dL_law_241 (lv_at hl 0 rfl) ?_
  refine cvZ (r' := 4) (rest := []) (As := [.int (iI 0), .int (iI (-90))]) (b := g.1 0) C0 hH hN (c_X6_addStar l g S 0 (-90) ⟨⟨by omega, by omega⟩, by omega, by omega⟩ (by have := F.ns; omega)) F.ns kw_L_82 ky_X6_addStar ⟨by have := hR.1; omega, by have := hR.2; omega⟩ ⟨by omega, by omega⟩ 0 rfl rfl rfl hl.1 rfl (Nat.le_of_ble_eq_true rfl) dL_law_243 (fun H locs hH hN => ?_)
  have F1 : Fr (adS S 0 (-90)) 5 0 := F.add (by omega)
  refine lv_iload zx zb dL_law_246 (lv_at hl 5 rfl) ?_
  refine bq_ne (tgt := 286) zx zb dL_law_248 (by decide) ⟨by omega, by omega⟩ ⟨by omega, by omega⟩ (fun zq => absurd zq (by omega)) (fun _ => ?_)
  refine lv_aload_n zx zb dL_law_251 rfl (lv_at hl 10 rfl) ?_
  refine lv_iload zx zb dL_law_252 (lv_at hl 5 rfl) ?_
  refine cvZ (r' := (-1)) (rest := []) (As := [.int (iI 4)]) (b := g.1 0) C0 hH hN (k_X6_figureOf l g (adS S 0 (-90)) 4 F1 ⟨by omega, by omega⟩) rfl kw_L_38 ky_X6_figureOf ⟨by have := hR.1; omega, by have := hR.2; omega⟩ ⟨by omega, by omega⟩ 0 rfl rfl rfl hl.1 rfl (Nat.le_of_ble_eq_true rfl) dL_law_254 (fun H locs hH hN => ?_)
  refine bi_const (n := (-1)) zx zb dL_law_257 ?_
  refine bq_ne (tgt := 286) zx zb dL_law_258 (by decide) ⟨by omega, by omega⟩ ⟨by omega, by omega⟩ (fun zq => absurd zq (by omega)) (fun _ => ?_)
  refine lv_aload_n zx zb dL_law_261 rfl (lv_at hl 10 rfl) ?_
  refine lv_iload zx zb dL_law_262 (lv_at hl 5 rfl) ?_
  refine cvZ (r' := 0) (rest := []) (As := [.int (iI 4)]) (b := g.1 0) C0 hH hN (c_X6_placeOf l g (adS S 0 (-90)) 4 F1.hn1 (by have := F1.ns; omega)) (F.pl) kw_L_32 ky_X6_placeOf ⟨by have := hR.1; omega, by have := hR.2; omega⟩ ⟨by omega, by omega⟩ 0 rfl rfl rfl hl.1 rfl (Nat.le_of_ble_eq_true rfl) dL_law_264 (fun H locs hH hN => ?_)
  refine bi_sip (n := 1000) zx zb dL_law_267 (by decide) ?_
  refine lv_iload zx zb dL_law_270 (lv_at hl 1 rfl) ?_
  refine bs_mul (r := 0) zx zb dL_law_272 (by decide) ?_
  refine lv_iload zx zb dL_law_273 (lv_at hl 0 rfl) ?_
  refine bs_add (r := (-90)) zx zb dL_law_275 (by decide) ?_
  refine bi_bip (n := 90) zx zb dL_law_276 (by decide) ?_
  refine bs_add (r := 0) zx zb dL_law_278 (by decide) ?_
  refine bq_ne (tgt := 286) zx zb dL_law_279 (by decide) ⟨by omega, by omega⟩ ⟨by omega, by omega⟩ (fun zq => absurd zq (by omega)) (fun _ => ?_)
  refine bi_const (n := 1) zx zb dL_law_282 ?_
  refine lv_goto (tgt := 287) zx zb dL_law_283 (by decide) ?_
  refine lv_istore (lv' := [(6, .int (iI 1)), (17, .int (iI (-90))), (16, .int (iI 0)), (15, .int (iI 0)), (14, .int (iI 0)), (13, .int (iI 0)), (12, .int (iI 4)), (11, .int (iI 0)), (10, .int (iI 0)), (9, .int (iI 9)), (0, .ref b), (1, .ref (g.1 0)), (2, .ref u2), (3, .ref u3), (4, .int (iI 0)), (5, .int (iI 0)), (7, .int (iI 260)), (8, .int (iI 4))]) zx zb dL_law_287 hl (by decide) rfl (fun ls hl => ?_)
  refine bi_const (n := 0) zx zb dL_law_289 ?_
  refine lv_istore (lv' := [(4, .int (iI 0)), (6, .int (iI 1)), (17, .int (iI (-90))), (16, .int (iI 0)), (15, .int (iI 0)), (14, .int (iI 0)), (13, .int (iI 0)), (12, .int (iI 4)), (11, .int (iI 0)), (10, .int (iI 0)), (9, .int (iI 9)), (0, .ref b), (1, .ref (g.1 0)), (2, .ref u2), (3, .ref u3), (5, .int (iI 0)), (7, .int (iI 260)), (8, .int (iI 4))]) zx zb dL_law_290 hl (by decide) rfl (fun ls hl => ?_)
  refine lv_goto (tgt := 1124) zx zb dL_law_292 (by decide) ?_
  refine bi_const (n := 0) zx zb dL_law_1124 ?_
  refine lv_istore (lv' := [(18, .int (iI 0)), (4, .int (iI 0)), (6, .int (iI 1)), (17, .int (iI (-90))), (16, .int (iI 0)), (15, .int (iI 0)), (14, .int (iI 0)), (13, .int (iI 0)), (12, .int (iI 4)), (11, .int (iI 0)), (10, .int (iI 0)), (9, .int (iI 9)), (0, .ref b), (1, .ref (g.1 0)), (2, .ref u2), (3, .ref u3), (5, .int (iI 0)), (7, .int (iI 260)), (8, .int (iI 4))]) zx zb dL_law_1125 hl (by decide) rfl (fun ls hl => ?_)
  refine bi_const (n := 0) zx zb dL_law_1127 ?_
  refine lv_istore (lv' := [(19, .int (iI 0)), (18, .int (iI 0)), (4, .int (iI 0)), (6, .int (iI 1)), (17, .int (iI (-90))), (16, .int (iI 0)), (15, .int (iI 0)), (14, .int (iI 0)), (13, .int (iI 0)), (12, .int (iI 4)), (11, .int (iI 0)), (10, .int (iI 0)), (9, .int (iI 9)), (0, .ref b), (1, .ref (g.1 0)), (2, .ref u2), (3, .ref u3), (5, .int (iI 0)), (7, .int (iI 260)), (8, .int (iI 4))]) zx zb dL_law_1128 hl (by decide) rfl (fun ls hl => ?_)
  refine lv_iload zx zb dL_law_1130 (lv_at hl 0 rfl) ?_
  refine lv_iload zx zb dL_law_1132 (lv_at hl 17 rfl) ?_
  refine bq_ge (tgt := 1240) zx zb dL_law_1134 (by decide) ⟨by omega, by omega⟩ ⟨by omega, by omega⟩ (fun _ => ?_) (fun zq => absurd zq (by omega))
  refine lv_iload zx zb dL_law_1240 (lv_at hl 3 rfl) ?_
  refine bz_eq (tgt := 1265) zx zb dL_law_1242 (by decide) ⟨by omega, by omega⟩ (fun zq => absurd zq (by omega)) (fun _ => ?_)
  refine lv_aload_n zx zb dL_law_1245 rfl (lv_at hl 14 rfl) ?_
  refine cvZ (r' := 0) (rest := []) (As := []) (b := g.1 0) C0 hH hN (k_X6_wrong l g (adS S 0 (-90)) F1) rfl kw_L_76 ky_X6_wrong ⟨by have := hR.1; omega, by have := hR.2; omega⟩ ⟨by omega, by omega⟩ 0 rfl rfl rfl hl.1 rfl (Nat.le_of_ble_eq_true rfl) dL_law_1246 (fun H locs hH hN => ?_)
  refine lv_iload zx zb dL_law_1249 (lv_at hl 1 rfl) ?_
  refine bq_ne (tgt := 1265) zx zb dL_law_1251 (by decide) ⟨by omega, by omega⟩ ⟨by omega, by omega⟩ (fun zq => absurd zq (by omega)) (fun _ => ?_)
  refine lv_aload_n zx zb dL_law_1254 rfl (lv_at hl 14 rfl) ?_
  refine csZ (r' := 1) (rest := []) (As := [.ref (g.1 0)]) C0 hH hN (c_L_areNames l g (adS S 0 (-90)) 5 0 F1) rfl kw_L_119 ky_L_areNames ⟨by have := hR.1; omega, by have := hR.2; omega⟩ ⟨by omega, by omega⟩ rfl hl.1 rfl (Nat.le_of_ble_eq_true rfl) dL_law_1255 (fun H locs hH hN => ?_)
  refine bz_eq (tgt := 1265) zx zb dL_law_1258 (by decide) ⟨by omega, by omega⟩ (fun zq => absurd zq (by omega)) (fun _ => ?_)
  refine bi_const (n := 1) zx zb dL_law_1261 ?_
  refine lv_goto (tgt := 1266) zx zb dL_law_1262 (by decide) ?_
  refine lv_istore (lv' := [(6, .int (iI 1)), (19, .int (iI 0)), (18, .int (iI 0)), (4, .int (iI 0)), (17, .int (iI (-90))), (16, .int (iI 0)), (15, .int (iI 0)), (14, .int (iI 0)), (13, .int (iI 0)), (12, .int (iI 4)), (11, .int (iI 0)), (10, .int (iI 0)), (9, .int (iI 9)), (0, .ref b), (1, .ref (g.1 0)), (2, .ref u2), (3, .ref u3), (5, .int (iI 0)), (7, .int (iI 260)), (8, .int (iI 4))]) zx zb dL_law_1266 hl (by decide) rfl (fun ls hl => ?_)
  refine lv_iload zx zb dL_law_1268 (lv_at hl 0 rfl) ?_
  refine bz_eq (tgt := 1353) zx zb dL_law_1270 (by decide) ⟨by omega, by omega⟩ (fun zq => absurd zq (by omega)) (fun _ => ?_)
  refine lv_aload_n zx zb dL_law_1273 rfl (lv_at hl 14 rfl) ?_
  refine cvZ (r' := 0) (rest := []) (As := []) (b := g.1 0) C0 hH hN (k_X6_figures l g (adS S 0 (-90)) F1) rfl kw_L_41 ky_X6_figures ⟨by have := hR.1; omega, by have := hR.2; omega⟩ ⟨by omega, by omega⟩ 0 rfl rfl rfl hl.1 rfl (Nat.le_of_ble_eq_true rfl) dL_law_1274 (fun H locs hH hN => ?_)
  refine bz_eq (tgt := 1349) zx zb dL_law_1277 (by decide) ⟨by omega, by omega⟩ (fun _ => ?_) (fun zq => absurd zq (by omega))
  refine bi_const (n := 1) zx zb dL_law_1349 ?_
  refine lv_goto (tgt := 1354) zx zb dL_law_1350 (by decide) ?_
  refine lv_istore (lv' := [(6, .int (iI 1)), (19, .int (iI 0)), (18, .int (iI 0)), (4, .int (iI 0)), (17, .int (iI (-90))), (16, .int (iI 0)), (15, .int (iI 0)), (14, .int (iI 0)), (13, .int (iI 0)), (12, .int (iI 4)), (11, .int (iI 0)), (10, .int (iI 0)), (9, .int (iI 9)), (0, .ref b), (1, .ref (g.1 0)), (2, .ref u2), (3, .ref u3), (5, .int (iI 0)), (7, .int (iI 260)), (8, .int (iI 4))]) zx zb dL_law_1354 hl (by decide) rfl (fun ls hl => ?_)
  refine bi_inc (k0 := 19) (n := 1) (lv' := [(8, .int (iI (4 + 1))), (6, .int (iI 1)), (19, .int (iI 0)), (18, .int (iI 0)), (4, .int (iI 0)), (17, .int (iI (-90))), (16, .int (iI 0)), (15, .int (iI 0)), (14, .int (iI 0)), (13, .int (iI 0)), (12, .int (iI 4)), (11, .int (iI 0)), (10, .int (iI 0)), (9, .int (iI 9)), (0, .ref b), (1, .ref (g.1 0)), (2, .ref u2), (3, .ref u3), (5, .int (iI 0)), (7, .int (iI 260))]) zx zb dL_law_1356 hl rfl (by decide) rfl (fun ls hl => ?_)
  refine lv_goto (tgt := 73) zx zb dL_law_1359 (by decide) ?_
  exact kk _ _ _ _ F1 hH hN (lv_sub hl [14, 15, 16, 17, 4, 18, 1, 19, 0] rfl)
set_option maxRecDepth 100000 in
set_option maxHeartbeats 8000000 in
theorem tn_5 {p : Program} {l : Launch} {e : Env} {R : Room} {s : State} {m : MethodId} {args : Array Value} {below : List Frame} {meth : Method} {c : Code} {H : Heap} {locs : List Loc} {cells slots : Nat} {Q : State → Prop} {g : gT} {S : gSt} {ls : Array Slot} {b u2 u3 N : Nat} {xs : Nat → Int32} (C0 : Ct p s m args c g RL cL_law 24) (hfl : l.stackTraces = false) (hX : va_X b 260 xs s s.heap) (hxs : ∀ k : Nat, k < 260 → xs k = 9) (hbl : b < s.heap.size) (hbA : ¬ oA g b) (hR : R.frames = 11 ∧ R.locals = 410) (hcs : cells + 1 ≤ R.cells ∧ slots + 6 ≤ R.slots) (F : Fr S 5 0) (hH : Hp g S s H locs) (hN : N ≤ H.size) (hl : lv_has ls 24 [(0, .ref b), (1, .ref (g.1 0)), (2, .ref u2), (3, .ref u3), (4, .int (iI 0)), (5, .int (iI 0)), (6, .int (iI 1)), (7, .int (iI 260)), (8, .int (iI 5))])
    (kk : ∀ (S9 : gSt) (H9 : Heap) (locs9 : List Loc) (ls9 : Array Slot), Fr S9 6 0 → Hp g S9 s H9 locs9 → N ≤ H9.size → lv_has ls9 24 [(0, .ref b), (1, .ref (g.1 0)), (2, .ref u2), (3, .ref u3), (4, .int (iI 0)), (5, .int (iI 0)), (6, .int (iI 1)), (7, .int (iI 260)), (8, .int (iI 6))] → W p l e R s m args below meth c H9 locs9 cells slots Q (F0 m 73 ls9 [])) : W p l e R s m args below meth c H locs cells slots Q (F0 m 73 ls []) := by
  have zx := C0.1
  have zb := C0.2.1
  refine lv_iload zx zb dL_law_73 (lv_at hl 8 rfl) ?_
  refine lv_iload zx zb dL_law_75 (lv_at hl 7 rfl) ?_
  refine bq_ge (tgt := 1362) zx zb dL_law_77 (by decide) ⟨by omega, by omega⟩ ⟨by omega, by omega⟩ (fun zq => absurd zq (by omega)) (fun _ => ?_)
  refine lv_iload zx zb dL_law_80 (lv_at hl 6 rfl) ?_
  refine bz_eq (tgt := 1362) zx zb dL_law_82 (by decide) ⟨by omega, by omega⟩ (fun zq => absurd zq (by omega)) (fun _ => ?_)
  refine lv_iload zx zb dL_law_85 (lv_at hl 8 rfl) ?_
  refine lv_aload_n zx zb dL_law_87 rfl (lv_at hl 0 rfl) ?_
  refine va_slen zx zb hX hbl hbA hH.2 dL_law_88 ?_
  rw [show Int32.ofNat 260 = iI 260 by decide]
  refine bq_ge (tgt := 99) zx zb dL_law_89 (by decide) ⟨by omega, by omega⟩ ⟨by omega, by omega⟩ (fun zq => absurd zq (by omega)) (fun _ => ?_)
  refine lv_aload_n zx zb dL_law_92 rfl (lv_at hl 0 rfl) ?_
  refine lv_iload zx zb dL_law_93 (lv_at hl 8 rfl) ?_
  refine slG C0 hX hbl hbA (by decide) hH (by omega) (by omega) dL_law_95 ?_
  rw [show (xs (5 : Int).toNat).toInt = 9 by rw [hxs _ (by omega)]; rfl]
  refine lv_goto (tgt := 116) zx zb dL_law_96 (by decide) ?_
  refine lv_istore (lv' := [(9, .int (iI 9)), (0, .ref b), (1, .ref (g.1 0)), (2, .ref u2), (3, .ref u3), (4, .int (iI 0)), (5, .int (iI 0)), (6, .int (iI 1)), (7, .int (iI 260)), (8, .int (iI 5))]) zx zb dL_law_116 hl (by decide) rfl (fun ls hl => ?_)
  refine lv_iload zx zb dL_law_118 (lv_at hl 0 rfl) ?_
  refine bi_const (n := 4) zx zb dL_law_120 ?_
  refine bs_shr (r := 0) zx zb dL_law_121 (by decide) ?_
  refine bi_ldc (n := 268435455) zx zb C0.2.2.2.1 (C0.2.2.2.2.1.w (gm 588 (by decide +kernel) rfl)) dL_law_122 ?_
  refine bs_and (r := 0) zx zb dL_law_124 (by decide) ?_
  refine lv_istore (lv' := [(10, .int (iI 0)), (9, .int (iI 9)), (0, .ref b), (1, .ref (g.1 0)), (2, .ref u2), (3, .ref u3), (4, .int (iI 0)), (5, .int (iI 0)), (6, .int (iI 1)), (7, .int (iI 260)), (8, .int (iI 5))]) zx zb dL_law_125 hl (by decide) rfl (fun ls hl => ?_)
  refine lv_iload zx zb dL_law_127 (lv_at hl 10 rfl) ?_
  refine bi_bip (n := 6) zx zb dL_law_129 (by decide) ?_
  refine bq_ge (tgt := 138) zx zb dL_law_131 (by decide) ⟨by omega, by omega⟩ ⟨by omega, by omega⟩ (fun zq => absurd zq (by omega)) (fun _ => ?_)
  refine bi_const (n := 0) zx zb dL_law_134 ?_
  refine lv_goto (tgt := 154) zx zb dL_law_135 (by decide) ?_
  refine lv_istore (lv' := [(11, .int (iI 0)), (10, .int (iI 0)), (9, .int (iI 9)), (0, .ref b), (1, .ref (g.1 0)), (2, .ref u2), (3, .ref u3), (4, .int (iI 0)), (5, .int (iI 0)), (6, .int (iI 1)), (7, .int (iI 260)), (8, .int (iI 5))]) zx zb dL_law_154 hl (by decide) rfl (fun ls hl => ?_)
  refine lv_aload_n zx zb dL_law_156 rfl (lv_at hl 4 rfl) ?_
  refine cvZ (r' := 5) (rest := []) (As := []) (b := g.1 0) C0 hH hN (k_X6_stars l g S F) rfl kw_L_27 ky_X6_stars ⟨by have := hR.1; omega, by have := hR.2; omega⟩ ⟨by omega, by omega⟩ 0 rfl rfl rfl hl.1 rfl (Nat.le_of_ble_eq_true rfl) dL_law_157 (fun H locs hH hN => ?_)
  refine lv_istore (lv' := [(12, .int (iI 5)), (11, .int (iI 0)), (10, .int (iI 0)), (9, .int (iI 9)), (0, .ref b), (1, .ref (g.1 0)), (2, .ref u2), (3, .ref u3), (4, .int (iI 0)), (5, .int (iI 0)), (6, .int (iI 1)), (7, .int (iI 260)), (8, .int (iI 5))]) zx zb dL_law_160 hl (by decide) rfl (fun ls hl => ?_)
  refine lv_aload_n zx zb dL_law_162 rfl (lv_at hl 5 rfl) ?_
  refine cvZ (r' := 0) (rest := []) (As := []) (b := g.1 0) C0 hH hN (k_X6_figures l g S F) rfl kw_L_41 ky_X6_figures ⟨by have := hR.1; omega, by have := hR.2; omega⟩ ⟨by omega, by omega⟩ 0 rfl rfl rfl hl.1 rfl (Nat.le_of_ble_eq_true rfl) dL_law_163 (fun H locs hH hN => ?_)
  refine lv_istore (lv' := [(13, .int (iI 0)), (12, .int (iI 5)), (11, .int (iI 0)), (10, .int (iI 0)), (9, .int (iI 9)), (0, .ref b), (1, .ref (g.1 0)), (2, .ref u2), (3, .ref u3), (4, .int (iI 0)), (5, .int (iI 0)), (6, .int (iI 1)), (7, .int (iI 260)), (8, .int (iI 5))]) zx zb dL_law_166 hl (by decide) rfl (fun ls hl => ?_)
  refine lv_iload zx zb dL_law_168 (lv_at hl 1 rfl) ?_
  refine bz_ne (tgt := 177) zx zb dL_law_170 (by decide) ⟨by omega, by omega⟩ (fun _ => ?_) (fun zq => absurd zq (by omega))
  refine lv_iload zx zb dL_law_177 (lv_at hl 3 rfl) ?_
  refine lv_iload zx zb dL_law_179 (lv_at hl 1 rfl) ?_
  refine bs_rem (r := 0) zx zb dL_law_181 ⟨by omega, by omega⟩ ⟨by omega, by omega⟩ (by omega) (by decide) ?_
  refine lv_istore (lv' := [(14, .int (iI 0)), (13, .int (iI 0)), (12, .int (iI 5)), (11, .int (iI 0)), (10, .int (iI 0)), (9, .int (iI 9)), (0, .ref b), (1, .ref (g.1 0)), (2, .ref u2), (3, .ref u3), (4, .int (iI 0)), (5, .int (iI 0)), (6, .int (iI 1)), (7, .int (iI 260)), (8, .int (iI 5))]) zx zb dL_law_182 hl (by decide) rfl (fun ls hl => ?_)
  refine lv_iload zx zb dL_law_184 (lv_at hl 1 rfl) ?_
  refine bz_ne (tgt := 193) zx zb dL_law_186 (by decide) ⟨by omega, by omega⟩ (fun zq => absurd zq (by omega)) (fun _ => ?_)
  refine bi_const (n := 0) zx zb dL_law_189 ?_
  refine lv_goto (tgt := 200) zx zb dL_law_190 (by decide) ?_
  refine lv_istore (lv' := [(15, .int (iI 0)), (14, .int (iI 0)), (13, .int (iI 0)), (12, .int (iI 5)), (11, .int (iI 0)), (10, .int (iI 0)), (9, .int (iI 9)), (0, .ref b), (1, .ref (g.1 0)), (2, .ref u2), (3, .ref u3), (4, .int (iI 0)), (5, .int (iI 0)), (6, .int (iI 1)), (7, .int (iI 260)), (8, .int (iI 5))]) zx zb dL_law_200 hl (by decide) rfl (fun ls hl => ?_)
  refine lv_iload zx zb dL_law_202 (lv_at hl 5 rfl) ?_
  refine bi_const (n := 4) zx zb dL_law_204 ?_
  refine bs_shr (r := 0) zx zb dL_law_205 (by decide) ?_
  refine bi_sip (n := 360) zx zb dL_law_206 (by decide) ?_
  refine bs_rem (r := 0) zx zb dL_law_209 ⟨by omega, by omega⟩ ⟨by omega, by omega⟩ (by omega) (by decide) ?_
  refine lv_istore (lv' := [(16, .int (iI 0)), (15, .int (iI 0)), (14, .int (iI 0)), (13, .int (iI 0)), (12, .int (iI 5)), (11, .int (iI 0)), (10, .int (iI 0)), (9, .int (iI 9)), (0, .ref b), (1, .ref (g.1 0)), (2, .ref u2), (3, .ref u3), (4, .int (iI 0)), (5, .int (iI 0)), (6, .int (iI 1)), (7, .int (iI 260)), (8, .int (iI 5))]) zx zb dL_law_210 hl (by decide) rfl (fun ls hl => ?_)
  refine lv_iload zx zb dL_law_212 (lv_at hl 6 rfl) ?_
  refine bi_bip (n := 11) zx zb dL_law_214 (by decide) ?_
  refine bs_shr (r := 0) zx zb dL_law_216 (by decide) ?_
  refine bi_sip (n := 181) zx zb dL_law_217 (by decide) ?_
  refine bs_rem (r := 0) zx zb dL_law_220 ⟨by omega, by omega⟩ ⟨by omega, by omega⟩ (by omega) (by decide) ?_
  refine bi_bip (n := 90) zx zb dL_law_221 (by decide) ?_
  refine bs_sub (r := (-90)) zx zb dL_law_223 (by decide) ?_
  refine lv_istore (lv' := [(17, .int (iI (-90))), (16, .int (iI 0)), (15, .int (iI 0)), (14, .int (iI 0)), (13, .int (iI 0)), (12, .int (iI 5)), (11, .int (iI 0)), (10, .int (iI 0)), (9, .int (iI 9)), (0, .ref b), (1, .ref (g.1 0)), (2, .ref u2), (3, .ref u3), (4, .int (iI 0)), (5, .int (iI 0)), (6, .int (iI 1)), (7, .int (iI 260)), (8, .int (iI 5))]) zx zb dL_law_224 hl (by decide) rfl (fun ls hl => ?_)
  refine lv_iload zx zb dL_law_226 (lv_at hl 6 rfl) ?_
  refine bz_ne (tgt := 295) zx zb dL_law_228 (by decide) ⟨by omega, by omega⟩ (fun zq => absurd zq (by omega)) (fun _ => ?_)
  refine lv_iload zx zb dL_law_231 (lv_at hl 5 rfl) ?_
  refine bi_bip (n := 24) zx zb dL_law_233 (by decide) ?_
  refine bq_ge (tgt := 295) zx zb dL_law_235 (by decide) ⟨by omega, by omega⟩ ⟨by omega, by omega⟩ (fun zq => absurd zq (by omega)) (fun _ => ?_)
  refine lv_aload_n zx zb dL_law_238 rfl (lv_at hl 10 rfl) ?_
  refine lv_iload zx zb dL_law_239 (lv_at hl 1 rfl) ?_
  refine lv_iload zx zb dL_law_241 (lv_at hl 0 rfl) ?_
  refine cvZ (r' := 5) (rest := []) (As := [.int (iI 0), .int (iI (-90))]) (b := g.1 0) C0 hH hN (c_X6_addStar l g S 0 (-90) ⟨⟨by omega, by omega⟩, by omega, by omega⟩ (by have := F.ns; omega)) F.ns kw_L_82 ky_X6_addStar ⟨by have := hR.1; omega, by have := hR.2; omega⟩ ⟨by omega, by omega⟩ 0 rfl rfl rfl hl.1 rfl (Nat.le_of_ble_eq_true rfl) dL_law_243 (fun H locs hH hN => ?_)
  have F1 : Fr (adS S 0 (-90)) 6 0 := F.add (by omega)
  refine lv_iload zx zb dL_law_246 (lv_at hl 5 rfl) ?_
  refine bq_ne (tgt := 286) zx zb dL_law_248 (by decide) ⟨by omega, by omega⟩ ⟨by omega, by omega⟩ (fun zq => absurd zq (by omega)) (fun _ => ?_)
  refine lv_aload_n zx zb dL_law_251 rfl (lv_at hl 10 rfl) ?_
  refine lv_iload zx zb dL_law_252 (lv_at hl 5 rfl) ?_
  refine cvZ (r' := (-1)) (rest := []) (As := [.int (iI 5)]) (b := g.1 0) C0 hH hN (k_X6_figureOf l g (adS S 0 (-90)) 5 F1 ⟨by omega, by omega⟩) rfl kw_L_38 ky_X6_figureOf ⟨by have := hR.1; omega, by have := hR.2; omega⟩ ⟨by omega, by omega⟩ 0 rfl rfl rfl hl.1 rfl (Nat.le_of_ble_eq_true rfl) dL_law_254 (fun H locs hH hN => ?_)
  refine bi_const (n := (-1)) zx zb dL_law_257 ?_
  refine bq_ne (tgt := 286) zx zb dL_law_258 (by decide) ⟨by omega, by omega⟩ ⟨by omega, by omega⟩ (fun zq => absurd zq (by omega)) (fun _ => ?_)
  refine lv_aload_n zx zb dL_law_261 rfl (lv_at hl 10 rfl) ?_
  refine lv_iload zx zb dL_law_262 (lv_at hl 5 rfl) ?_
  refine cvZ (r' := 0) (rest := []) (As := [.int (iI 5)]) (b := g.1 0) C0 hH hN (c_X6_placeOf l g (adS S 0 (-90)) 5 F1.hn1 (by have := F1.ns; omega)) (F.pl) kw_L_32 ky_X6_placeOf ⟨by have := hR.1; omega, by have := hR.2; omega⟩ ⟨by omega, by omega⟩ 0 rfl rfl rfl hl.1 rfl (Nat.le_of_ble_eq_true rfl) dL_law_264 (fun H locs hH hN => ?_)
  refine bi_sip (n := 1000) zx zb dL_law_267 (by decide) ?_
  refine lv_iload zx zb dL_law_270 (lv_at hl 1 rfl) ?_
  refine bs_mul (r := 0) zx zb dL_law_272 (by decide) ?_
  refine lv_iload zx zb dL_law_273 (lv_at hl 0 rfl) ?_
  refine bs_add (r := (-90)) zx zb dL_law_275 (by decide) ?_
  refine bi_bip (n := 90) zx zb dL_law_276 (by decide) ?_
  refine bs_add (r := 0) zx zb dL_law_278 (by decide) ?_
  refine bq_ne (tgt := 286) zx zb dL_law_279 (by decide) ⟨by omega, by omega⟩ ⟨by omega, by omega⟩ (fun zq => absurd zq (by omega)) (fun _ => ?_)
  refine bi_const (n := 1) zx zb dL_law_282 ?_
  refine lv_goto (tgt := 287) zx zb dL_law_283 (by decide) ?_
  refine lv_istore (lv' := [(6, .int (iI 1)), (17, .int (iI (-90))), (16, .int (iI 0)), (15, .int (iI 0)), (14, .int (iI 0)), (13, .int (iI 0)), (12, .int (iI 5)), (11, .int (iI 0)), (10, .int (iI 0)), (9, .int (iI 9)), (0, .ref b), (1, .ref (g.1 0)), (2, .ref u2), (3, .ref u3), (4, .int (iI 0)), (5, .int (iI 0)), (7, .int (iI 260)), (8, .int (iI 5))]) zx zb dL_law_287 hl (by decide) rfl (fun ls hl => ?_)
  refine bi_const (n := 0) zx zb dL_law_289 ?_
  refine lv_istore (lv' := [(4, .int (iI 0)), (6, .int (iI 1)), (17, .int (iI (-90))), (16, .int (iI 0)), (15, .int (iI 0)), (14, .int (iI 0)), (13, .int (iI 0)), (12, .int (iI 5)), (11, .int (iI 0)), (10, .int (iI 0)), (9, .int (iI 9)), (0, .ref b), (1, .ref (g.1 0)), (2, .ref u2), (3, .ref u3), (5, .int (iI 0)), (7, .int (iI 260)), (8, .int (iI 5))]) zx zb dL_law_290 hl (by decide) rfl (fun ls hl => ?_)
  refine lv_goto (tgt := 1124) zx zb dL_law_292 (by decide) ?_
  refine bi_const (n := 0) zx zb dL_law_1124 ?_
  refine lv_istore (lv' := [(18, .int (iI 0)), (4, .int (iI 0)), (6, .int (iI 1)), (17, .int (iI (-90))), (16, .int (iI 0)), (15, .int (iI 0)), (14, .int (iI 0)), (13, .int (iI 0)), (12, .int (iI 5)), (11, .int (iI 0)), (10, .int (iI 0)), (9, .int (iI 9)), (0, .ref b), (1, .ref (g.1 0)), (2, .ref u2), (3, .ref u3), (5, .int (iI 0)), (7, .int (iI 260)), (8, .int (iI 5))]) zx zb dL_law_1125 hl (by decide) rfl (fun ls hl => ?_)
  refine bi_const (n := 0) zx zb dL_law_1127 ?_
  refine lv_istore (lv' := [(19, .int (iI 0)), (18, .int (iI 0)), (4, .int (iI 0)), (6, .int (iI 1)), (17, .int (iI (-90))), (16, .int (iI 0)), (15, .int (iI 0)), (14, .int (iI 0)), (13, .int (iI 0)), (12, .int (iI 5)), (11, .int (iI 0)), (10, .int (iI 0)), (9, .int (iI 9)), (0, .ref b), (1, .ref (g.1 0)), (2, .ref u2), (3, .ref u3), (5, .int (iI 0)), (7, .int (iI 260)), (8, .int (iI 5))]) zx zb dL_law_1128 hl (by decide) rfl (fun ls hl => ?_)
  refine lv_iload zx zb dL_law_1130 (lv_at hl 0 rfl) ?_
  refine lv_iload zx zb dL_law_1132 (lv_at hl 17 rfl) ?_
  refine bq_ge (tgt := 1240) zx zb dL_law_1134 (by decide) ⟨by omega, by omega⟩ ⟨by omega, by omega⟩ (fun _ => ?_) (fun zq => absurd zq (by omega))
  refine lv_iload zx zb dL_law_1240 (lv_at hl 3 rfl) ?_
  refine bz_eq (tgt := 1265) zx zb dL_law_1242 (by decide) ⟨by omega, by omega⟩ (fun zq => absurd zq (by omega)) (fun _ => ?_)
  refine lv_aload_n zx zb dL_law_1245 rfl (lv_at hl 14 rfl) ?_
  refine cvZ (r' := 0) (rest := []) (As := []) (b := g.1 0) C0 hH hN (k_X6_wrong l g (adS S 0 (-90)) F1) rfl kw_L_76 ky_X6_wrong ⟨by have := hR.1; omega, by have := hR.2; omega⟩ ⟨by omega, by omega⟩ 0 rfl rfl rfl hl.1 rfl (Nat.le_of_ble_eq_true rfl) dL_law_1246 (fun H locs hH hN => ?_)
  refine lv_iload zx zb dL_law_1249 (lv_at hl 1 rfl) ?_
  refine bq_ne (tgt := 1265) zx zb dL_law_1251 (by decide) ⟨by omega, by omega⟩ ⟨by omega, by omega⟩ (fun zq => absurd zq (by omega)) (fun _ => ?_)
  refine lv_aload_n zx zb dL_law_1254 rfl (lv_at hl 14 rfl) ?_
  refine csZ (r' := 1) (rest := []) (As := [.ref (g.1 0)]) C0 hH hN (c_L_areNames l g (adS S 0 (-90)) 6 0 F1) rfl kw_L_119 ky_L_areNames ⟨by have := hR.1; omega, by have := hR.2; omega⟩ ⟨by omega, by omega⟩ rfl hl.1 rfl (Nat.le_of_ble_eq_true rfl) dL_law_1255 (fun H locs hH hN => ?_)
  refine bz_eq (tgt := 1265) zx zb dL_law_1258 (by decide) ⟨by omega, by omega⟩ (fun zq => absurd zq (by omega)) (fun _ => ?_)
  refine bi_const (n := 1) zx zb dL_law_1261 ?_
  refine lv_goto (tgt := 1266) zx zb dL_law_1262 (by decide) ?_
  refine lv_istore (lv' := [(6, .int (iI 1)), (19, .int (iI 0)), (18, .int (iI 0)), (4, .int (iI 0)), (17, .int (iI (-90))), (16, .int (iI 0)), (15, .int (iI 0)), (14, .int (iI 0)), (13, .int (iI 0)), (12, .int (iI 5)), (11, .int (iI 0)), (10, .int (iI 0)), (9, .int (iI 9)), (0, .ref b), (1, .ref (g.1 0)), (2, .ref u2), (3, .ref u3), (5, .int (iI 0)), (7, .int (iI 260)), (8, .int (iI 5))]) zx zb dL_law_1266 hl (by decide) rfl (fun ls hl => ?_)
  refine lv_iload zx zb dL_law_1268 (lv_at hl 0 rfl) ?_
  refine bz_eq (tgt := 1353) zx zb dL_law_1270 (by decide) ⟨by omega, by omega⟩ (fun zq => absurd zq (by omega)) (fun _ => ?_)
  refine lv_aload_n zx zb dL_law_1273 rfl (lv_at hl 14 rfl) ?_
  refine cvZ (r' := 0) (rest := []) (As := []) (b := g.1 0) C0 hH hN (k_X6_figures l g (adS S 0 (-90)) F1) rfl kw_L_41 ky_X6_figures ⟨by have := hR.1; omega, by have := hR.2; omega⟩ ⟨by omega, by omega⟩ 0 rfl rfl rfl hl.1 rfl (Nat.le_of_ble_eq_true rfl) dL_law_1274 (fun H locs hH hN => ?_)
  refine bz_eq (tgt := 1349) zx zb dL_law_1277 (by decide) ⟨by omega, by omega⟩ (fun _ => ?_) (fun zq => absurd zq (by omega))
  refine bi_const (n := 1) zx zb dL_law_1349 ?_
  refine lv_goto (tgt := 1354) zx zb dL_law_1350 (by decide) ?_
  refine lv_istore (lv' := [(6, .int (iI 1)), (19, .int (iI 0)), (18, .int (iI 0)), (4, .int (iI 0)), (17, .int (iI (-90))), (16, .int (iI 0)), (15, .int (iI 0)), (14, .int (iI 0)), (13, .int (iI 0)), (12, .int (iI 5)), (11, .int (iI 0)), (10, .int (iI 0)), (9, .int (iI 9)), (0, .ref b), (1, .ref (g.1 0)), (2, .ref u2), (3, .ref u3), (5, .int (iI 0)), (7, .int (iI 260)), (8, .int (iI 5))]) zx zb dL_law_1354 hl (by decide) rfl (fun ls hl => ?_)
  refine bi_inc (k0 := 19) (n := 1) (lv' := [(8, .int (iI (5 + 1))), (6, .int (iI 1)), (19, .int (iI 0)), (18, .int (iI 0)), (4, .int (iI 0)), (17, .int (iI (-90))), (16, .int (iI 0)), (15, .int (iI 0)), (14, .int (iI 0)), (13, .int (iI 0)), (12, .int (iI 5)), (11, .int (iI 0)), (10, .int (iI 0)), (9, .int (iI 9)), (0, .ref b), (1, .ref (g.1 0)), (2, .ref u2), (3, .ref u3), (5, .int (iI 0)), (7, .int (iI 260))]) zx zb dL_law_1356 hl rfl (by decide) rfl (fun ls hl => ?_)
  refine lv_goto (tgt := 73) zx zb dL_law_1359 (by decide) ?_
  exact kk _ _ _ _ F1 hH hN (lv_sub hl [14, 15, 16, 17, 4, 18, 1, 19, 0] rfl)
set_option maxRecDepth 100000 in
set_option maxHeartbeats 8000000 in
theorem tn_6 {p : Program} {l : Launch} {e : Env} {R : Room} {s : State} {m : MethodId} {args : Array Value} {below : List Frame} {meth : Method} {c : Code} {H : Heap} {locs : List Loc} {cells slots : Nat} {Q : State → Prop} {g : gT} {S : gSt} {ls : Array Slot} {b u2 u3 N : Nat} {xs : Nat → Int32} (C0 : Ct p s m args c g RL cL_law 24) (hfl : l.stackTraces = false) (hX : va_X b 260 xs s s.heap) (hxs : ∀ k : Nat, k < 260 → xs k = 9) (hbl : b < s.heap.size) (hbA : ¬ oA g b) (hR : R.frames = 11 ∧ R.locals = 410) (hcs : cells + 1 ≤ R.cells ∧ slots + 6 ≤ R.slots) (F : Fr S 6 0) (hH : Hp g S s H locs) (hN : N ≤ H.size) (hl : lv_has ls 24 [(0, .ref b), (1, .ref (g.1 0)), (2, .ref u2), (3, .ref u3), (4, .int (iI 0)), (5, .int (iI 0)), (6, .int (iI 1)), (7, .int (iI 260)), (8, .int (iI 6))])
    (kk : ∀ (S9 : gSt) (H9 : Heap) (locs9 : List Loc) (ls9 : Array Slot), Fr S9 6 1 → Hp g S9 s H9 locs9 → N ≤ H9.size → lv_has ls9 24 [(0, .ref b), (1, .ref (g.1 0)), (2, .ref u2), (3, .ref u3), (4, .int (iI 0)), (5, .int (iI 0)), (6, .int (iI 1)), (7, .int (iI 260)), (8, .int (iI 7))] → W p l e R s m args below meth c H9 locs9 cells slots Q (F0 m 73 ls9 [])) : W p l e R s m args below meth c H locs cells slots Q (F0 m 73 ls []) := by
  have zx := C0.1
  have zb := C0.2.1
  refine lv_iload zx zb dL_law_73 (lv_at hl 8 rfl) ?_
  refine lv_iload zx zb dL_law_75 (lv_at hl 7 rfl) ?_
  refine bq_ge (tgt := 1362) zx zb dL_law_77 (by decide) ⟨by omega, by omega⟩ ⟨by omega, by omega⟩ (fun zq => absurd zq (by omega)) (fun _ => ?_)
  refine lv_iload zx zb dL_law_80 (lv_at hl 6 rfl) ?_
  refine bz_eq (tgt := 1362) zx zb dL_law_82 (by decide) ⟨by omega, by omega⟩ (fun zq => absurd zq (by omega)) (fun _ => ?_)
  refine lv_iload zx zb dL_law_85 (lv_at hl 8 rfl) ?_
  refine lv_aload_n zx zb dL_law_87 rfl (lv_at hl 0 rfl) ?_
  refine va_slen zx zb hX hbl hbA hH.2 dL_law_88 ?_
  rw [show Int32.ofNat 260 = iI 260 by decide]
  refine bq_ge (tgt := 99) zx zb dL_law_89 (by decide) ⟨by omega, by omega⟩ ⟨by omega, by omega⟩ (fun zq => absurd zq (by omega)) (fun _ => ?_)
  refine lv_aload_n zx zb dL_law_92 rfl (lv_at hl 0 rfl) ?_
  refine lv_iload zx zb dL_law_93 (lv_at hl 8 rfl) ?_
  refine slG C0 hX hbl hbA (by decide) hH (by omega) (by omega) dL_law_95 ?_
  rw [show (xs (6 : Int).toNat).toInt = 9 by rw [hxs _ (by omega)]; rfl]
  refine lv_goto (tgt := 116) zx zb dL_law_96 (by decide) ?_
  refine lv_istore (lv' := [(9, .int (iI 9)), (0, .ref b), (1, .ref (g.1 0)), (2, .ref u2), (3, .ref u3), (4, .int (iI 0)), (5, .int (iI 0)), (6, .int (iI 1)), (7, .int (iI 260)), (8, .int (iI 6))]) zx zb dL_law_116 hl (by decide) rfl (fun ls hl => ?_)
  refine lv_iload zx zb dL_law_118 (lv_at hl 0 rfl) ?_
  refine bi_const (n := 4) zx zb dL_law_120 ?_
  refine bs_shr (r := 0) zx zb dL_law_121 (by decide) ?_
  refine bi_ldc (n := 268435455) zx zb C0.2.2.2.1 (C0.2.2.2.2.1.w (gm 588 (by decide +kernel) rfl)) dL_law_122 ?_
  refine bs_and (r := 0) zx zb dL_law_124 (by decide) ?_
  refine lv_istore (lv' := [(10, .int (iI 0)), (9, .int (iI 9)), (0, .ref b), (1, .ref (g.1 0)), (2, .ref u2), (3, .ref u3), (4, .int (iI 0)), (5, .int (iI 0)), (6, .int (iI 1)), (7, .int (iI 260)), (8, .int (iI 6))]) zx zb dL_law_125 hl (by decide) rfl (fun ls hl => ?_)
  refine lv_iload zx zb dL_law_127 (lv_at hl 10 rfl) ?_
  refine bi_bip (n := 6) zx zb dL_law_129 (by decide) ?_
  refine bq_ge (tgt := 138) zx zb dL_law_131 (by decide) ⟨by omega, by omega⟩ ⟨by omega, by omega⟩ (fun _ => ?_) (fun zq => absurd zq (by omega))
  refine lv_iload zx zb dL_law_138 (lv_at hl 10 rfl) ?_
  refine bi_bip (n := 8) zx zb dL_law_140 (by decide) ?_
  refine bq_ge (tgt := 149) zx zb dL_law_142 (by decide) ⟨by omega, by omega⟩ ⟨by omega, by omega⟩ (fun zq => absurd zq (by omega)) (fun _ => ?_)
  refine bi_const (n := 1) zx zb dL_law_145 ?_
  refine lv_goto (tgt := 154) zx zb dL_law_146 (by decide) ?_
  refine lv_istore (lv' := [(11, .int (iI 1)), (10, .int (iI 0)), (9, .int (iI 9)), (0, .ref b), (1, .ref (g.1 0)), (2, .ref u2), (3, .ref u3), (4, .int (iI 0)), (5, .int (iI 0)), (6, .int (iI 1)), (7, .int (iI 260)), (8, .int (iI 6))]) zx zb dL_law_154 hl (by decide) rfl (fun ls hl => ?_)
  refine lv_aload_n zx zb dL_law_156 rfl (lv_at hl 4 rfl) ?_
  refine cvZ (r' := 6) (rest := []) (As := []) (b := g.1 0) C0 hH hN (k_X6_stars l g S F) rfl kw_L_27 ky_X6_stars ⟨by have := hR.1; omega, by have := hR.2; omega⟩ ⟨by omega, by omega⟩ 0 rfl rfl rfl hl.1 rfl (Nat.le_of_ble_eq_true rfl) dL_law_157 (fun H locs hH hN => ?_)
  refine lv_istore (lv' := [(12, .int (iI 6)), (11, .int (iI 1)), (10, .int (iI 0)), (9, .int (iI 9)), (0, .ref b), (1, .ref (g.1 0)), (2, .ref u2), (3, .ref u3), (4, .int (iI 0)), (5, .int (iI 0)), (6, .int (iI 1)), (7, .int (iI 260)), (8, .int (iI 6))]) zx zb dL_law_160 hl (by decide) rfl (fun ls hl => ?_)
  refine lv_aload_n zx zb dL_law_162 rfl (lv_at hl 5 rfl) ?_
  refine cvZ (r' := 0) (rest := []) (As := []) (b := g.1 0) C0 hH hN (k_X6_figures l g S F) rfl kw_L_41 ky_X6_figures ⟨by have := hR.1; omega, by have := hR.2; omega⟩ ⟨by omega, by omega⟩ 0 rfl rfl rfl hl.1 rfl (Nat.le_of_ble_eq_true rfl) dL_law_163 (fun H locs hH hN => ?_)
  refine lv_istore (lv' := [(13, .int (iI 0)), (12, .int (iI 6)), (11, .int (iI 1)), (10, .int (iI 0)), (9, .int (iI 9)), (0, .ref b), (1, .ref (g.1 0)), (2, .ref u2), (3, .ref u3), (4, .int (iI 0)), (5, .int (iI 0)), (6, .int (iI 1)), (7, .int (iI 260)), (8, .int (iI 6))]) zx zb dL_law_166 hl (by decide) rfl (fun ls hl => ?_)
  refine lv_iload zx zb dL_law_168 (lv_at hl 1 rfl) ?_
  refine bz_ne (tgt := 177) zx zb dL_law_170 (by decide) ⟨by omega, by omega⟩ (fun _ => ?_) (fun zq => absurd zq (by omega))
  refine lv_iload zx zb dL_law_177 (lv_at hl 3 rfl) ?_
  refine lv_iload zx zb dL_law_179 (lv_at hl 1 rfl) ?_
  refine bs_rem (r := 0) zx zb dL_law_181 ⟨by omega, by omega⟩ ⟨by omega, by omega⟩ (by omega) (by decide) ?_
  refine lv_istore (lv' := [(14, .int (iI 0)), (13, .int (iI 0)), (12, .int (iI 6)), (11, .int (iI 1)), (10, .int (iI 0)), (9, .int (iI 9)), (0, .ref b), (1, .ref (g.1 0)), (2, .ref u2), (3, .ref u3), (4, .int (iI 0)), (5, .int (iI 0)), (6, .int (iI 1)), (7, .int (iI 260)), (8, .int (iI 6))]) zx zb dL_law_182 hl (by decide) rfl (fun ls hl => ?_)
  refine lv_iload zx zb dL_law_184 (lv_at hl 1 rfl) ?_
  refine bz_ne (tgt := 193) zx zb dL_law_186 (by decide) ⟨by omega, by omega⟩ (fun zq => absurd zq (by omega)) (fun _ => ?_)
  refine bi_const (n := 0) zx zb dL_law_189 ?_
  refine lv_goto (tgt := 200) zx zb dL_law_190 (by decide) ?_
  refine lv_istore (lv' := [(15, .int (iI 0)), (14, .int (iI 0)), (13, .int (iI 0)), (12, .int (iI 6)), (11, .int (iI 1)), (10, .int (iI 0)), (9, .int (iI 9)), (0, .ref b), (1, .ref (g.1 0)), (2, .ref u2), (3, .ref u3), (4, .int (iI 0)), (5, .int (iI 0)), (6, .int (iI 1)), (7, .int (iI 260)), (8, .int (iI 6))]) zx zb dL_law_200 hl (by decide) rfl (fun ls hl => ?_)
  refine lv_iload zx zb dL_law_202 (lv_at hl 5 rfl) ?_
  refine bi_const (n := 4) zx zb dL_law_204 ?_
  refine bs_shr (r := 0) zx zb dL_law_205 (by decide) ?_
  refine bi_sip (n := 360) zx zb dL_law_206 (by decide) ?_
  refine bs_rem (r := 0) zx zb dL_law_209 ⟨by omega, by omega⟩ ⟨by omega, by omega⟩ (by omega) (by decide) ?_
  refine lv_istore (lv' := [(16, .int (iI 0)), (15, .int (iI 0)), (14, .int (iI 0)), (13, .int (iI 0)), (12, .int (iI 6)), (11, .int (iI 1)), (10, .int (iI 0)), (9, .int (iI 9)), (0, .ref b), (1, .ref (g.1 0)), (2, .ref u2), (3, .ref u3), (4, .int (iI 0)), (5, .int (iI 0)), (6, .int (iI 1)), (7, .int (iI 260)), (8, .int (iI 6))]) zx zb dL_law_210 hl (by decide) rfl (fun ls hl => ?_)
  refine lv_iload zx zb dL_law_212 (lv_at hl 6 rfl) ?_
  refine bi_bip (n := 11) zx zb dL_law_214 (by decide) ?_
  refine bs_shr (r := 0) zx zb dL_law_216 (by decide) ?_
  refine bi_sip (n := 181) zx zb dL_law_217 (by decide) ?_
  refine bs_rem (r := 0) zx zb dL_law_220 ⟨by omega, by omega⟩ ⟨by omega, by omega⟩ (by omega) (by decide) ?_
  refine bi_bip (n := 90) zx zb dL_law_221 (by decide) ?_
  refine bs_sub (r := (-90)) zx zb dL_law_223 (by decide) ?_
  refine lv_istore (lv' := [(17, .int (iI (-90))), (16, .int (iI 0)), (15, .int (iI 0)), (14, .int (iI 0)), (13, .int (iI 0)), (12, .int (iI 6)), (11, .int (iI 1)), (10, .int (iI 0)), (9, .int (iI 9)), (0, .ref b), (1, .ref (g.1 0)), (2, .ref u2), (3, .ref u3), (4, .int (iI 0)), (5, .int (iI 0)), (6, .int (iI 1)), (7, .int (iI 260)), (8, .int (iI 6))]) zx zb dL_law_224 hl (by decide) rfl (fun ls hl => ?_)
  refine lv_iload zx zb dL_law_226 (lv_at hl 6 rfl) ?_
  refine bz_ne (tgt := 295) zx zb dL_law_228 (by decide) ⟨by omega, by omega⟩ (fun _ => ?_) (fun zq => absurd zq (by omega))
  refine lv_iload zx zb dL_law_295 (lv_at hl 6 rfl) ?_
  refine bi_const (n := 1) zx zb dL_law_297 ?_
  refine bq_ne (tgt := 349) zx zb dL_law_298 (by decide) ⟨by omega, by omega⟩ ⟨by omega, by omega⟩ (fun zq => absurd zq (by omega)) (fun _ => ?_)
  refine lv_iload zx zb dL_law_301 (lv_at hl 4 rfl) ?_
  refine bi_bip (n := 8) zx zb dL_law_303 (by decide) ?_
  refine bq_ge (tgt := 349) zx zb dL_law_305 (by decide) ⟨by omega, by omega⟩ ⟨by omega, by omega⟩ (fun zq => absurd zq (by omega)) (fun _ => ?_)
  refine lv_aload_n zx zb dL_law_308 rfl (lv_at hl 10 rfl) ?_
  refine cvZ (r' := 0) (rest := []) (As := []) (b := g.1 0) C0 hH hN (c_X6_addFigure l g S (by have := F.nf; omega)) F.nf kw_L_85 ky_X6_addFigure ⟨by have := hR.1; omega, by have := hR.2; omega⟩ ⟨by omega, by omega⟩ 0 rfl rfl rfl hl.1 rfl (Nat.le_of_ble_eq_true rfl) dL_law_309 (fun H locs hH hN => ?_)
  have F1 : Fr (st S 4 0 (S 4 0 + 1)) 6 1 := F.fig (by omega)
  refine lv_iload zx zb dL_law_312 (lv_at hl 4 rfl) ?_
  refine bq_ne (tgt := 340) zx zb dL_law_314 (by decide) ⟨by omega, by omega⟩ ⟨by omega, by omega⟩ (fun zq => absurd zq (by omega)) (fun _ => ?_)
  refine lv_aload_n zx zb dL_law_317 rfl (lv_at hl 10 rfl) ?_
  refine lv_iload zx zb dL_law_318 (lv_at hl 4 rfl) ?_
  refine cvZ (r' := 0) (rest := []) (As := [.int (iI 0)]) (b := g.1 0) C0 hH hN (k_X6_lines l g (st S 4 0 (S 4 0 + 1)) 0 F1 ⟨by omega, by omega⟩) rfl kw_L_44 ky_X6_lines ⟨by have := hR.1; omega, by have := hR.2; omega⟩ ⟨by omega, by omega⟩ 0 rfl rfl rfl hl.1 rfl (Nat.le_of_ble_eq_true rfl) dL_law_320 (fun H locs hH hN => ?_)
  refine bz_ne (tgt := 340) zx zb dL_law_323 (by decide) ⟨by omega, by omega⟩ (fun zq => absurd zq (by omega)) (fun _ => ?_)
  refine lv_aload_n zx zb dL_law_326 rfl (lv_at hl 10 rfl) ?_
  refine lv_iload zx zb dL_law_327 (lv_at hl 4 rfl) ?_
  refine cvZ (r' := (-1)) (rest := []) (As := [.int (iI 0)]) (b := g.1 0) C0 hH hN (k_X6_nameOf l g (st S 4 0 (S 4 0 + 1)) 0 F1 ⟨by omega, by omega⟩) rfl kw_L_53 ky_X6_nameOf ⟨by have := hR.1; omega, by have := hR.2; omega⟩ ⟨by omega, by omega⟩ 0 rfl rfl rfl hl.1 rfl (Nat.le_of_ble_eq_true rfl) dL_law_329 (fun H locs hH hN => ?_)
  refine bi_const (n := (-1)) zx zb dL_law_332 ?_
  refine bq_ne (tgt := 340) zx zb dL_law_333 (by decide) ⟨by omega, by omega⟩ ⟨by omega, by omega⟩ (fun zq => absurd zq (by omega)) (fun _ => ?_)
  refine bi_const (n := 1) zx zb dL_law_336 ?_
  refine lv_goto (tgt := 341) zx zb dL_law_337 (by decide) ?_
  refine lv_istore (lv' := [(6, .int (iI 1)), (17, .int (iI (-90))), (16, .int (iI 0)), (15, .int (iI 0)), (14, .int (iI 0)), (13, .int (iI 0)), (12, .int (iI 6)), (11, .int (iI 1)), (10, .int (iI 0)), (9, .int (iI 9)), (0, .ref b), (1, .ref (g.1 0)), (2, .ref u2), (3, .ref u3), (4, .int (iI 0)), (5, .int (iI 0)), (7, .int (iI 260)), (8, .int (iI 6))]) zx zb dL_law_341 hl (by decide) rfl (fun ls hl => ?_)
  refine bi_const (n := 0) zx zb dL_law_343 ?_
  refine lv_istore (lv' := [(4, .int (iI 0)), (6, .int (iI 1)), (17, .int (iI (-90))), (16, .int (iI 0)), (15, .int (iI 0)), (14, .int (iI 0)), (13, .int (iI 0)), (12, .int (iI 6)), (11, .int (iI 1)), (10, .int (iI 0)), (9, .int (iI 9)), (0, .ref b), (1, .ref (g.1 0)), (2, .ref u2), (3, .ref u3), (5, .int (iI 0)), (7, .int (iI 260)), (8, .int (iI 6))]) zx zb dL_law_344 hl (by decide) rfl (fun ls hl => ?_)
  refine lv_goto (tgt := 1124) zx zb dL_law_346 (by decide) ?_
  refine bi_const (n := 0) zx zb dL_law_1124 ?_
  refine lv_istore (lv' := [(18, .int (iI 0)), (4, .int (iI 0)), (6, .int (iI 1)), (17, .int (iI (-90))), (16, .int (iI 0)), (15, .int (iI 0)), (14, .int (iI 0)), (13, .int (iI 0)), (12, .int (iI 6)), (11, .int (iI 1)), (10, .int (iI 0)), (9, .int (iI 9)), (0, .ref b), (1, .ref (g.1 0)), (2, .ref u2), (3, .ref u3), (5, .int (iI 0)), (7, .int (iI 260)), (8, .int (iI 6))]) zx zb dL_law_1125 hl (by decide) rfl (fun ls hl => ?_)
  refine bi_const (n := 0) zx zb dL_law_1127 ?_
  refine lv_istore (lv' := [(19, .int (iI 0)), (18, .int (iI 0)), (4, .int (iI 0)), (6, .int (iI 1)), (17, .int (iI (-90))), (16, .int (iI 0)), (15, .int (iI 0)), (14, .int (iI 0)), (13, .int (iI 0)), (12, .int (iI 6)), (11, .int (iI 1)), (10, .int (iI 0)), (9, .int (iI 9)), (0, .ref b), (1, .ref (g.1 0)), (2, .ref u2), (3, .ref u3), (5, .int (iI 0)), (7, .int (iI 260)), (8, .int (iI 6))]) zx zb dL_law_1128 hl (by decide) rfl (fun ls hl => ?_)
  refine lv_iload zx zb dL_law_1130 (lv_at hl 0 rfl) ?_
  refine lv_iload zx zb dL_law_1132 (lv_at hl 17 rfl) ?_
  refine bq_ge (tgt := 1240) zx zb dL_law_1134 (by decide) ⟨by omega, by omega⟩ ⟨by omega, by omega⟩ (fun _ => ?_) (fun zq => absurd zq (by omega))
  refine lv_iload zx zb dL_law_1240 (lv_at hl 3 rfl) ?_
  refine bz_eq (tgt := 1265) zx zb dL_law_1242 (by decide) ⟨by omega, by omega⟩ (fun zq => absurd zq (by omega)) (fun _ => ?_)
  refine lv_aload_n zx zb dL_law_1245 rfl (lv_at hl 14 rfl) ?_
  refine cvZ (r' := 0) (rest := []) (As := []) (b := g.1 0) C0 hH hN (k_X6_wrong l g (st S 4 0 (S 4 0 + 1)) F1) rfl kw_L_76 ky_X6_wrong ⟨by have := hR.1; omega, by have := hR.2; omega⟩ ⟨by omega, by omega⟩ 0 rfl rfl rfl hl.1 rfl (Nat.le_of_ble_eq_true rfl) dL_law_1246 (fun H locs hH hN => ?_)
  refine lv_iload zx zb dL_law_1249 (lv_at hl 1 rfl) ?_
  refine bq_ne (tgt := 1265) zx zb dL_law_1251 (by decide) ⟨by omega, by omega⟩ ⟨by omega, by omega⟩ (fun zq => absurd zq (by omega)) (fun _ => ?_)
  refine lv_aload_n zx zb dL_law_1254 rfl (lv_at hl 14 rfl) ?_
  refine csZ (r' := 1) (rest := []) (As := [.ref (g.1 0)]) C0 hH hN (c_L_areNames l g (st S 4 0 (S 4 0 + 1)) 6 1 F1) rfl kw_L_119 ky_L_areNames ⟨by have := hR.1; omega, by have := hR.2; omega⟩ ⟨by omega, by omega⟩ rfl hl.1 rfl (Nat.le_of_ble_eq_true rfl) dL_law_1255 (fun H locs hH hN => ?_)
  refine bz_eq (tgt := 1265) zx zb dL_law_1258 (by decide) ⟨by omega, by omega⟩ (fun zq => absurd zq (by omega)) (fun _ => ?_)
  refine bi_const (n := 1) zx zb dL_law_1261 ?_
  refine lv_goto (tgt := 1266) zx zb dL_law_1262 (by decide) ?_
  refine lv_istore (lv' := [(6, .int (iI 1)), (19, .int (iI 0)), (18, .int (iI 0)), (4, .int (iI 0)), (17, .int (iI (-90))), (16, .int (iI 0)), (15, .int (iI 0)), (14, .int (iI 0)), (13, .int (iI 0)), (12, .int (iI 6)), (11, .int (iI 1)), (10, .int (iI 0)), (9, .int (iI 9)), (0, .ref b), (1, .ref (g.1 0)), (2, .ref u2), (3, .ref u3), (5, .int (iI 0)), (7, .int (iI 260)), (8, .int (iI 6))]) zx zb dL_law_1266 hl (by decide) rfl (fun ls hl => ?_)
  refine lv_iload zx zb dL_law_1268 (lv_at hl 0 rfl) ?_
  refine bz_eq (tgt := 1353) zx zb dL_law_1270 (by decide) ⟨by omega, by omega⟩ (fun zq => absurd zq (by omega)) (fun _ => ?_)
  refine lv_aload_n zx zb dL_law_1273 rfl (lv_at hl 14 rfl) ?_
  refine cvZ (r' := 1) (rest := []) (As := []) (b := g.1 0) C0 hH hN (k_X6_figures l g (st S 4 0 (S 4 0 + 1)) F1) rfl kw_L_41 ky_X6_figures ⟨by have := hR.1; omega, by have := hR.2; omega⟩ ⟨by omega, by omega⟩ 0 rfl rfl rfl hl.1 rfl (Nat.le_of_ble_eq_true rfl) dL_law_1274 (fun H locs hH hN => ?_)
  refine bz_eq (tgt := 1349) zx zb dL_law_1277 (by decide) ⟨by omega, by omega⟩ (fun zq => absurd zq (by omega)) (fun _ => ?_)
  refine lv_aload_n zx zb dL_law_1280 rfl (lv_at hl 14 rfl) ?_
  refine lv_iload zx zb dL_law_1281 (lv_at hl 11 rfl) ?_
  refine lv_aload_n zx zb dL_law_1283 rfl (lv_at hl 14 rfl) ?_
  refine cvZ (r' := 1) (rest := [.int (iI 0), .ref (g.1 0)]) (As := []) (b := g.1 0) C0 hH hN (k_X6_figures l g (st S 4 0 (S 4 0 + 1)) F1) rfl kw_L_41 ky_X6_figures ⟨by have := hR.1; omega, by have := hR.2; omega⟩ ⟨by omega, by omega⟩ 0 rfl rfl rfl hl.1 rfl (Nat.le_of_ble_eq_true rfl) dL_law_1284 (fun H locs hH hN => ?_)
  refine bs_rem (r := 0) zx zb dL_law_1287 ⟨by omega, by omega⟩ ⟨by omega, by omega⟩ (by omega) (by decide) ?_
  refine lv_iload zx zb dL_law_1288 (lv_at hl 11 rfl) ?_
  refine bi_const (n := 3) zx zb dL_law_1290 ?_
  refine bs_shr (r := 0) zx zb dL_law_1291 (by decide) ?_
  refine bi_sip (n := 181) zx zb dL_law_1292 (by decide) ?_
  refine bs_rem (r := 0) zx zb dL_law_1295 ⟨by omega, by omega⟩ ⟨by omega, by omega⟩ (by omega) (by decide) ?_
  refine bi_bip (n := 90) zx zb dL_law_1296 (by decide) ?_
  refine bs_sub (r := (-90)) zx zb dL_law_1298 (by decide) ?_
  refine lv_iload zx zb dL_law_1299 (lv_at hl 11 rfl) ?_
  refine bi_bip (n := 7) zx zb dL_law_1301 (by decide) ?_
  refine bs_shr (r := 0) zx zb dL_law_1303 (by decide) ?_
  refine bi_sip (n := 365) zx zb dL_law_1304 (by decide) ?_
  refine bs_rem (r := 0) zx zb dL_law_1307 ⟨by omega, by omega⟩ ⟨by omega, by omega⟩ (by omega) (by decide) ?_
  refine lv_iload zx zb dL_law_1308 (lv_at hl 11 rfl) ?_
  refine bi_bip (n := 9) zx zb dL_law_1310 (by decide) ?_
  refine bs_shr (r := 0) zx zb dL_law_1312 (by decide) ?_
  refine bi_bip (n := 24) zx zb dL_law_1313 (by decide) ?_
  refine bs_rem (r := 0) zx zb dL_law_1315 ⟨by omega, by omega⟩ ⟨by omega, by omega⟩ (by omega) (by decide) ?_
  refine csZ (r' := 1) (rest := []) (As := [.ref (g.1 0), .int (iI 0), .int (iI (-90)), .int (iI 0), .int (iI 0)]) C0 hH hN (c_L_areHours l g (st S 4 0 (S 4 0 + 1)) 6 1 0 (-90) 0 0 F1 ⟨by omega, by omega⟩ ⟨by omega, by omega⟩ ⟨by omega, by omega⟩ ⟨by omega, by omega⟩) rfl kw_L_123 ky_L_areHours ⟨by have := hR.1; omega, by have := hR.2; omega⟩ ⟨by omega, by omega⟩ rfl hl.1 rfl (Nat.le_of_ble_eq_true rfl) dL_law_1316 (fun H locs hH hN => ?_)
  refine bz_eq (tgt := 1353) zx zb dL_law_1319 (by decide) ⟨by omega, by omega⟩ (fun zq => absurd zq (by omega)) (fun _ => ?_)
  refine lv_aload_n zx zb dL_law_1322 rfl (lv_at hl 14 rfl) ?_
  refine bi_const (n := 0) zx zb dL_law_1323 ?_
  refine lv_iload zx zb dL_law_1324 (lv_at hl 11 rfl) ?_
  refine lv_aload_n zx zb dL_law_1326 rfl (lv_at hl 14 rfl) ?_
  refine cvZ (r' := 1) (rest := [.int (iI 0), .int (iI 0), .ref (g.1 0)]) (As := []) (b := g.1 0) C0 hH hN (k_X6_figures l g (st S 4 0 (S 4 0 + 1)) F1) rfl kw_L_41 ky_X6_figures ⟨by have := hR.1; omega, by have := hR.2; omega⟩ ⟨by omega, by omega⟩ 0 rfl rfl rfl hl.1 rfl (Nat.le_of_ble_eq_true rfl) dL_law_1327 (fun H locs hH hN => ?_)
  refine bs_rem (r := 0) zx zb dL_law_1330 ⟨by omega, by omega⟩ ⟨by omega, by omega⟩ (by omega) (by decide) ?_
  refine cvZ (r' := 0) (rest := []) (As := [.int (iI 0), .int (iI 0)]) (b := g.1 0) C0 hH hN (k_X6_crossings l g (st S 4 0 (S 4 0 + 1)) 0 0 F1 ⟨by omega, by omega⟩ ⟨by omega, by omega⟩) rfl kw_L_49 ky_X6_crossings ⟨by have := hR.1; omega, by have := hR.2; omega⟩ ⟨by omega, by omega⟩ 0 rfl rfl rfl hl.1 rfl (Nat.le_of_ble_eq_true rfl) dL_law_1331 (fun H locs hH hN => ?_)
  refine lv_aload_n zx zb dL_law_1334 rfl (lv_at hl 14 rfl) ?_
  refine lv_iload zx zb dL_law_1335 (lv_at hl 11 rfl) ?_
  refine lv_aload_n zx zb dL_law_1337 rfl (lv_at hl 14 rfl) ?_
  refine cvZ (r' := 1) (rest := [.int (iI 0), .ref (g.1 0), .int (iI 0)]) (As := []) (b := g.1 0) C0 hH hN (k_X6_figures l g (st S 4 0 (S 4 0 + 1)) F1) rfl kw_L_41 ky_X6_figures ⟨by have := hR.1; omega, by have := hR.2; omega⟩ ⟨by omega, by omega⟩ 0 rfl rfl rfl hl.1 rfl (Nat.le_of_ble_eq_true rfl) dL_law_1338 (fun H locs hH hN => ?_)
  refine bs_rem (r := 0) zx zb dL_law_1341 ⟨by omega, by omega⟩ ⟨by omega, by omega⟩ (by omega) (by decide) ?_
  refine bi_const (n := 0) zx zb dL_law_1342 ?_
  refine cvZ (r' := 0) (rest := [.int (iI 0)]) (As := [.int (iI 0), .int (iI 0)]) (b := g.1 0) C0 hH hN (k_X6_crossings l g (st S 4 0 (S 4 0 + 1)) 0 0 F1 ⟨by omega, by omega⟩ ⟨by omega, by omega⟩) rfl kw_L_49 ky_X6_crossings ⟨by have := hR.1; omega, by have := hR.2; omega⟩ ⟨by omega, by omega⟩ 0 rfl rfl rfl hl.1 rfl (Nat.le_of_ble_eq_true rfl) dL_law_1343 (fun H locs hH hN => ?_)
  refine bq_ne (tgt := 1353) zx zb dL_law_1346 (by decide) ⟨by omega, by omega⟩ ⟨by omega, by omega⟩ (fun zq => absurd zq (by omega)) (fun _ => ?_)
  refine bi_const (n := 1) zx zb dL_law_1349 ?_
  refine lv_goto (tgt := 1354) zx zb dL_law_1350 (by decide) ?_
  refine lv_istore (lv' := [(6, .int (iI 1)), (19, .int (iI 0)), (18, .int (iI 0)), (4, .int (iI 0)), (17, .int (iI (-90))), (16, .int (iI 0)), (15, .int (iI 0)), (14, .int (iI 0)), (13, .int (iI 0)), (12, .int (iI 6)), (11, .int (iI 1)), (10, .int (iI 0)), (9, .int (iI 9)), (0, .ref b), (1, .ref (g.1 0)), (2, .ref u2), (3, .ref u3), (5, .int (iI 0)), (7, .int (iI 260)), (8, .int (iI 6))]) zx zb dL_law_1354 hl (by decide) rfl (fun ls hl => ?_)
  refine bi_inc (k0 := 19) (n := 1) (lv' := [(8, .int (iI (6 + 1))), (6, .int (iI 1)), (19, .int (iI 0)), (18, .int (iI 0)), (4, .int (iI 0)), (17, .int (iI (-90))), (16, .int (iI 0)), (15, .int (iI 0)), (14, .int (iI 0)), (13, .int (iI 0)), (12, .int (iI 6)), (11, .int (iI 1)), (10, .int (iI 0)), (9, .int (iI 9)), (0, .ref b), (1, .ref (g.1 0)), (2, .ref u2), (3, .ref u3), (5, .int (iI 0)), (7, .int (iI 260))]) zx zb dL_law_1356 hl rfl (by decide) rfl (fun ls hl => ?_)
  refine lv_goto (tgt := 73) zx zb dL_law_1359 (by decide) ?_
  exact kk _ _ _ _ F1 hH hN (lv_sub hl [14, 15, 16, 17, 4, 18, 1, 19, 0] rfl)
set_option maxRecDepth 100000 in
set_option maxHeartbeats 8000000 in
theorem tn_7 {p : Program} {l : Launch} {e : Env} {R : Room} {s : State} {m : MethodId} {args : Array Value} {below : List Frame} {meth : Method} {c : Code} {H : Heap} {locs : List Loc} {cells slots : Nat} {Q : State → Prop} {g : gT} {S : gSt} {ls : Array Slot} {b u2 u3 N : Nat} {xs : Nat → Int32} (C0 : Ct p s m args c g RL cL_law 24) (hfl : l.stackTraces = false) (hX : va_X b 260 xs s s.heap) (hxs : ∀ k : Nat, k < 260 → xs k = 9) (hbl : b < s.heap.size) (hbA : ¬ oA g b) (hR : R.frames = 11 ∧ R.locals = 410) (hcs : cells + 1 ≤ R.cells ∧ slots + 6 ≤ R.slots) (F : Fr S 6 1) (hH : Hp g S s H locs) (hN : N ≤ H.size) (hl : lv_has ls 24 [(0, .ref b), (1, .ref (g.1 0)), (2, .ref u2), (3, .ref u3), (4, .int (iI 0)), (5, .int (iI 0)), (6, .int (iI 1)), (7, .int (iI 260)), (8, .int (iI 7))])
    (kk : ∀ (S9 : gSt) (H9 : Heap) (locs9 : List Loc) (ls9 : Array Slot), Fr S9 6 2 → Hp g S9 s H9 locs9 → N ≤ H9.size → lv_has ls9 24 [(0, .ref b), (1, .ref (g.1 0)), (2, .ref u2), (3, .ref u3), (4, .int (iI 0)), (5, .int (iI 0)), (6, .int (iI 1)), (7, .int (iI 260)), (8, .int (iI 8))] → W p l e R s m args below meth c H9 locs9 cells slots Q (F0 m 73 ls9 [])) : W p l e R s m args below meth c H locs cells slots Q (F0 m 73 ls []) := by
  have zx := C0.1
  have zb := C0.2.1
  refine lv_iload zx zb dL_law_73 (lv_at hl 8 rfl) ?_
  refine lv_iload zx zb dL_law_75 (lv_at hl 7 rfl) ?_
  refine bq_ge (tgt := 1362) zx zb dL_law_77 (by decide) ⟨by omega, by omega⟩ ⟨by omega, by omega⟩ (fun zq => absurd zq (by omega)) (fun _ => ?_)
  refine lv_iload zx zb dL_law_80 (lv_at hl 6 rfl) ?_
  refine bz_eq (tgt := 1362) zx zb dL_law_82 (by decide) ⟨by omega, by omega⟩ (fun zq => absurd zq (by omega)) (fun _ => ?_)
  refine lv_iload zx zb dL_law_85 (lv_at hl 8 rfl) ?_
  refine lv_aload_n zx zb dL_law_87 rfl (lv_at hl 0 rfl) ?_
  refine va_slen zx zb hX hbl hbA hH.2 dL_law_88 ?_
  rw [show Int32.ofNat 260 = iI 260 by decide]
  refine bq_ge (tgt := 99) zx zb dL_law_89 (by decide) ⟨by omega, by omega⟩ ⟨by omega, by omega⟩ (fun zq => absurd zq (by omega)) (fun _ => ?_)
  refine lv_aload_n zx zb dL_law_92 rfl (lv_at hl 0 rfl) ?_
  refine lv_iload zx zb dL_law_93 (lv_at hl 8 rfl) ?_
  refine slG C0 hX hbl hbA (by decide) hH (by omega) (by omega) dL_law_95 ?_
  rw [show (xs (7 : Int).toNat).toInt = 9 by rw [hxs _ (by omega)]; rfl]
  refine lv_goto (tgt := 116) zx zb dL_law_96 (by decide) ?_
  refine lv_istore (lv' := [(9, .int (iI 9)), (0, .ref b), (1, .ref (g.1 0)), (2, .ref u2), (3, .ref u3), (4, .int (iI 0)), (5, .int (iI 0)), (6, .int (iI 1)), (7, .int (iI 260)), (8, .int (iI 7))]) zx zb dL_law_116 hl (by decide) rfl (fun ls hl => ?_)
  refine lv_iload zx zb dL_law_118 (lv_at hl 0 rfl) ?_
  refine bi_const (n := 4) zx zb dL_law_120 ?_
  refine bs_shr (r := 0) zx zb dL_law_121 (by decide) ?_
  refine bi_ldc (n := 268435455) zx zb C0.2.2.2.1 (C0.2.2.2.2.1.w (gm 588 (by decide +kernel) rfl)) dL_law_122 ?_
  refine bs_and (r := 0) zx zb dL_law_124 (by decide) ?_
  refine lv_istore (lv' := [(10, .int (iI 0)), (9, .int (iI 9)), (0, .ref b), (1, .ref (g.1 0)), (2, .ref u2), (3, .ref u3), (4, .int (iI 0)), (5, .int (iI 0)), (6, .int (iI 1)), (7, .int (iI 260)), (8, .int (iI 7))]) zx zb dL_law_125 hl (by decide) rfl (fun ls hl => ?_)
  refine lv_iload zx zb dL_law_127 (lv_at hl 10 rfl) ?_
  refine bi_bip (n := 6) zx zb dL_law_129 (by decide) ?_
  refine bq_ge (tgt := 138) zx zb dL_law_131 (by decide) ⟨by omega, by omega⟩ ⟨by omega, by omega⟩ (fun _ => ?_) (fun zq => absurd zq (by omega))
  refine lv_iload zx zb dL_law_138 (lv_at hl 10 rfl) ?_
  refine bi_bip (n := 8) zx zb dL_law_140 (by decide) ?_
  refine bq_ge (tgt := 149) zx zb dL_law_142 (by decide) ⟨by omega, by omega⟩ ⟨by omega, by omega⟩ (fun zq => absurd zq (by omega)) (fun _ => ?_)
  refine bi_const (n := 1) zx zb dL_law_145 ?_
  refine lv_goto (tgt := 154) zx zb dL_law_146 (by decide) ?_
  refine lv_istore (lv' := [(11, .int (iI 1)), (10, .int (iI 0)), (9, .int (iI 9)), (0, .ref b), (1, .ref (g.1 0)), (2, .ref u2), (3, .ref u3), (4, .int (iI 0)), (5, .int (iI 0)), (6, .int (iI 1)), (7, .int (iI 260)), (8, .int (iI 7))]) zx zb dL_law_154 hl (by decide) rfl (fun ls hl => ?_)
  refine lv_aload_n zx zb dL_law_156 rfl (lv_at hl 4 rfl) ?_
  refine cvZ (r' := 6) (rest := []) (As := []) (b := g.1 0) C0 hH hN (k_X6_stars l g S F) rfl kw_L_27 ky_X6_stars ⟨by have := hR.1; omega, by have := hR.2; omega⟩ ⟨by omega, by omega⟩ 0 rfl rfl rfl hl.1 rfl (Nat.le_of_ble_eq_true rfl) dL_law_157 (fun H locs hH hN => ?_)
  refine lv_istore (lv' := [(12, .int (iI 6)), (11, .int (iI 1)), (10, .int (iI 0)), (9, .int (iI 9)), (0, .ref b), (1, .ref (g.1 0)), (2, .ref u2), (3, .ref u3), (4, .int (iI 0)), (5, .int (iI 0)), (6, .int (iI 1)), (7, .int (iI 260)), (8, .int (iI 7))]) zx zb dL_law_160 hl (by decide) rfl (fun ls hl => ?_)
  refine lv_aload_n zx zb dL_law_162 rfl (lv_at hl 5 rfl) ?_
  refine cvZ (r' := 1) (rest := []) (As := []) (b := g.1 0) C0 hH hN (k_X6_figures l g S F) rfl kw_L_41 ky_X6_figures ⟨by have := hR.1; omega, by have := hR.2; omega⟩ ⟨by omega, by omega⟩ 0 rfl rfl rfl hl.1 rfl (Nat.le_of_ble_eq_true rfl) dL_law_163 (fun H locs hH hN => ?_)
  refine lv_istore (lv' := [(13, .int (iI 1)), (12, .int (iI 6)), (11, .int (iI 1)), (10, .int (iI 0)), (9, .int (iI 9)), (0, .ref b), (1, .ref (g.1 0)), (2, .ref u2), (3, .ref u3), (4, .int (iI 0)), (5, .int (iI 0)), (6, .int (iI 1)), (7, .int (iI 260)), (8, .int (iI 7))]) zx zb dL_law_166 hl (by decide) rfl (fun ls hl => ?_)
  refine lv_iload zx zb dL_law_168 (lv_at hl 1 rfl) ?_
  refine bz_ne (tgt := 177) zx zb dL_law_170 (by decide) ⟨by omega, by omega⟩ (fun _ => ?_) (fun zq => absurd zq (by omega))
  refine lv_iload zx zb dL_law_177 (lv_at hl 3 rfl) ?_
  refine lv_iload zx zb dL_law_179 (lv_at hl 1 rfl) ?_
  refine bs_rem (r := 0) zx zb dL_law_181 ⟨by omega, by omega⟩ ⟨by omega, by omega⟩ (by omega) (by decide) ?_
  refine lv_istore (lv' := [(14, .int (iI 0)), (13, .int (iI 1)), (12, .int (iI 6)), (11, .int (iI 1)), (10, .int (iI 0)), (9, .int (iI 9)), (0, .ref b), (1, .ref (g.1 0)), (2, .ref u2), (3, .ref u3), (4, .int (iI 0)), (5, .int (iI 0)), (6, .int (iI 1)), (7, .int (iI 260)), (8, .int (iI 7))]) zx zb dL_law_182 hl (by decide) rfl (fun ls hl => ?_)
  refine lv_iload zx zb dL_law_184 (lv_at hl 1 rfl) ?_
  refine bz_ne (tgt := 193) zx zb dL_law_186 (by decide) ⟨by omega, by omega⟩ (fun _ => ?_) (fun zq => absurd zq (by omega))
  refine lv_iload zx zb dL_law_193 (lv_at hl 4 rfl) ?_
  refine bi_const (n := 3) zx zb dL_law_195 ?_
  refine bs_shr (r := 0) zx zb dL_law_196 (by decide) ?_
  refine lv_iload zx zb dL_law_197 (lv_at hl 1 rfl) ?_
  refine bs_rem (r := 0) zx zb dL_law_199 ⟨by omega, by omega⟩ ⟨by omega, by omega⟩ (by omega) (by decide) ?_
  refine lv_istore (lv' := [(15, .int (iI 0)), (14, .int (iI 0)), (13, .int (iI 1)), (12, .int (iI 6)), (11, .int (iI 1)), (10, .int (iI 0)), (9, .int (iI 9)), (0, .ref b), (1, .ref (g.1 0)), (2, .ref u2), (3, .ref u3), (4, .int (iI 0)), (5, .int (iI 0)), (6, .int (iI 1)), (7, .int (iI 260)), (8, .int (iI 7))]) zx zb dL_law_200 hl (by decide) rfl (fun ls hl => ?_)
  refine lv_iload zx zb dL_law_202 (lv_at hl 5 rfl) ?_
  refine bi_const (n := 4) zx zb dL_law_204 ?_
  refine bs_shr (r := 0) zx zb dL_law_205 (by decide) ?_
  refine bi_sip (n := 360) zx zb dL_law_206 (by decide) ?_
  refine bs_rem (r := 0) zx zb dL_law_209 ⟨by omega, by omega⟩ ⟨by omega, by omega⟩ (by omega) (by decide) ?_
  refine lv_istore (lv' := [(16, .int (iI 0)), (15, .int (iI 0)), (14, .int (iI 0)), (13, .int (iI 1)), (12, .int (iI 6)), (11, .int (iI 1)), (10, .int (iI 0)), (9, .int (iI 9)), (0, .ref b), (1, .ref (g.1 0)), (2, .ref u2), (3, .ref u3), (4, .int (iI 0)), (5, .int (iI 0)), (6, .int (iI 1)), (7, .int (iI 260)), (8, .int (iI 7))]) zx zb dL_law_210 hl (by decide) rfl (fun ls hl => ?_)
  refine lv_iload zx zb dL_law_212 (lv_at hl 6 rfl) ?_
  refine bi_bip (n := 11) zx zb dL_law_214 (by decide) ?_
  refine bs_shr (r := 0) zx zb dL_law_216 (by decide) ?_
  refine bi_sip (n := 181) zx zb dL_law_217 (by decide) ?_
  refine bs_rem (r := 0) zx zb dL_law_220 ⟨by omega, by omega⟩ ⟨by omega, by omega⟩ (by omega) (by decide) ?_
  refine bi_bip (n := 90) zx zb dL_law_221 (by decide) ?_
  refine bs_sub (r := (-90)) zx zb dL_law_223 (by decide) ?_
  refine lv_istore (lv' := [(17, .int (iI (-90))), (16, .int (iI 0)), (15, .int (iI 0)), (14, .int (iI 0)), (13, .int (iI 1)), (12, .int (iI 6)), (11, .int (iI 1)), (10, .int (iI 0)), (9, .int (iI 9)), (0, .ref b), (1, .ref (g.1 0)), (2, .ref u2), (3, .ref u3), (4, .int (iI 0)), (5, .int (iI 0)), (6, .int (iI 1)), (7, .int (iI 260)), (8, .int (iI 7))]) zx zb dL_law_224 hl (by decide) rfl (fun ls hl => ?_)
  refine lv_iload zx zb dL_law_226 (lv_at hl 6 rfl) ?_
  refine bz_ne (tgt := 295) zx zb dL_law_228 (by decide) ⟨by omega, by omega⟩ (fun _ => ?_) (fun zq => absurd zq (by omega))
  refine lv_iload zx zb dL_law_295 (lv_at hl 6 rfl) ?_
  refine bi_const (n := 1) zx zb dL_law_297 ?_
  refine bq_ne (tgt := 349) zx zb dL_law_298 (by decide) ⟨by omega, by omega⟩ ⟨by omega, by omega⟩ (fun zq => absurd zq (by omega)) (fun _ => ?_)
  refine lv_iload zx zb dL_law_301 (lv_at hl 4 rfl) ?_
  refine bi_bip (n := 8) zx zb dL_law_303 (by decide) ?_
  refine bq_ge (tgt := 349) zx zb dL_law_305 (by decide) ⟨by omega, by omega⟩ ⟨by omega, by omega⟩ (fun zq => absurd zq (by omega)) (fun _ => ?_)
  refine lv_aload_n zx zb dL_law_308 rfl (lv_at hl 10 rfl) ?_
  refine cvZ (r' := 1) (rest := []) (As := []) (b := g.1 0) C0 hH hN (c_X6_addFigure l g S (by have := F.nf; omega)) F.nf kw_L_85 ky_X6_addFigure ⟨by have := hR.1; omega, by have := hR.2; omega⟩ ⟨by omega, by omega⟩ 0 rfl rfl rfl hl.1 rfl (Nat.le_of_ble_eq_true rfl) dL_law_309 (fun H locs hH hN => ?_)
  have F1 : Fr (st S 4 0 (S 4 0 + 1)) 6 2 := F.fig (by omega)
  refine lv_iload zx zb dL_law_312 (lv_at hl 4 rfl) ?_
  refine bq_ne (tgt := 340) zx zb dL_law_314 (by decide) ⟨by omega, by omega⟩ ⟨by omega, by omega⟩ (fun zq => absurd zq (by omega)) (fun _ => ?_)
  refine lv_aload_n zx zb dL_law_317 rfl (lv_at hl 10 rfl) ?_
  refine lv_iload zx zb dL_law_318 (lv_at hl 4 rfl) ?_
  refine cvZ (r' := 0) (rest := []) (As := [.int (iI 1)]) (b := g.1 0) C0 hH hN (k_X6_lines l g (st S 4 0 (S 4 0 + 1)) 1 F1 ⟨by omega, by omega⟩) rfl kw_L_44 ky_X6_lines ⟨by have := hR.1; omega, by have := hR.2; omega⟩ ⟨by omega, by omega⟩ 0 rfl rfl rfl hl.1 rfl (Nat.le_of_ble_eq_true rfl) dL_law_320 (fun H locs hH hN => ?_)
  refine bz_ne (tgt := 340) zx zb dL_law_323 (by decide) ⟨by omega, by omega⟩ (fun zq => absurd zq (by omega)) (fun _ => ?_)
  refine lv_aload_n zx zb dL_law_326 rfl (lv_at hl 10 rfl) ?_
  refine lv_iload zx zb dL_law_327 (lv_at hl 4 rfl) ?_
  refine cvZ (r' := (-1)) (rest := []) (As := [.int (iI 1)]) (b := g.1 0) C0 hH hN (k_X6_nameOf l g (st S 4 0 (S 4 0 + 1)) 1 F1 ⟨by omega, by omega⟩) rfl kw_L_53 ky_X6_nameOf ⟨by have := hR.1; omega, by have := hR.2; omega⟩ ⟨by omega, by omega⟩ 0 rfl rfl rfl hl.1 rfl (Nat.le_of_ble_eq_true rfl) dL_law_329 (fun H locs hH hN => ?_)
  refine bi_const (n := (-1)) zx zb dL_law_332 ?_
  refine bq_ne (tgt := 340) zx zb dL_law_333 (by decide) ⟨by omega, by omega⟩ ⟨by omega, by omega⟩ (fun zq => absurd zq (by omega)) (fun _ => ?_)
  refine bi_const (n := 1) zx zb dL_law_336 ?_
  refine lv_goto (tgt := 341) zx zb dL_law_337 (by decide) ?_
  refine lv_istore (lv' := [(6, .int (iI 1)), (17, .int (iI (-90))), (16, .int (iI 0)), (15, .int (iI 0)), (14, .int (iI 0)), (13, .int (iI 1)), (12, .int (iI 6)), (11, .int (iI 1)), (10, .int (iI 0)), (9, .int (iI 9)), (0, .ref b), (1, .ref (g.1 0)), (2, .ref u2), (3, .ref u3), (4, .int (iI 0)), (5, .int (iI 0)), (7, .int (iI 260)), (8, .int (iI 7))]) zx zb dL_law_341 hl (by decide) rfl (fun ls hl => ?_)
  refine bi_const (n := 0) zx zb dL_law_343 ?_
  refine lv_istore (lv' := [(4, .int (iI 0)), (6, .int (iI 1)), (17, .int (iI (-90))), (16, .int (iI 0)), (15, .int (iI 0)), (14, .int (iI 0)), (13, .int (iI 1)), (12, .int (iI 6)), (11, .int (iI 1)), (10, .int (iI 0)), (9, .int (iI 9)), (0, .ref b), (1, .ref (g.1 0)), (2, .ref u2), (3, .ref u3), (5, .int (iI 0)), (7, .int (iI 260)), (8, .int (iI 7))]) zx zb dL_law_344 hl (by decide) rfl (fun ls hl => ?_)
  refine lv_goto (tgt := 1124) zx zb dL_law_346 (by decide) ?_
  refine bi_const (n := 0) zx zb dL_law_1124 ?_
  refine lv_istore (lv' := [(18, .int (iI 0)), (4, .int (iI 0)), (6, .int (iI 1)), (17, .int (iI (-90))), (16, .int (iI 0)), (15, .int (iI 0)), (14, .int (iI 0)), (13, .int (iI 1)), (12, .int (iI 6)), (11, .int (iI 1)), (10, .int (iI 0)), (9, .int (iI 9)), (0, .ref b), (1, .ref (g.1 0)), (2, .ref u2), (3, .ref u3), (5, .int (iI 0)), (7, .int (iI 260)), (8, .int (iI 7))]) zx zb dL_law_1125 hl (by decide) rfl (fun ls hl => ?_)
  refine bi_const (n := 0) zx zb dL_law_1127 ?_
  refine lv_istore (lv' := [(19, .int (iI 0)), (18, .int (iI 0)), (4, .int (iI 0)), (6, .int (iI 1)), (17, .int (iI (-90))), (16, .int (iI 0)), (15, .int (iI 0)), (14, .int (iI 0)), (13, .int (iI 1)), (12, .int (iI 6)), (11, .int (iI 1)), (10, .int (iI 0)), (9, .int (iI 9)), (0, .ref b), (1, .ref (g.1 0)), (2, .ref u2), (3, .ref u3), (5, .int (iI 0)), (7, .int (iI 260)), (8, .int (iI 7))]) zx zb dL_law_1128 hl (by decide) rfl (fun ls hl => ?_)
  refine lv_iload zx zb dL_law_1130 (lv_at hl 0 rfl) ?_
  refine lv_iload zx zb dL_law_1132 (lv_at hl 17 rfl) ?_
  refine bq_ge (tgt := 1240) zx zb dL_law_1134 (by decide) ⟨by omega, by omega⟩ ⟨by omega, by omega⟩ (fun _ => ?_) (fun zq => absurd zq (by omega))
  refine lv_iload zx zb dL_law_1240 (lv_at hl 3 rfl) ?_
  refine bz_eq (tgt := 1265) zx zb dL_law_1242 (by decide) ⟨by omega, by omega⟩ (fun zq => absurd zq (by omega)) (fun _ => ?_)
  refine lv_aload_n zx zb dL_law_1245 rfl (lv_at hl 14 rfl) ?_
  refine cvZ (r' := 0) (rest := []) (As := []) (b := g.1 0) C0 hH hN (k_X6_wrong l g (st S 4 0 (S 4 0 + 1)) F1) rfl kw_L_76 ky_X6_wrong ⟨by have := hR.1; omega, by have := hR.2; omega⟩ ⟨by omega, by omega⟩ 0 rfl rfl rfl hl.1 rfl (Nat.le_of_ble_eq_true rfl) dL_law_1246 (fun H locs hH hN => ?_)
  refine lv_iload zx zb dL_law_1249 (lv_at hl 1 rfl) ?_
  refine bq_ne (tgt := 1265) zx zb dL_law_1251 (by decide) ⟨by omega, by omega⟩ ⟨by omega, by omega⟩ (fun zq => absurd zq (by omega)) (fun _ => ?_)
  refine lv_aload_n zx zb dL_law_1254 rfl (lv_at hl 14 rfl) ?_
  refine csZ (r' := 1) (rest := []) (As := [.ref (g.1 0)]) C0 hH hN (c_L_areNames l g (st S 4 0 (S 4 0 + 1)) 6 2 F1) rfl kw_L_119 ky_L_areNames ⟨by have := hR.1; omega, by have := hR.2; omega⟩ ⟨by omega, by omega⟩ rfl hl.1 rfl (Nat.le_of_ble_eq_true rfl) dL_law_1255 (fun H locs hH hN => ?_)
  refine bz_eq (tgt := 1265) zx zb dL_law_1258 (by decide) ⟨by omega, by omega⟩ (fun zq => absurd zq (by omega)) (fun _ => ?_)
  refine bi_const (n := 1) zx zb dL_law_1261 ?_
  refine lv_goto (tgt := 1266) zx zb dL_law_1262 (by decide) ?_
  refine lv_istore (lv' := [(6, .int (iI 1)), (19, .int (iI 0)), (18, .int (iI 0)), (4, .int (iI 0)), (17, .int (iI (-90))), (16, .int (iI 0)), (15, .int (iI 0)), (14, .int (iI 0)), (13, .int (iI 1)), (12, .int (iI 6)), (11, .int (iI 1)), (10, .int (iI 0)), (9, .int (iI 9)), (0, .ref b), (1, .ref (g.1 0)), (2, .ref u2), (3, .ref u3), (5, .int (iI 0)), (7, .int (iI 260)), (8, .int (iI 7))]) zx zb dL_law_1266 hl (by decide) rfl (fun ls hl => ?_)
  refine lv_iload zx zb dL_law_1268 (lv_at hl 0 rfl) ?_
  refine bz_eq (tgt := 1353) zx zb dL_law_1270 (by decide) ⟨by omega, by omega⟩ (fun zq => absurd zq (by omega)) (fun _ => ?_)
  refine lv_aload_n zx zb dL_law_1273 rfl (lv_at hl 14 rfl) ?_
  refine cvZ (r' := 2) (rest := []) (As := []) (b := g.1 0) C0 hH hN (k_X6_figures l g (st S 4 0 (S 4 0 + 1)) F1) rfl kw_L_41 ky_X6_figures ⟨by have := hR.1; omega, by have := hR.2; omega⟩ ⟨by omega, by omega⟩ 0 rfl rfl rfl hl.1 rfl (Nat.le_of_ble_eq_true rfl) dL_law_1274 (fun H locs hH hN => ?_)
  refine bz_eq (tgt := 1349) zx zb dL_law_1277 (by decide) ⟨by omega, by omega⟩ (fun zq => absurd zq (by omega)) (fun _ => ?_)
  refine lv_aload_n zx zb dL_law_1280 rfl (lv_at hl 14 rfl) ?_
  refine lv_iload zx zb dL_law_1281 (lv_at hl 11 rfl) ?_
  refine lv_aload_n zx zb dL_law_1283 rfl (lv_at hl 14 rfl) ?_
  refine cvZ (r' := 2) (rest := [.int (iI 0), .ref (g.1 0)]) (As := []) (b := g.1 0) C0 hH hN (k_X6_figures l g (st S 4 0 (S 4 0 + 1)) F1) rfl kw_L_41 ky_X6_figures ⟨by have := hR.1; omega, by have := hR.2; omega⟩ ⟨by omega, by omega⟩ 0 rfl rfl rfl hl.1 rfl (Nat.le_of_ble_eq_true rfl) dL_law_1284 (fun H locs hH hN => ?_)
  refine bs_rem (r := 0) zx zb dL_law_1287 ⟨by omega, by omega⟩ ⟨by omega, by omega⟩ (by omega) (by decide) ?_
  refine lv_iload zx zb dL_law_1288 (lv_at hl 11 rfl) ?_
  refine bi_const (n := 3) zx zb dL_law_1290 ?_
  refine bs_shr (r := 0) zx zb dL_law_1291 (by decide) ?_
  refine bi_sip (n := 181) zx zb dL_law_1292 (by decide) ?_
  refine bs_rem (r := 0) zx zb dL_law_1295 ⟨by omega, by omega⟩ ⟨by omega, by omega⟩ (by omega) (by decide) ?_
  refine bi_bip (n := 90) zx zb dL_law_1296 (by decide) ?_
  refine bs_sub (r := (-90)) zx zb dL_law_1298 (by decide) ?_
  refine lv_iload zx zb dL_law_1299 (lv_at hl 11 rfl) ?_
  refine bi_bip (n := 7) zx zb dL_law_1301 (by decide) ?_
  refine bs_shr (r := 0) zx zb dL_law_1303 (by decide) ?_
  refine bi_sip (n := 365) zx zb dL_law_1304 (by decide) ?_
  refine bs_rem (r := 0) zx zb dL_law_1307 ⟨by omega, by omega⟩ ⟨by omega, by omega⟩ (by omega) (by decide) ?_
  refine lv_iload zx zb dL_law_1308 (lv_at hl 11 rfl) ?_
  refine bi_bip (n := 9) zx zb dL_law_1310 (by decide) ?_
  refine bs_shr (r := 0) zx zb dL_law_1312 (by decide) ?_
  refine bi_bip (n := 24) zx zb dL_law_1313 (by decide) ?_
  refine bs_rem (r := 0) zx zb dL_law_1315 ⟨by omega, by omega⟩ ⟨by omega, by omega⟩ (by omega) (by decide) ?_
  refine csZ (r' := 1) (rest := []) (As := [.ref (g.1 0), .int (iI 0), .int (iI (-90)), .int (iI 0), .int (iI 0)]) C0 hH hN (c_L_areHours l g (st S 4 0 (S 4 0 + 1)) 6 2 0 (-90) 0 0 F1 ⟨by omega, by omega⟩ ⟨by omega, by omega⟩ ⟨by omega, by omega⟩ ⟨by omega, by omega⟩) rfl kw_L_123 ky_L_areHours ⟨by have := hR.1; omega, by have := hR.2; omega⟩ ⟨by omega, by omega⟩ rfl hl.1 rfl (Nat.le_of_ble_eq_true rfl) dL_law_1316 (fun H locs hH hN => ?_)
  refine bz_eq (tgt := 1353) zx zb dL_law_1319 (by decide) ⟨by omega, by omega⟩ (fun zq => absurd zq (by omega)) (fun _ => ?_)
  refine lv_aload_n zx zb dL_law_1322 rfl (lv_at hl 14 rfl) ?_
  refine bi_const (n := 0) zx zb dL_law_1323 ?_
  refine lv_iload zx zb dL_law_1324 (lv_at hl 11 rfl) ?_
  refine lv_aload_n zx zb dL_law_1326 rfl (lv_at hl 14 rfl) ?_
  refine cvZ (r' := 2) (rest := [.int (iI 0), .int (iI 0), .ref (g.1 0)]) (As := []) (b := g.1 0) C0 hH hN (k_X6_figures l g (st S 4 0 (S 4 0 + 1)) F1) rfl kw_L_41 ky_X6_figures ⟨by have := hR.1; omega, by have := hR.2; omega⟩ ⟨by omega, by omega⟩ 0 rfl rfl rfl hl.1 rfl (Nat.le_of_ble_eq_true rfl) dL_law_1327 (fun H locs hH hN => ?_)
  refine bs_rem (r := 0) zx zb dL_law_1330 ⟨by omega, by omega⟩ ⟨by omega, by omega⟩ (by omega) (by decide) ?_
  refine cvZ (r' := 0) (rest := []) (As := [.int (iI 0), .int (iI 0)]) (b := g.1 0) C0 hH hN (k_X6_crossings l g (st S 4 0 (S 4 0 + 1)) 0 0 F1 ⟨by omega, by omega⟩ ⟨by omega, by omega⟩) rfl kw_L_49 ky_X6_crossings ⟨by have := hR.1; omega, by have := hR.2; omega⟩ ⟨by omega, by omega⟩ 0 rfl rfl rfl hl.1 rfl (Nat.le_of_ble_eq_true rfl) dL_law_1331 (fun H locs hH hN => ?_)
  refine lv_aload_n zx zb dL_law_1334 rfl (lv_at hl 14 rfl) ?_
  refine lv_iload zx zb dL_law_1335 (lv_at hl 11 rfl) ?_
  refine lv_aload_n zx zb dL_law_1337 rfl (lv_at hl 14 rfl) ?_
  refine cvZ (r' := 2) (rest := [.int (iI 0), .ref (g.1 0), .int (iI 0)]) (As := []) (b := g.1 0) C0 hH hN (k_X6_figures l g (st S 4 0 (S 4 0 + 1)) F1) rfl kw_L_41 ky_X6_figures ⟨by have := hR.1; omega, by have := hR.2; omega⟩ ⟨by omega, by omega⟩ 0 rfl rfl rfl hl.1 rfl (Nat.le_of_ble_eq_true rfl) dL_law_1338 (fun H locs hH hN => ?_)
  refine bs_rem (r := 0) zx zb dL_law_1341 ⟨by omega, by omega⟩ ⟨by omega, by omega⟩ (by omega) (by decide) ?_
  refine bi_const (n := 0) zx zb dL_law_1342 ?_
  refine cvZ (r' := 0) (rest := [.int (iI 0)]) (As := [.int (iI 0), .int (iI 0)]) (b := g.1 0) C0 hH hN (k_X6_crossings l g (st S 4 0 (S 4 0 + 1)) 0 0 F1 ⟨by omega, by omega⟩ ⟨by omega, by omega⟩) rfl kw_L_49 ky_X6_crossings ⟨by have := hR.1; omega, by have := hR.2; omega⟩ ⟨by omega, by omega⟩ 0 rfl rfl rfl hl.1 rfl (Nat.le_of_ble_eq_true rfl) dL_law_1343 (fun H locs hH hN => ?_)
  refine bq_ne (tgt := 1353) zx zb dL_law_1346 (by decide) ⟨by omega, by omega⟩ ⟨by omega, by omega⟩ (fun zq => absurd zq (by omega)) (fun _ => ?_)
  refine bi_const (n := 1) zx zb dL_law_1349 ?_
  refine lv_goto (tgt := 1354) zx zb dL_law_1350 (by decide) ?_
  refine lv_istore (lv' := [(6, .int (iI 1)), (19, .int (iI 0)), (18, .int (iI 0)), (4, .int (iI 0)), (17, .int (iI (-90))), (16, .int (iI 0)), (15, .int (iI 0)), (14, .int (iI 0)), (13, .int (iI 1)), (12, .int (iI 6)), (11, .int (iI 1)), (10, .int (iI 0)), (9, .int (iI 9)), (0, .ref b), (1, .ref (g.1 0)), (2, .ref u2), (3, .ref u3), (5, .int (iI 0)), (7, .int (iI 260)), (8, .int (iI 7))]) zx zb dL_law_1354 hl (by decide) rfl (fun ls hl => ?_)
  refine bi_inc (k0 := 19) (n := 1) (lv' := [(8, .int (iI (7 + 1))), (6, .int (iI 1)), (19, .int (iI 0)), (18, .int (iI 0)), (4, .int (iI 0)), (17, .int (iI (-90))), (16, .int (iI 0)), (15, .int (iI 0)), (14, .int (iI 0)), (13, .int (iI 1)), (12, .int (iI 6)), (11, .int (iI 1)), (10, .int (iI 0)), (9, .int (iI 9)), (0, .ref b), (1, .ref (g.1 0)), (2, .ref u2), (3, .ref u3), (5, .int (iI 0)), (7, .int (iI 260))]) zx zb dL_law_1356 hl rfl (by decide) rfl (fun ls hl => ?_)
  refine lv_goto (tgt := 73) zx zb dL_law_1359 (by decide) ?_
  exact kk _ _ _ _ F1 hH hN (lv_sub hl [14, 15, 16, 17, 4, 18, 1, 19, 0] rfl)
set_option maxRecDepth 100000 in
set_option maxHeartbeats 8000000 in
theorem tn_g {p : Program} {l : Launch} {e : Env} {R : Room} {s : State} {m : MethodId} {args : Array Value} {below : List Frame} {meth : Method} {c : Code} {H : Heap} {locs : List Loc} {cells slots : Nat} {Q : State → Prop} {g : gT} {S : gSt} {ls : Array Slot} {b u2 u3 N : Nat} {xs : Nat → Int32} {i : Int} (i8 : 8 ≤ i ∧ i < 260) (C0 : Ct p s m args c g RL cL_law 24) (hfl : l.stackTraces = false) (hX : va_X b 260 xs s s.heap) (hxs : ∀ k : Nat, k < 260 → xs k = 9) (hbl : b < s.heap.size) (hbA : ¬ oA g b) (hR : R.frames = 11 ∧ R.locals = 410) (hcs : cells + 1 ≤ R.cells ∧ slots + 6 ≤ R.slots) (F : Fr S 6 2) (hH : Hp g S s H locs) (hN : N ≤ H.size) (hl : lv_has ls 24 [(0, .ref b), (1, .ref (g.1 0)), (2, .ref u2), (3, .ref u3), (4, .int (iI 0)), (5, .int (iI 0)), (6, .int (iI 1)), (7, .int (iI 260)), (8, .int (iI i))])
    (kk : ∀ (S9 : gSt) (H9 : Heap) (locs9 : List Loc) (ls9 : Array Slot), Fr S9 6 2 → Hp g S9 s H9 locs9 → N + 1 ≤ H9.size → lv_has ls9 24 [(0, .ref b), (1, .ref (g.1 0)), (2, .ref u2), (3, .ref u3), (4, .int (iI 0)), (5, .int (iI 0)), (6, .int (iI 1)), (7, .int (iI 260)), (8, .int (iI (i + 1)))] → W p l e R s m args below meth c H9 locs9 (cells + 1) (slots + 6) Q (F0 m 73 ls9 [])) : W p l e R s m args below meth c H locs cells slots Q (F0 m 73 ls []) := by
  have zx := C0.1
  have zb := C0.2.1
  refine lv_iload zx zb dL_law_73 (lv_at hl 8 rfl) ?_
  refine lv_iload zx zb dL_law_75 (lv_at hl 7 rfl) ?_
  refine bq_ge (tgt := 1362) zx zb dL_law_77 (by decide) ⟨by omega, by omega⟩ ⟨by omega, by omega⟩ (fun zq => absurd zq (by omega)) (fun _ => ?_)
  refine lv_iload zx zb dL_law_80 (lv_at hl 6 rfl) ?_
  refine bz_eq (tgt := 1362) zx zb dL_law_82 (by decide) ⟨by omega, by omega⟩ (fun zq => absurd zq (by omega)) (fun _ => ?_)
  refine lv_iload zx zb dL_law_85 (lv_at hl 8 rfl) ?_
  refine lv_aload_n zx zb dL_law_87 rfl (lv_at hl 0 rfl) ?_
  refine va_slen zx zb hX hbl hbA hH.2 dL_law_88 ?_
  rw [show Int32.ofNat 260 = iI 260 by decide]
  refine bq_ge (tgt := 99) zx zb dL_law_89 (by decide) ⟨by omega, by omega⟩ ⟨by omega, by omega⟩ (fun zq => absurd zq (by omega)) (fun _ => ?_)
  refine lv_aload_n zx zb dL_law_92 rfl (lv_at hl 0 rfl) ?_
  refine lv_iload zx zb dL_law_93 (lv_at hl 8 rfl) ?_
  refine slG C0 hX hbl hbA (by decide) hH (by omega) (by omega) dL_law_95 ?_
  rw [show (xs (i : Int).toNat).toInt = 9 by rw [hxs _ (by omega)]; rfl]
  refine lv_goto (tgt := 116) zx zb dL_law_96 (by decide) ?_
  refine lv_istore (lv' := [(9, .int (iI 9)), (0, .ref b), (1, .ref (g.1 0)), (2, .ref u2), (3, .ref u3), (4, .int (iI 0)), (5, .int (iI 0)), (6, .int (iI 1)), (7, .int (iI 260)), (8, .int (iI i))]) zx zb dL_law_116 hl (by decide) rfl (fun ls hl => ?_)
  refine lv_iload zx zb dL_law_118 (lv_at hl 0 rfl) ?_
  refine bi_const (n := 4) zx zb dL_law_120 ?_
  refine bs_shr (r := 0) zx zb dL_law_121 (by decide) ?_
  refine bi_ldc (n := 268435455) zx zb C0.2.2.2.1 (C0.2.2.2.2.1.w (gm 588 (by decide +kernel) rfl)) dL_law_122 ?_
  refine bs_and (r := 0) zx zb dL_law_124 (by decide) ?_
  refine lv_istore (lv' := [(10, .int (iI 0)), (9, .int (iI 9)), (0, .ref b), (1, .ref (g.1 0)), (2, .ref u2), (3, .ref u3), (4, .int (iI 0)), (5, .int (iI 0)), (6, .int (iI 1)), (7, .int (iI 260)), (8, .int (iI i))]) zx zb dL_law_125 hl (by decide) rfl (fun ls hl => ?_)
  refine lv_iload zx zb dL_law_127 (lv_at hl 10 rfl) ?_
  refine bi_bip (n := 6) zx zb dL_law_129 (by decide) ?_
  refine bq_ge (tgt := 138) zx zb dL_law_131 (by decide) ⟨by omega, by omega⟩ ⟨by omega, by omega⟩ (fun _ => ?_) (fun zq => absurd zq (by omega))
  refine lv_iload zx zb dL_law_138 (lv_at hl 10 rfl) ?_
  refine bi_bip (n := 8) zx zb dL_law_140 (by decide) ?_
  refine bq_ge (tgt := 149) zx zb dL_law_142 (by decide) ⟨by omega, by omega⟩ ⟨by omega, by omega⟩ (fun _ => ?_) (fun zq => absurd zq (by omega))
  refine lv_iload zx zb dL_law_149 (lv_at hl 1 rfl) ?_
  refine bi_bip (n := 15) zx zb dL_law_151 (by decide) ?_
  refine bs_and (r := 9) zx zb dL_law_153 (by decide) ?_
  refine lv_istore (lv' := [(11, .int (iI 9)), (10, .int (iI 0)), (9, .int (iI 9)), (0, .ref b), (1, .ref (g.1 0)), (2, .ref u2), (3, .ref u3), (4, .int (iI 0)), (5, .int (iI 0)), (6, .int (iI 1)), (7, .int (iI 260)), (8, .int (iI i))]) zx zb dL_law_154 hl (by decide) rfl (fun ls hl => ?_)
  refine lv_aload_n zx zb dL_law_156 rfl (lv_at hl 4 rfl) ?_
  refine cvZ (r' := 6) (rest := []) (As := []) (b := g.1 0) C0 hH hN (k_X6_stars l g S F) rfl kw_L_27 ky_X6_stars ⟨by have := hR.1; omega, by have := hR.2; omega⟩ ⟨by omega, by omega⟩ 0 rfl rfl rfl hl.1 rfl (Nat.le_of_ble_eq_true rfl) dL_law_157 (fun H locs hH hN => ?_)
  refine lv_istore (lv' := [(12, .int (iI 6)), (11, .int (iI 9)), (10, .int (iI 0)), (9, .int (iI 9)), (0, .ref b), (1, .ref (g.1 0)), (2, .ref u2), (3, .ref u3), (4, .int (iI 0)), (5, .int (iI 0)), (6, .int (iI 1)), (7, .int (iI 260)), (8, .int (iI i))]) zx zb dL_law_160 hl (by decide) rfl (fun ls hl => ?_)
  refine lv_aload_n zx zb dL_law_162 rfl (lv_at hl 5 rfl) ?_
  refine cvZ (r' := 2) (rest := []) (As := []) (b := g.1 0) C0 hH hN (k_X6_figures l g S F) rfl kw_L_41 ky_X6_figures ⟨by have := hR.1; omega, by have := hR.2; omega⟩ ⟨by omega, by omega⟩ 0 rfl rfl rfl hl.1 rfl (Nat.le_of_ble_eq_true rfl) dL_law_163 (fun H locs hH hN => ?_)
  refine lv_istore (lv' := [(13, .int (iI 2)), (12, .int (iI 6)), (11, .int (iI 9)), (10, .int (iI 0)), (9, .int (iI 9)), (0, .ref b), (1, .ref (g.1 0)), (2, .ref u2), (3, .ref u3), (4, .int (iI 0)), (5, .int (iI 0)), (6, .int (iI 1)), (7, .int (iI 260)), (8, .int (iI i))]) zx zb dL_law_166 hl (by decide) rfl (fun ls hl => ?_)
  refine lv_iload zx zb dL_law_168 (lv_at hl 1 rfl) ?_
  refine bz_ne (tgt := 177) zx zb dL_law_170 (by decide) ⟨by omega, by omega⟩ (fun _ => ?_) (fun zq => absurd zq (by omega))
  refine lv_iload zx zb dL_law_177 (lv_at hl 3 rfl) ?_
  refine lv_iload zx zb dL_law_179 (lv_at hl 1 rfl) ?_
  refine bs_rem (r := 0) zx zb dL_law_181 ⟨by omega, by omega⟩ ⟨by omega, by omega⟩ (by omega) (by decide) ?_
  refine lv_istore (lv' := [(14, .int (iI 0)), (13, .int (iI 2)), (12, .int (iI 6)), (11, .int (iI 9)), (10, .int (iI 0)), (9, .int (iI 9)), (0, .ref b), (1, .ref (g.1 0)), (2, .ref u2), (3, .ref u3), (4, .int (iI 0)), (5, .int (iI 0)), (6, .int (iI 1)), (7, .int (iI 260)), (8, .int (iI i))]) zx zb dL_law_182 hl (by decide) rfl (fun ls hl => ?_)
  refine lv_iload zx zb dL_law_184 (lv_at hl 1 rfl) ?_
  refine bz_ne (tgt := 193) zx zb dL_law_186 (by decide) ⟨by omega, by omega⟩ (fun _ => ?_) (fun zq => absurd zq (by omega))
  refine lv_iload zx zb dL_law_193 (lv_at hl 4 rfl) ?_
  refine bi_const (n := 3) zx zb dL_law_195 ?_
  refine bs_shr (r := 0) zx zb dL_law_196 (by decide) ?_
  refine lv_iload zx zb dL_law_197 (lv_at hl 1 rfl) ?_
  refine bs_rem (r := 0) zx zb dL_law_199 ⟨by omega, by omega⟩ ⟨by omega, by omega⟩ (by omega) (by decide) ?_
  refine lv_istore (lv' := [(15, .int (iI 0)), (14, .int (iI 0)), (13, .int (iI 2)), (12, .int (iI 6)), (11, .int (iI 9)), (10, .int (iI 0)), (9, .int (iI 9)), (0, .ref b), (1, .ref (g.1 0)), (2, .ref u2), (3, .ref u3), (4, .int (iI 0)), (5, .int (iI 0)), (6, .int (iI 1)), (7, .int (iI 260)), (8, .int (iI i))]) zx zb dL_law_200 hl (by decide) rfl (fun ls hl => ?_)
  refine lv_iload zx zb dL_law_202 (lv_at hl 5 rfl) ?_
  refine bi_const (n := 4) zx zb dL_law_204 ?_
  refine bs_shr (r := 0) zx zb dL_law_205 (by decide) ?_
  refine bi_sip (n := 360) zx zb dL_law_206 (by decide) ?_
  refine bs_rem (r := 0) zx zb dL_law_209 ⟨by omega, by omega⟩ ⟨by omega, by omega⟩ (by omega) (by decide) ?_
  refine lv_istore (lv' := [(16, .int (iI 0)), (15, .int (iI 0)), (14, .int (iI 0)), (13, .int (iI 2)), (12, .int (iI 6)), (11, .int (iI 9)), (10, .int (iI 0)), (9, .int (iI 9)), (0, .ref b), (1, .ref (g.1 0)), (2, .ref u2), (3, .ref u3), (4, .int (iI 0)), (5, .int (iI 0)), (6, .int (iI 1)), (7, .int (iI 260)), (8, .int (iI i))]) zx zb dL_law_210 hl (by decide) rfl (fun ls hl => ?_)
  refine lv_iload zx zb dL_law_212 (lv_at hl 6 rfl) ?_
  refine bi_bip (n := 11) zx zb dL_law_214 (by decide) ?_
  refine bs_shr (r := 0) zx zb dL_law_216 (by decide) ?_
  refine bi_sip (n := 181) zx zb dL_law_217 (by decide) ?_
  refine bs_rem (r := 0) zx zb dL_law_220 ⟨by omega, by omega⟩ ⟨by omega, by omega⟩ (by omega) (by decide) ?_
  refine bi_bip (n := 90) zx zb dL_law_221 (by decide) ?_
  refine bs_sub (r := (-90)) zx zb dL_law_223 (by decide) ?_
  refine lv_istore (lv' := [(17, .int (iI (-90))), (16, .int (iI 0)), (15, .int (iI 0)), (14, .int (iI 0)), (13, .int (iI 2)), (12, .int (iI 6)), (11, .int (iI 9)), (10, .int (iI 0)), (9, .int (iI 9)), (0, .ref b), (1, .ref (g.1 0)), (2, .ref u2), (3, .ref u3), (4, .int (iI 0)), (5, .int (iI 0)), (6, .int (iI 1)), (7, .int (iI 260)), (8, .int (iI i))]) zx zb dL_law_224 hl (by decide) rfl (fun ls hl => ?_)
  refine lv_iload zx zb dL_law_226 (lv_at hl 6 rfl) ?_
  refine bz_ne (tgt := 295) zx zb dL_law_228 (by decide) ⟨by omega, by omega⟩ (fun _ => ?_) (fun zq => absurd zq (by omega))
  refine lv_iload zx zb dL_law_295 (lv_at hl 6 rfl) ?_
  refine bi_const (n := 1) zx zb dL_law_297 ?_
  refine bq_ne (tgt := 349) zx zb dL_law_298 (by decide) ⟨by omega, by omega⟩ ⟨by omega, by omega⟩ (fun _ => ?_) (fun zq => absurd zq (by omega))
  refine lv_iload zx zb dL_law_349 (lv_at hl 6 rfl) ?_
  refine bi_bip (n := 9) zx zb dL_law_351 (by decide) ?_
  refine bq_ge (tgt := 675) zx zb dL_law_353 (by decide) ⟨by omega, by omega⟩ ⟨by omega, by omega⟩ (fun _ => ?_) (fun zq => absurd zq (by omega))
  refine lv_iload zx zb dL_law_675 (lv_at hl 6 rfl) ?_
  refine bi_bip (n := 11) zx zb dL_law_677 (by decide) ?_
  refine bq_ge (tgt := 765) zx zb dL_law_679 (by decide) ⟨by omega, by omega⟩ ⟨by omega, by omega⟩ (fun zq => absurd zq (by omega)) (fun _ => ?_)
  refine lv_aload_n zx zb dL_law_682 rfl (lv_at hl 10 rfl) ?_
  refine csH (rest := []) (As := [.ref (g.1 0)]) C0 hH hN (wh_undoes l g S F.nx (by rw [F.kp]; decide) F.kp hfl) kwW_undoes ky_L_undoes ⟨by have := hR.1; omega, by have := hR.2; omega⟩ hcs rfl hl.1 rfl (Nat.le_of_ble_eq_true rfl) dL_law_683 (fun H locs hH hN => ?_)
  refine lv_istore (lv' := [(18, .int (iI (-3))), (17, .int (iI (-90))), (16, .int (iI 0)), (15, .int (iI 0)), (14, .int (iI 0)), (13, .int (iI 2)), (12, .int (iI 6)), (11, .int (iI 9)), (10, .int (iI 0)), (9, .int (iI 9)), (0, .ref b), (1, .ref (g.1 0)), (2, .ref u2), (3, .ref u3), (4, .int (iI 0)), (5, .int (iI 0)), (6, .int (iI 1)), (7, .int (iI 260)), (8, .int (iI i))]) zx zb dL_law_686 hl (by decide) rfl (fun ls hl => ?_)
  refine lv_iload zx zb dL_law_688 (lv_at hl 0 rfl) ?_
  refine bi_bip (n := (-3)) zx zb dL_law_690 (by decide) ?_
  refine bq_lt (tgt := 744) zx zb dL_law_692 (by decide) ⟨by omega, by omega⟩ ⟨by omega, by omega⟩ (fun zq => absurd zq (by omega)) (fun _ => ?_)
  refine lv_iload zx zb dL_law_695 (lv_at hl 0 rfl) ?_
  refine bi_bip (n := 30) zx zb dL_law_697 (by decide) ?_
  refine bq_ge (tgt := 744) zx zb dL_law_699 (by decide) ⟨by omega, by omega⟩ ⟨by omega, by omega⟩ (fun zq => absurd zq (by omega)) (fun _ => ?_)
  refine lv_iload zx zb dL_law_702 (lv_at hl 0 rfl) ?_
  refine bi_bip (n := (-3)) zx zb dL_law_704 (by decide) ?_
  refine bq_eq (tgt := 728) zx zb dL_law_706 (by decide) ⟨by omega, by omega⟩ ⟨by omega, by omega⟩ (fun _ => ?_) (fun zq => absurd zq (by omega))
  refine lv_iload zx zb dL_law_728 (lv_at hl 0 rfl) ?_
  refine bi_bip (n := (-3)) zx zb dL_law_730 (by decide) ?_
  refine bq_ne (tgt := 740) zx zb dL_law_732 (by decide) ⟨by omega, by omega⟩ ⟨by omega, by omega⟩ (fun zq => absurd zq (by omega)) (fun _ => ?_)
  refine lv_iload zx zb dL_law_735 (lv_at hl 14 rfl) ?_
  refine bz_ne (tgt := 744) zx zb dL_law_737 (by decide) ⟨by omega, by omega⟩ (fun zq => absurd zq (by omega)) (fun _ => ?_)
  refine bi_const (n := 1) zx zb dL_law_740 ?_
  refine lv_goto (tgt := 745) zx zb dL_law_741 (by decide) ?_
  refine lv_istore (lv' := [(6, .int (iI 1)), (18, .int (iI (-3))), (17, .int (iI (-90))), (16, .int (iI 0)), (15, .int (iI 0)), (14, .int (iI 0)), (13, .int (iI 2)), (12, .int (iI 6)), (11, .int (iI 9)), (10, .int (iI 0)), (9, .int (iI 9)), (0, .ref b), (1, .ref (g.1 0)), (2, .ref u2), (3, .ref u3), (4, .int (iI 0)), (5, .int (iI 0)), (7, .int (iI 260)), (8, .int (iI i))]) zx zb dL_law_745 hl (by decide) rfl (fun ls hl => ?_)
  refine lv_iload zx zb dL_law_747 (lv_at hl 15 rfl) ?_
  refine lv_iload zx zb dL_law_749 (lv_at hl 15 rfl) ?_
  refine bz_le (tgt := 758) zx zb dL_law_751 (by decide) ⟨by omega, by omega⟩ (fun _ => ?_) (fun zq => absurd zq (by omega))
  refine bi_const (n := 0) zx zb dL_law_758 ?_
  refine bs_sub (r := 0) zx zb dL_law_759 (by decide) ?_
  refine lv_istore (lv' := [(4, .int (iI 0)), (6, .int (iI 1)), (18, .int (iI (-3))), (17, .int (iI (-90))), (16, .int (iI 0)), (15, .int (iI 0)), (14, .int (iI 0)), (13, .int (iI 2)), (12, .int (iI 6)), (11, .int (iI 9)), (10, .int (iI 0)), (9, .int (iI 9)), (0, .ref b), (1, .ref (g.1 0)), (2, .ref u2), (3, .ref u3), (5, .int (iI 0)), (7, .int (iI 260)), (8, .int (iI i))]) zx zb dL_law_760 hl (by decide) rfl (fun ls hl => ?_)
  refine lv_goto (tgt := 1124) zx zb dL_law_762 (by decide) ?_
  refine bi_const (n := 0) zx zb dL_law_1124 ?_
  refine lv_istore (lv' := [(18, .int (iI 0)), (4, .int (iI 0)), (6, .int (iI 1)), (17, .int (iI (-90))), (16, .int (iI 0)), (15, .int (iI 0)), (14, .int (iI 0)), (13, .int (iI 2)), (12, .int (iI 6)), (11, .int (iI 9)), (10, .int (iI 0)), (9, .int (iI 9)), (0, .ref b), (1, .ref (g.1 0)), (2, .ref u2), (3, .ref u3), (5, .int (iI 0)), (7, .int (iI 260)), (8, .int (iI i))]) zx zb dL_law_1125 hl (by decide) rfl (fun ls hl => ?_)
  refine bi_const (n := 0) zx zb dL_law_1127 ?_
  refine lv_istore (lv' := [(19, .int (iI 0)), (18, .int (iI 0)), (4, .int (iI 0)), (6, .int (iI 1)), (17, .int (iI (-90))), (16, .int (iI 0)), (15, .int (iI 0)), (14, .int (iI 0)), (13, .int (iI 2)), (12, .int (iI 6)), (11, .int (iI 9)), (10, .int (iI 0)), (9, .int (iI 9)), (0, .ref b), (1, .ref (g.1 0)), (2, .ref u2), (3, .ref u3), (5, .int (iI 0)), (7, .int (iI 260)), (8, .int (iI i))]) zx zb dL_law_1128 hl (by decide) rfl (fun ls hl => ?_)
  refine lv_iload zx zb dL_law_1130 (lv_at hl 0 rfl) ?_
  refine lv_iload zx zb dL_law_1132 (lv_at hl 17 rfl) ?_
  refine bq_ge (tgt := 1240) zx zb dL_law_1134 (by decide) ⟨by omega, by omega⟩ ⟨by omega, by omega⟩ (fun _ => ?_) (fun zq => absurd zq (by omega))
  refine lv_iload zx zb dL_law_1240 (lv_at hl 3 rfl) ?_
  refine bz_eq (tgt := 1265) zx zb dL_law_1242 (by decide) ⟨by omega, by omega⟩ (fun zq => absurd zq (by omega)) (fun _ => ?_)
  refine lv_aload_n zx zb dL_law_1245 rfl (lv_at hl 14 rfl) ?_
  refine cvZ (r' := 0) (rest := []) (As := []) (b := g.1 0) C0 hH hN (k_X6_wrong l g S F) rfl kw_L_76 ky_X6_wrong ⟨by have := hR.1; omega, by have := hR.2; omega⟩ ⟨by omega, by omega⟩ 0 rfl rfl rfl hl.1 rfl (Nat.le_of_ble_eq_true rfl) dL_law_1246 (fun H locs hH hN => ?_)
  refine lv_iload zx zb dL_law_1249 (lv_at hl 1 rfl) ?_
  refine bq_ne (tgt := 1265) zx zb dL_law_1251 (by decide) ⟨by omega, by omega⟩ ⟨by omega, by omega⟩ (fun zq => absurd zq (by omega)) (fun _ => ?_)
  refine lv_aload_n zx zb dL_law_1254 rfl (lv_at hl 14 rfl) ?_
  refine csZ (r' := 1) (rest := []) (As := [.ref (g.1 0)]) C0 hH hN (c_L_areNames l g S 6 2 F) rfl kw_L_119 ky_L_areNames ⟨by have := hR.1; omega, by have := hR.2; omega⟩ ⟨by omega, by omega⟩ rfl hl.1 rfl (Nat.le_of_ble_eq_true rfl) dL_law_1255 (fun H locs hH hN => ?_)
  refine bz_eq (tgt := 1265) zx zb dL_law_1258 (by decide) ⟨by omega, by omega⟩ (fun zq => absurd zq (by omega)) (fun _ => ?_)
  refine bi_const (n := 1) zx zb dL_law_1261 ?_
  refine lv_goto (tgt := 1266) zx zb dL_law_1262 (by decide) ?_
  refine lv_istore (lv' := [(6, .int (iI 1)), (19, .int (iI 0)), (18, .int (iI 0)), (4, .int (iI 0)), (17, .int (iI (-90))), (16, .int (iI 0)), (15, .int (iI 0)), (14, .int (iI 0)), (13, .int (iI 2)), (12, .int (iI 6)), (11, .int (iI 9)), (10, .int (iI 0)), (9, .int (iI 9)), (0, .ref b), (1, .ref (g.1 0)), (2, .ref u2), (3, .ref u3), (5, .int (iI 0)), (7, .int (iI 260)), (8, .int (iI i))]) zx zb dL_law_1266 hl (by decide) rfl (fun ls hl => ?_)
  refine lv_iload zx zb dL_law_1268 (lv_at hl 0 rfl) ?_
  refine bz_eq (tgt := 1353) zx zb dL_law_1270 (by decide) ⟨by omega, by omega⟩ (fun zq => absurd zq (by omega)) (fun _ => ?_)
  refine lv_aload_n zx zb dL_law_1273 rfl (lv_at hl 14 rfl) ?_
  refine cvZ (r' := 2) (rest := []) (As := []) (b := g.1 0) C0 hH hN (k_X6_figures l g S F) rfl kw_L_41 ky_X6_figures ⟨by have := hR.1; omega, by have := hR.2; omega⟩ ⟨by omega, by omega⟩ 0 rfl rfl rfl hl.1 rfl (Nat.le_of_ble_eq_true rfl) dL_law_1274 (fun H locs hH hN => ?_)
  refine bz_eq (tgt := 1349) zx zb dL_law_1277 (by decide) ⟨by omega, by omega⟩ (fun zq => absurd zq (by omega)) (fun _ => ?_)
  refine lv_aload_n zx zb dL_law_1280 rfl (lv_at hl 14 rfl) ?_
  refine lv_iload zx zb dL_law_1281 (lv_at hl 11 rfl) ?_
  refine lv_aload_n zx zb dL_law_1283 rfl (lv_at hl 14 rfl) ?_
  refine cvZ (r' := 2) (rest := [.int (iI 0), .ref (g.1 0)]) (As := []) (b := g.1 0) C0 hH hN (k_X6_figures l g S F) rfl kw_L_41 ky_X6_figures ⟨by have := hR.1; omega, by have := hR.2; omega⟩ ⟨by omega, by omega⟩ 0 rfl rfl rfl hl.1 rfl (Nat.le_of_ble_eq_true rfl) dL_law_1284 (fun H locs hH hN => ?_)
  refine bs_rem (r := 0) zx zb dL_law_1287 ⟨by omega, by omega⟩ ⟨by omega, by omega⟩ (by omega) (by decide) ?_
  refine lv_iload zx zb dL_law_1288 (lv_at hl 11 rfl) ?_
  refine bi_const (n := 3) zx zb dL_law_1290 ?_
  refine bs_shr (r := 0) zx zb dL_law_1291 (by decide) ?_
  refine bi_sip (n := 181) zx zb dL_law_1292 (by decide) ?_
  refine bs_rem (r := 0) zx zb dL_law_1295 ⟨by omega, by omega⟩ ⟨by omega, by omega⟩ (by omega) (by decide) ?_
  refine bi_bip (n := 90) zx zb dL_law_1296 (by decide) ?_
  refine bs_sub (r := (-90)) zx zb dL_law_1298 (by decide) ?_
  refine lv_iload zx zb dL_law_1299 (lv_at hl 11 rfl) ?_
  refine bi_bip (n := 7) zx zb dL_law_1301 (by decide) ?_
  refine bs_shr (r := 0) zx zb dL_law_1303 (by decide) ?_
  refine bi_sip (n := 365) zx zb dL_law_1304 (by decide) ?_
  refine bs_rem (r := 0) zx zb dL_law_1307 ⟨by omega, by omega⟩ ⟨by omega, by omega⟩ (by omega) (by decide) ?_
  refine lv_iload zx zb dL_law_1308 (lv_at hl 11 rfl) ?_
  refine bi_bip (n := 9) zx zb dL_law_1310 (by decide) ?_
  refine bs_shr (r := 0) zx zb dL_law_1312 (by decide) ?_
  refine bi_bip (n := 24) zx zb dL_law_1313 (by decide) ?_
  refine bs_rem (r := 0) zx zb dL_law_1315 ⟨by omega, by omega⟩ ⟨by omega, by omega⟩ (by omega) (by decide) ?_
  refine csZ (r' := 1) (rest := []) (As := [.ref (g.1 0), .int (iI 0), .int (iI (-90)), .int (iI 0), .int (iI 0)]) C0 hH hN (c_L_areHours l g S 6 2 0 (-90) 0 0 F ⟨by omega, by omega⟩ ⟨by omega, by omega⟩ ⟨by omega, by omega⟩ ⟨by omega, by omega⟩) rfl kw_L_123 ky_L_areHours ⟨by have := hR.1; omega, by have := hR.2; omega⟩ ⟨by omega, by omega⟩ rfl hl.1 rfl (Nat.le_of_ble_eq_true rfl) dL_law_1316 (fun H locs hH hN => ?_)
  refine bz_eq (tgt := 1353) zx zb dL_law_1319 (by decide) ⟨by omega, by omega⟩ (fun zq => absurd zq (by omega)) (fun _ => ?_)
  refine lv_aload_n zx zb dL_law_1322 rfl (lv_at hl 14 rfl) ?_
  refine bi_const (n := 0) zx zb dL_law_1323 ?_
  refine lv_iload zx zb dL_law_1324 (lv_at hl 11 rfl) ?_
  refine lv_aload_n zx zb dL_law_1326 rfl (lv_at hl 14 rfl) ?_
  refine cvZ (r' := 2) (rest := [.int (iI 0), .int (iI 0), .ref (g.1 0)]) (As := []) (b := g.1 0) C0 hH hN (k_X6_figures l g S F) rfl kw_L_41 ky_X6_figures ⟨by have := hR.1; omega, by have := hR.2; omega⟩ ⟨by omega, by omega⟩ 0 rfl rfl rfl hl.1 rfl (Nat.le_of_ble_eq_true rfl) dL_law_1327 (fun H locs hH hN => ?_)
  refine bs_rem (r := 0) zx zb dL_law_1330 ⟨by omega, by omega⟩ ⟨by omega, by omega⟩ (by omega) (by decide) ?_
  refine cvZ (r' := 0) (rest := []) (As := [.int (iI 0), .int (iI 0)]) (b := g.1 0) C0 hH hN (k_X6_crossings l g S 0 0 F ⟨by omega, by omega⟩ ⟨by omega, by omega⟩) rfl kw_L_49 ky_X6_crossings ⟨by have := hR.1; omega, by have := hR.2; omega⟩ ⟨by omega, by omega⟩ 0 rfl rfl rfl hl.1 rfl (Nat.le_of_ble_eq_true rfl) dL_law_1331 (fun H locs hH hN => ?_)
  refine lv_aload_n zx zb dL_law_1334 rfl (lv_at hl 14 rfl) ?_
  refine lv_iload zx zb dL_law_1335 (lv_at hl 11 rfl) ?_
  refine lv_aload_n zx zb dL_law_1337 rfl (lv_at hl 14 rfl) ?_
  refine cvZ (r' := 2) (rest := [.int (iI 0), .ref (g.1 0), .int (iI 0)]) (As := []) (b := g.1 0) C0 hH hN (k_X6_figures l g S F) rfl kw_L_41 ky_X6_figures ⟨by have := hR.1; omega, by have := hR.2; omega⟩ ⟨by omega, by omega⟩ 0 rfl rfl rfl hl.1 rfl (Nat.le_of_ble_eq_true rfl) dL_law_1338 (fun H locs hH hN => ?_)
  refine bs_rem (r := 0) zx zb dL_law_1341 ⟨by omega, by omega⟩ ⟨by omega, by omega⟩ (by omega) (by decide) ?_
  refine bi_const (n := 0) zx zb dL_law_1342 ?_
  refine cvZ (r' := 0) (rest := [.int (iI 0)]) (As := [.int (iI 0), .int (iI 0)]) (b := g.1 0) C0 hH hN (k_X6_crossings l g S 0 0 F ⟨by omega, by omega⟩ ⟨by omega, by omega⟩) rfl kw_L_49 ky_X6_crossings ⟨by have := hR.1; omega, by have := hR.2; omega⟩ ⟨by omega, by omega⟩ 0 rfl rfl rfl hl.1 rfl (Nat.le_of_ble_eq_true rfl) dL_law_1343 (fun H locs hH hN => ?_)
  refine bq_ne (tgt := 1353) zx zb dL_law_1346 (by decide) ⟨by omega, by omega⟩ ⟨by omega, by omega⟩ (fun zq => absurd zq (by omega)) (fun _ => ?_)
  refine bi_const (n := 1) zx zb dL_law_1349 ?_
  refine lv_goto (tgt := 1354) zx zb dL_law_1350 (by decide) ?_
  refine lv_istore (lv' := [(6, .int (iI 1)), (19, .int (iI 0)), (18, .int (iI 0)), (4, .int (iI 0)), (17, .int (iI (-90))), (16, .int (iI 0)), (15, .int (iI 0)), (14, .int (iI 0)), (13, .int (iI 2)), (12, .int (iI 6)), (11, .int (iI 9)), (10, .int (iI 0)), (9, .int (iI 9)), (0, .ref b), (1, .ref (g.1 0)), (2, .ref u2), (3, .ref u3), (5, .int (iI 0)), (7, .int (iI 260)), (8, .int (iI i))]) zx zb dL_law_1354 hl (by decide) rfl (fun ls hl => ?_)
  refine bi_inc (k0 := 19) (n := 1) (lv' := [(8, .int (iI (i + 1))), (6, .int (iI 1)), (19, .int (iI 0)), (18, .int (iI 0)), (4, .int (iI 0)), (17, .int (iI (-90))), (16, .int (iI 0)), (15, .int (iI 0)), (14, .int (iI 0)), (13, .int (iI 2)), (12, .int (iI 6)), (11, .int (iI 9)), (10, .int (iI 0)), (9, .int (iI 9)), (0, .ref b), (1, .ref (g.1 0)), (2, .ref u2), (3, .ref u3), (5, .int (iI 0)), (7, .int (iI 260))]) zx zb dL_law_1356 hl rfl (by decide) rfl (fun ls hl => ?_)
  refine lv_goto (tgt := 73) zx zb dL_law_1359 (by decide) ?_
  exact kk _ _ _ _ F hH hN (lv_sub hl [14, 15, 16, 17, 4, 18, 1, 19, 0] rfl)
