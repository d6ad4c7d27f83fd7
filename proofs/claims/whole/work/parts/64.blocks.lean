set_option maxRecDepth 100000 in
set_option maxHeartbeats 4000000 in
theorem blk_addStar {p : Program} {l : Launch} {e : Env} {R : Room} {s : State} {m : MethodId} {args : Array Value} {below : List Frame} {meth : Method} {c : Code} {H : Heap} {locs : List Loc} {cells slots : Nat} {Q : State → Prop} {g : gT} {S : gSt} {ls : Array Slot} {b L : Nat} {xs : Nat → Int32} {i : Int} (C0 : Ct p s m args c g RL cL_law 7) (hfl : l.stackTraces = false) (hX : va_X b L xs s s.heap) (hbl : b < s.heap.size) (hbA : ¬ oA g b) (hL : L ≤ 2560) (hR : R.frames = 11 ∧ R.locals = 424) (hcs : cells + 1 ≤ R.cells ∧ slots + 6 ≤ R.slots) (i0 : 0 ≤ i) (i5 : i + 5 ≤ L) (hC : Cpl S) (hH : Hp g S s H locs) (hl : lv_has ls 7 [(0, .ref b), (1, .ref (g.1 0)), (2, .ref (g.1 23)), (3, .ref (g.1 33)), (4, .int (iI i))])
    (kk : ∀ (S9 : gSt) (H9 : Heap) (locs9 : List Loc) (ls9 : Array Slot), Cpl S9 → Hp g S9 s H9 locs9 → lv_has ls9 7 [(0, .ref b), (1, .ref (g.1 0)), (2, .ref (g.1 23)), (3, .ref (g.1 33)), (4, .int (iI i))] → W p l e R s m args below meth c H9 locs9 (cells + 1) (slots + 6) Q (F0 m 1677 ls9 [])) : W p l e R s m args below meth c H locs cells slots Q (F0 m 148 ls []) := by
  have zx := C0.1
  have zb := C0.2.1
  obtain ⟨k9, b9, S1, S2, fr, lo, hW, hM, hB, ht, hk, hv, hC2⟩ := op_addStar l g S ((xs (i + 1).toNat).toInt) ((xs (i + 2).toNat).toInt) hC hfl (rg_t _) (rg_t _)
  refine lv_aload_n zx zb dL_law_148 rfl (lv_at hl 1 rfl) ?_
  refine lv_aload_n zx zb dL_law_149 rfl (lv_at hl 0 rfl) ?_
  refine lv_iload zx zb dL_law_150 (lv_at hl 4 rfl) ?_
  refine bi_const (n := 1) zx zb dL_law_152 ?_
  refine bi_add zx zb dL_law_153 ?_
  refine slG C0 hX hbl hbA hL hH (by omega) (by omega) dL_law_154 ?_
  refine lv_aload_n zx zb dL_law_155 rfl (lv_at hl 0 rfl) ?_
  refine lv_iload zx zb dL_law_156 (lv_at hl 4 rfl) ?_
  refine bi_const (n := 2) zx zb dL_law_158 ?_
  refine bi_add zx zb dL_law_159 ?_
  refine slG C0 hX hbl hbA hL hH (by omega) (by omega) dL_law_160 ?_
  refine lv_aload_n zx zb dL_law_161 rfl (lv_at hl 3 rfl) ?_
  refine csW (rest := []) (As := [.ref (g.1 0), .int (iI ((xs (i + 1).toNat).toInt)), .int (iI ((xs (i + 2).toNat).toInt)), .ref (g.1 33)]) C0 hH hW kwW_addStar ky_L_addStar ⟨by have := hR.1; omega, by have := hR.2; omega⟩ hcs rfl hl.1 rfl (Nat.le_of_ble_eq_true rfl) dL_law_162 (fun H locs hH => ?_)
  refine lv_istore zx zb dL_law_165 hl (by decide) rfl (fun ls hl => ?_)
  refine lv_aload_n zx zb dL_law_167 rfl (lv_at hl 3 rfl) ?_
  refine lv_aload_n zx zb dL_law_168 rfl (lv_at hl 1 rfl) ?_
  refine lv_iload zx zb dL_law_169 (lv_at hl 5 rfl) ?_
  refine bi_const (n := 1) zx zb dL_law_171 ?_
  refine bi_add zx zb dL_law_172 ?_
  refine slG C0 hX hbl hbA hL hH (by omega) (by omega) dL_law_173 ?_
  refine lv_aload_n zx zb dL_law_174 rfl (lv_at hl 1 rfl) ?_
  refine lv_iload zx zb dL_law_175 (lv_at hl 5 rfl) ?_
  refine bi_const (n := 2) zx zb dL_law_177 ?_
  refine bi_add zx zb dL_law_178 ?_
  refine slG C0 hX hbl hbA hL hH (by omega) (by omega) dL_law_179 ?_
  refine cvI (rest := []) (As := [.int (iI ((xs (i + 1).toNat).toInt)), .int (iI ((xs (i + 2).toNat).toInt))]) (b := g.1 23) C0 hH hM kw_L_94 ky_X7_addStar ⟨by have := hR.1; omega, by have := hR.2; omega⟩ ⟨by omega, by omega⟩ 23 rfl rfl rfl hl.1 rfl (Nat.le_of_ble_eq_true rfl) dL_law_180 (fun H locs hH => ?_)
  refine lv_istore zx zb dL_law_183 hl (by decide) rfl (fun ls hl => ?_)
  refine lv_aload_n zx zb dL_law_185 rfl (lv_at hl 4 rfl) ?_
  refine cvI (rest := []) (As := []) (b := g.1 23) C0 hH (c_X7_thrown l g S2) kw_L_95 ky_X7_thrown ⟨by have := hR.1; omega, by have := hR.2; omega⟩ ⟨by omega, by omega⟩ 23 rfl rfl rfl hl.1 rfl (Nat.le_of_ble_eq_true rfl) dL_law_186 (fun H locs hH => ?_)
  refine lv_iload zx zb dL_law_189 (lv_at hl 1 rfl) ?_
  refine bq_eq (tgt := 196) zx zb dL_law_191 (by decide) ⟨by omega, by omega⟩ ⟨by omega, by omega⟩ (fun zq1 => ?_) (fun zq1 => absurd ht zq1)
  refine lv_iload zx zb dL_law_196 (lv_at hl 1 rfl) ?_
  refine bz_ne (tgt := 213) zx zb dL_law_198 (by decide) ⟨by omega, by omega⟩ (fun zq5 => ?_) (fun zq5 => ?_)
  · refine lv_goto (tgt := 1677) zx zb dL_law_213 (by decide) ?_
    exact kk _ _ _ _ hC2 hH (lv_sub hl [2, 3, 4, 5, 6] rfl)
  · refine lv_aload_n zx zb dL_law_201 rfl (lv_at hl 5 rfl) ?_
    refine bi_const (n := 0) zx zb dL_law_202 ?_
    refine llG C0 hH dL_law_203 ?_
    refine lv_iload zx zb dL_law_204 (lv_at hl 0 rfl) ?_
    rw [hv zq5]
    refine lv_i2l zx zb dL_law_206 rfl ?_
    refine W.lcmp zx zb dL_law_207 ?_
    rw [lg_self]
    refine bz_eq (tgt := 213) zx zb dL_law_208 (by decide) rg0 (fun _ => ?_) (fun zq8 => absurd rfl zq8)
    refine lv_goto (tgt := 1677) zx zb dL_law_213 (by decide) ?_
    exact kk _ _ _ _ hC2 hH (lv_sub hl [2, 3, 4, 5, 6] rfl)
set_option maxRecDepth 100000 in
set_option maxHeartbeats 4000000 in
theorem blk_correct {p : Program} {l : Launch} {e : Env} {R : Room} {s : State} {m : MethodId} {args : Array Value} {below : List Frame} {meth : Method} {c : Code} {H : Heap} {locs : List Loc} {cells slots : Nat} {Q : State → Prop} {g : gT} {S : gSt} {ls : Array Slot} {b L : Nat} {xs : Nat → Int32} {i : Int} (C0 : Ct p s m args c g RL cL_law 7) (hfl : l.stackTraces = false) (hX : va_X b L xs s s.heap) (hbl : b < s.heap.size) (hbA : ¬ oA g b) (hL : L ≤ 2560) (hR : R.frames = 11 ∧ R.locals = 424) (hcs : cells + 1 ≤ R.cells ∧ slots + 6 ≤ R.slots) (i0 : 0 ≤ i) (i5 : i + 5 ≤ L) (hC : Cpl S) (hH : Hp g S s H locs) (hl : lv_has ls 7 [(0, .ref b), (1, .ref (g.1 0)), (2, .ref (g.1 23)), (3, .ref (g.1 33)), (4, .int (iI i))])
    (kk : ∀ (S9 : gSt) (H9 : Heap) (locs9 : List Loc) (ls9 : Array Slot), Cpl S9 → Hp g S9 s H9 locs9 → lv_has ls9 7 [(0, .ref b), (1, .ref (g.1 0)), (2, .ref (g.1 23)), (3, .ref (g.1 33)), (4, .int (iI i))] → W p l e R s m args below meth c H9 locs9 (cells + 1) (slots + 6) Q (F0 m 1677 ls9 [])) : W p l e R s m args below meth c H locs cells slots Q (F0 m 216 ls []) := by
  have zx := C0.1
  have zb := C0.2.1
  obtain ⟨k9, b9, S1, S2, fr, lo, hW, hM, hB, ht, hk, hv, hC2⟩ := op_correct l g S ((xs (i + 1).toNat).toInt) ((xs (i + 2).toNat).toInt) ((xs (i + 3).toNat).toInt) hC hfl (rg_t _) (rg_t _) (rg_t _)
  refine lv_aload_n zx zb dL_law_216 rfl (lv_at hl 1 rfl) ?_
  refine lv_aload_n zx zb dL_law_217 rfl (lv_at hl 0 rfl) ?_
  refine lv_iload zx zb dL_law_218 (lv_at hl 4 rfl) ?_
  refine bi_const (n := 1) zx zb dL_law_220 ?_
  refine bi_add zx zb dL_law_221 ?_
  refine slG C0 hX hbl hbA hL hH (by omega) (by omega) dL_law_222 ?_
  refine lv_aload_n zx zb dL_law_223 rfl (lv_at hl 0 rfl) ?_
  refine lv_iload zx zb dL_law_224 (lv_at hl 4 rfl) ?_
  refine bi_const (n := 2) zx zb dL_law_226 ?_
  refine bi_add zx zb dL_law_227 ?_
  refine slG C0 hX hbl hbA hL hH (by omega) (by omega) dL_law_228 ?_
  refine lv_aload_n zx zb dL_law_229 rfl (lv_at hl 0 rfl) ?_
  refine lv_iload zx zb dL_law_230 (lv_at hl 4 rfl) ?_
  refine bi_const (n := 3) zx zb dL_law_232 ?_
  refine bi_add zx zb dL_law_233 ?_
  refine slG C0 hX hbl hbA hL hH (by omega) (by omega) dL_law_234 ?_
  refine lv_aload_n zx zb dL_law_235 rfl (lv_at hl 3 rfl) ?_
  refine csW (rest := []) (As := [.ref (g.1 0), .int (iI ((xs (i + 1).toNat).toInt)), .int (iI ((xs (i + 2).toNat).toInt)), .int (iI ((xs (i + 3).toNat).toInt)), .ref (g.1 33)]) C0 hH hW kwW_correct ky_L_correct ⟨by have := hR.1; omega, by have := hR.2; omega⟩ hcs rfl hl.1 rfl (Nat.le_of_ble_eq_true rfl) dL_law_236 (fun H locs hH => ?_)
  refine lv_istore zx zb dL_law_239 hl (by decide) rfl (fun ls hl => ?_)
  refine lv_aload_n zx zb dL_law_241 rfl (lv_at hl 3 rfl) ?_
  refine lv_aload_n zx zb dL_law_242 rfl (lv_at hl 1 rfl) ?_
  refine lv_iload zx zb dL_law_243 (lv_at hl 5 rfl) ?_
  refine bi_const (n := 1) zx zb dL_law_245 ?_
  refine bi_add zx zb dL_law_246 ?_
  refine slG C0 hX hbl hbA hL hH (by omega) (by omega) dL_law_247 ?_
  refine lv_aload_n zx zb dL_law_248 rfl (lv_at hl 1 rfl) ?_
  refine lv_iload zx zb dL_law_249 (lv_at hl 5 rfl) ?_
  refine bi_const (n := 2) zx zb dL_law_251 ?_
  refine bi_add zx zb dL_law_252 ?_
  refine slG C0 hX hbl hbA hL hH (by omega) (by omega) dL_law_253 ?_
  refine lv_aload_n zx zb dL_law_254 rfl (lv_at hl 1 rfl) ?_
  refine lv_iload zx zb dL_law_255 (lv_at hl 5 rfl) ?_
  refine bi_const (n := 3) zx zb dL_law_257 ?_
  refine bi_add zx zb dL_law_258 ?_
  refine slG C0 hX hbl hbA hL hH (by omega) (by omega) dL_law_259 ?_
  refine cvI (rest := []) (As := [.int (iI ((xs (i + 1).toNat).toInt)), .int (iI ((xs (i + 2).toNat).toInt)), .int (iI ((xs (i + 3).toNat).toInt))]) (b := g.1 23) C0 hH hM kw_L_101 ky_X7_correct ⟨by have := hR.1; omega, by have := hR.2; omega⟩ ⟨by omega, by omega⟩ 23 rfl rfl rfl hl.1 rfl (Nat.le_of_ble_eq_true rfl) dL_law_260 (fun H locs hH => ?_)
  refine lv_istore zx zb dL_law_263 hl (by decide) rfl (fun ls hl => ?_)
  refine lv_aload_n zx zb dL_law_265 rfl (lv_at hl 4 rfl) ?_
  refine cvI (rest := []) (As := []) (b := g.1 23) C0 hH (c_X7_thrown l g S2) kw_L_95 ky_X7_thrown ⟨by have := hR.1; omega, by have := hR.2; omega⟩ ⟨by omega, by omega⟩ 23 rfl rfl rfl hl.1 rfl (Nat.le_of_ble_eq_true rfl) dL_law_266 (fun H locs hH => ?_)
  refine lv_iload zx zb dL_law_269 (lv_at hl 1 rfl) ?_
  refine bq_eq (tgt := 276) zx zb dL_law_271 (by decide) ⟨by omega, by omega⟩ ⟨by omega, by omega⟩ (fun zq1 => ?_) (fun zq1 => absurd ht zq1)
  refine lv_iload zx zb dL_law_276 (lv_at hl 1 rfl) ?_
  refine bz_ne (tgt := 293) zx zb dL_law_278 (by decide) ⟨by omega, by omega⟩ (fun zq5 => ?_) (fun zq5 => ?_)
  · refine lv_goto (tgt := 1677) zx zb dL_law_293 (by decide) ?_
    exact kk _ _ _ _ hC2 hH (lv_sub hl [2, 3, 4, 5, 6] rfl)
  · refine lv_aload_n zx zb dL_law_281 rfl (lv_at hl 5 rfl) ?_
    refine bi_const (n := 0) zx zb dL_law_282 ?_
    refine llG C0 hH dL_law_283 ?_
    refine lv_iload zx zb dL_law_284 (lv_at hl 0 rfl) ?_
    rw [hv zq5]
    refine lv_i2l zx zb dL_law_286 rfl ?_
    refine W.lcmp zx zb dL_law_287 ?_
    rw [lg_self]
    refine bz_eq (tgt := 293) zx zb dL_law_288 (by decide) rg0 (fun _ => ?_) (fun zq8 => absurd rfl zq8)
    refine lv_goto (tgt := 1677) zx zb dL_law_293 (by decide) ?_
    exact kk _ _ _ _ hC2 hH (lv_sub hl [2, 3, 4, 5, 6] rfl)
set_option maxRecDepth 100000 in
set_option maxHeartbeats 4000000 in
theorem blk_addFigure {p : Program} {l : Launch} {e : Env} {R : Room} {s : State} {m : MethodId} {args : Array Value} {below : List Frame} {meth : Method} {c : Code} {H : Heap} {locs : List Loc} {cells slots : Nat} {Q : State → Prop} {g : gT} {S : gSt} {ls : Array Slot} {b L : Nat} {xs : Nat → Int32} {i : Int} (C0 : Ct p s m args c g RL cL_law 7) (hfl : l.stackTraces = false) (hX : va_X b L xs s s.heap) (hbl : b < s.heap.size) (hbA : ¬ oA g b) (hL : L ≤ 2560) (hR : R.frames = 11 ∧ R.locals = 424) (hcs : cells + 1 ≤ R.cells ∧ slots + 6 ≤ R.slots) (i0 : 0 ≤ i) (i5 : i + 5 ≤ L) (hC : Cpl S) (hH : Hp g S s H locs) (hl : lv_has ls 7 [(0, .ref b), (1, .ref (g.1 0)), (2, .ref (g.1 23)), (3, .ref (g.1 33)), (4, .int (iI i))])
    (kk : ∀ (S9 : gSt) (H9 : Heap) (locs9 : List Loc) (ls9 : Array Slot), Cpl S9 → Hp g S9 s H9 locs9 → lv_has ls9 7 [(0, .ref b), (1, .ref (g.1 0)), (2, .ref (g.1 23)), (3, .ref (g.1 33)), (4, .int (iI i))] → W p l e R s m args below meth c H9 locs9 (cells + 1) (slots + 6) Q (F0 m 1677 ls9 [])) : W p l e R s m args below meth c H locs cells slots Q (F0 m 296 ls []) := by
  have zx := C0.1
  have zb := C0.2.1
  obtain ⟨k9, b9, S1, S2, fr, lo, hW, hM, hB, ht, hk, hv, hC2⟩ := op_addFigure l g S hC hfl 
  refine lv_aload_n zx zb dL_law_296 rfl (lv_at hl 1 rfl) ?_
  refine lv_aload_n zx zb dL_law_297 rfl (lv_at hl 3 rfl) ?_
  refine csW (rest := []) (As := [.ref (g.1 0), .ref (g.1 33)]) C0 hH hW kwW_addFigure ky_L_addFigure ⟨by have := hR.1; omega, by have := hR.2; omega⟩ hcs rfl hl.1 rfl (Nat.le_of_ble_eq_true rfl) dL_law_298 (fun H locs hH => ?_)
  refine lv_istore zx zb dL_law_301 hl (by decide) rfl (fun ls hl => ?_)
  refine lv_aload_n zx zb dL_law_303 rfl (lv_at hl 3 rfl) ?_
  refine cvI (rest := []) (As := []) (b := g.1 23) C0 hH hM kw_L_105 ky_X7_addFigure ⟨by have := hR.1; omega, by have := hR.2; omega⟩ ⟨by omega, by omega⟩ 23 rfl rfl rfl hl.1 rfl (Nat.le_of_ble_eq_true rfl) dL_law_304 (fun H locs hH => ?_)
  refine lv_istore zx zb dL_law_307 hl (by decide) rfl (fun ls hl => ?_)
  refine lv_aload_n zx zb dL_law_309 rfl (lv_at hl 4 rfl) ?_
  refine cvI (rest := []) (As := []) (b := g.1 23) C0 hH (c_X7_thrown l g S2) kw_L_95 ky_X7_thrown ⟨by have := hR.1; omega, by have := hR.2; omega⟩ ⟨by omega, by omega⟩ 23 rfl rfl rfl hl.1 rfl (Nat.le_of_ble_eq_true rfl) dL_law_310 (fun H locs hH => ?_)
  refine lv_iload zx zb dL_law_313 (lv_at hl 1 rfl) ?_
  refine bq_eq (tgt := 320) zx zb dL_law_315 (by decide) ⟨by omega, by omega⟩ ⟨by omega, by omega⟩ (fun zq1 => ?_) (fun zq1 => absurd ht zq1)
  refine lv_iload zx zb dL_law_320 (lv_at hl 1 rfl) ?_
  refine bz_ne (tgt := 337) zx zb dL_law_322 (by decide) ⟨by omega, by omega⟩ (fun zq5 => ?_) (fun zq5 => ?_)
  · refine lv_goto (tgt := 1677) zx zb dL_law_337 (by decide) ?_
    exact kk _ _ _ _ hC2 hH (lv_sub hl [2, 3, 4, 5, 6] rfl)
  · refine lv_aload_n zx zb dL_law_325 rfl (lv_at hl 5 rfl) ?_
    refine bi_const (n := 0) zx zb dL_law_326 ?_
    refine llG C0 hH dL_law_327 ?_
    refine lv_iload zx zb dL_law_328 (lv_at hl 0 rfl) ?_
    rw [hv zq5]
    refine lv_i2l zx zb dL_law_330 rfl ?_
    refine W.lcmp zx zb dL_law_331 ?_
    rw [lg_self]
    refine bz_eq (tgt := 337) zx zb dL_law_332 (by decide) rg0 (fun _ => ?_) (fun zq8 => absurd rfl zq8)
    refine lv_goto (tgt := 1677) zx zb dL_law_337 (by decide) ?_
    exact kk _ _ _ _ hC2 hH (lv_sub hl [2, 3, 4, 5, 6] rfl)
set_option maxRecDepth 100000 in
set_option maxHeartbeats 4000000 in
theorem blk_draw {p : Program} {l : Launch} {e : Env} {R : Room} {s : State} {m : MethodId} {args : Array Value} {below : List Frame} {meth : Method} {c : Code} {H : Heap} {locs : List Loc} {cells slots : Nat} {Q : State → Prop} {g : gT} {S : gSt} {ls : Array Slot} {b L : Nat} {xs : Nat → Int32} {i : Int} (C0 : Ct p s m args c g RL cL_law 7) (hfl : l.stackTraces = false) (hX : va_X b L xs s s.heap) (hbl : b < s.heap.size) (hbA : ¬ oA g b) (hL : L ≤ 2560) (hR : R.frames = 11 ∧ R.locals = 424) (hcs : cells + 1 ≤ R.cells ∧ slots + 6 ≤ R.slots) (i0 : 0 ≤ i) (i5 : i + 5 ≤ L) (hC : Cpl S) (hH : Hp g S s H locs) (hl : lv_has ls 7 [(0, .ref b), (1, .ref (g.1 0)), (2, .ref (g.1 23)), (3, .ref (g.1 33)), (4, .int (iI i))])
    (kk : ∀ (S9 : gSt) (H9 : Heap) (locs9 : List Loc) (ls9 : Array Slot), Cpl S9 → Hp g S9 s H9 locs9 → lv_has ls9 7 [(0, .ref b), (1, .ref (g.1 0)), (2, .ref (g.1 23)), (3, .ref (g.1 33)), (4, .int (iI i))] → W p l e R s m args below meth c H9 locs9 (cells + 1) (slots + 6) Q (F0 m 1677 ls9 [])) : W p l e R s m args below meth c H locs cells slots Q (F0 m 340 ls []) := by
  have zx := C0.1
  have zb := C0.2.1
  obtain ⟨k9, b9, S1, S2, fr, lo, hW, hM, hB, ht, hk, hv, hC2⟩ := op_draw l g S ((xs (i + 1).toNat).toInt) ((xs (i + 2).toNat).toInt) ((xs (i + 3).toNat).toInt) hC hfl (rg_t _) (rg_t _) (rg_t _)
  refine lv_aload_n zx zb dL_law_340 rfl (lv_at hl 1 rfl) ?_
  refine lv_aload_n zx zb dL_law_341 rfl (lv_at hl 0 rfl) ?_
  refine lv_iload zx zb dL_law_342 (lv_at hl 4 rfl) ?_
  refine bi_const (n := 1) zx zb dL_law_344 ?_
  refine bi_add zx zb dL_law_345 ?_
  refine slG C0 hX hbl hbA hL hH (by omega) (by omega) dL_law_346 ?_
  refine lv_aload_n zx zb dL_law_347 rfl (lv_at hl 0 rfl) ?_
  refine lv_iload zx zb dL_law_348 (lv_at hl 4 rfl) ?_
  refine bi_const (n := 2) zx zb dL_law_350 ?_
  refine bi_add zx zb dL_law_351 ?_
  refine slG C0 hX hbl hbA hL hH (by omega) (by omega) dL_law_352 ?_
  refine lv_aload_n zx zb dL_law_353 rfl (lv_at hl 0 rfl) ?_
  refine lv_iload zx zb dL_law_354 (lv_at hl 4 rfl) ?_
  refine bi_const (n := 3) zx zb dL_law_356 ?_
  refine bi_add zx zb dL_law_357 ?_
  refine slG C0 hX hbl hbA hL hH (by omega) (by omega) dL_law_358 ?_
  refine lv_aload_n zx zb dL_law_359 rfl (lv_at hl 3 rfl) ?_
  refine csW (rest := []) (As := [.ref (g.1 0), .int (iI ((xs (i + 1).toNat).toInt)), .int (iI ((xs (i + 2).toNat).toInt)), .int (iI ((xs (i + 3).toNat).toInt)), .ref (g.1 33)]) C0 hH hW kwW_draw ky_L_draw ⟨by have := hR.1; omega, by have := hR.2; omega⟩ hcs rfl hl.1 rfl (Nat.le_of_ble_eq_true rfl) dL_law_360 (fun H locs hH => ?_)
  refine lv_istore zx zb dL_law_363 hl (by decide) rfl (fun ls hl => ?_)
  refine lv_aload_n zx zb dL_law_365 rfl (lv_at hl 3 rfl) ?_
  refine lv_aload_n zx zb dL_law_366 rfl (lv_at hl 1 rfl) ?_
  refine lv_iload zx zb dL_law_367 (lv_at hl 5 rfl) ?_
  refine bi_const (n := 1) zx zb dL_law_369 ?_
  refine bi_add zx zb dL_law_370 ?_
  refine slG C0 hX hbl hbA hL hH (by omega) (by omega) dL_law_371 ?_
  refine lv_aload_n zx zb dL_law_372 rfl (lv_at hl 1 rfl) ?_
  refine lv_iload zx zb dL_law_373 (lv_at hl 5 rfl) ?_
  refine bi_const (n := 2) zx zb dL_law_375 ?_
  refine bi_add zx zb dL_law_376 ?_
  refine slG C0 hX hbl hbA hL hH (by omega) (by omega) dL_law_377 ?_
  refine lv_aload_n zx zb dL_law_378 rfl (lv_at hl 1 rfl) ?_
  refine lv_iload zx zb dL_law_379 (lv_at hl 5 rfl) ?_
  refine bi_const (n := 3) zx zb dL_law_381 ?_
  refine bi_add zx zb dL_law_382 ?_
  refine slG C0 hX hbl hbA hL hH (by omega) (by omega) dL_law_383 ?_
  refine cvI (rest := []) (As := [.int (iI ((xs (i + 1).toNat).toInt)), .int (iI ((xs (i + 2).toNat).toInt)), .int (iI ((xs (i + 3).toNat).toInt))]) (b := g.1 23) C0 hH hM kw_L_108 ky_X7_draw ⟨by have := hR.1; omega, by have := hR.2; omega⟩ ⟨by omega, by omega⟩ 23 rfl rfl rfl hl.1 rfl (Nat.le_of_ble_eq_true rfl) dL_law_384 (fun H locs hH => ?_)
  refine lv_istore zx zb dL_law_387 hl (by decide) rfl (fun ls hl => ?_)
  refine lv_aload_n zx zb dL_law_389 rfl (lv_at hl 4 rfl) ?_
  refine cvI (rest := []) (As := []) (b := g.1 23) C0 hH (c_X7_thrown l g S2) kw_L_95 ky_X7_thrown ⟨by have := hR.1; omega, by have := hR.2; omega⟩ ⟨by omega, by omega⟩ 23 rfl rfl rfl hl.1 rfl (Nat.le_of_ble_eq_true rfl) dL_law_390 (fun H locs hH => ?_)
  refine lv_iload zx zb dL_law_393 (lv_at hl 1 rfl) ?_
  refine bq_eq (tgt := 400) zx zb dL_law_395 (by decide) ⟨by omega, by omega⟩ ⟨by omega, by omega⟩ (fun zq1 => ?_) (fun zq1 => absurd ht zq1)
  refine lv_iload zx zb dL_law_400 (lv_at hl 1 rfl) ?_
  refine bz_ne (tgt := 417) zx zb dL_law_402 (by decide) ⟨by omega, by omega⟩ (fun zq5 => ?_) (fun zq5 => ?_)
  · refine lv_goto (tgt := 1677) zx zb dL_law_417 (by decide) ?_
    exact kk _ _ _ _ hC2 hH (lv_sub hl [2, 3, 4, 5, 6] rfl)
  · refine lv_aload_n zx zb dL_law_405 rfl (lv_at hl 5 rfl) ?_
    refine bi_const (n := 0) zx zb dL_law_406 ?_
    refine llG C0 hH dL_law_407 ?_
    refine lv_iload zx zb dL_law_408 (lv_at hl 0 rfl) ?_
    rw [hv zq5]
    refine lv_i2l zx zb dL_law_410 rfl ?_
    refine W.lcmp zx zb dL_law_411 ?_
    rw [lg_self]
    refine bz_eq (tgt := 417) zx zb dL_law_412 (by decide) rg0 (fun _ => ?_) (fun zq8 => absurd rfl zq8)
    refine lv_goto (tgt := 1677) zx zb dL_law_417 (by decide) ?_
    exact kk _ _ _ _ hC2 hH (lv_sub hl [2, 3, 4, 5, 6] rfl)
set_option maxRecDepth 100000 in
set_option maxHeartbeats 4000000 in
theorem blk_erase {p : Program} {l : Launch} {e : Env} {R : Room} {s : State} {m : MethodId} {args : Array Value} {below : List Frame} {meth : Method} {c : Code} {H : Heap} {locs : List Loc} {cells slots : Nat} {Q : State → Prop} {g : gT} {S : gSt} {ls : Array Slot} {b L : Nat} {xs : Nat → Int32} {i : Int} (C0 : Ct p s m args c g RL cL_law 7) (hfl : l.stackTraces = false) (hX : va_X b L xs s s.heap) (hbl : b < s.heap.size) (hbA : ¬ oA g b) (hL : L ≤ 2560) (hR : R.frames = 11 ∧ R.locals = 424) (hcs : cells + 1 ≤ R.cells ∧ slots + 6 ≤ R.slots) (i0 : 0 ≤ i) (i5 : i + 5 ≤ L) (hC : Cpl S) (hH : Hp g S s H locs) (hl : lv_has ls 7 [(0, .ref b), (1, .ref (g.1 0)), (2, .ref (g.1 23)), (3, .ref (g.1 33)), (4, .int (iI i))])
    (kk : ∀ (S9 : gSt) (H9 : Heap) (locs9 : List Loc) (ls9 : Array Slot), Cpl S9 → Hp g S9 s H9 locs9 → lv_has ls9 7 [(0, .ref b), (1, .ref (g.1 0)), (2, .ref (g.1 23)), (3, .ref (g.1 33)), (4, .int (iI i))] → W p l e R s m args below meth c H9 locs9 (cells + 1) (slots + 6) Q (F0 m 1677 ls9 [])) : W p l e R s m args below meth c H locs cells slots Q (F0 m 420 ls []) := by
  have zx := C0.1
  have zb := C0.2.1
  obtain ⟨k9, b9, S1, S2, fr, lo, hW, hM, hB, ht, hk, hv, hC2⟩ := op_erase l g S ((xs (i + 1).toNat).toInt) ((xs (i + 2).toNat).toInt) hC hfl (rg_t _) (rg_t _)
  refine lv_aload_n zx zb dL_law_420 rfl (lv_at hl 1 rfl) ?_
  refine lv_aload_n zx zb dL_law_421 rfl (lv_at hl 0 rfl) ?_
  refine lv_iload zx zb dL_law_422 (lv_at hl 4 rfl) ?_
  refine bi_const (n := 1) zx zb dL_law_424 ?_
  refine bi_add zx zb dL_law_425 ?_
  refine slG C0 hX hbl hbA hL hH (by omega) (by omega) dL_law_426 ?_
  refine lv_aload_n zx zb dL_law_427 rfl (lv_at hl 0 rfl) ?_
  refine lv_iload zx zb dL_law_428 (lv_at hl 4 rfl) ?_
  refine bi_const (n := 2) zx zb dL_law_430 ?_
  refine bi_add zx zb dL_law_431 ?_
  refine slG C0 hX hbl hbA hL hH (by omega) (by omega) dL_law_432 ?_
  refine lv_aload_n zx zb dL_law_433 rfl (lv_at hl 3 rfl) ?_
  refine csW (rest := []) (As := [.ref (g.1 0), .int (iI ((xs (i + 1).toNat).toInt)), .int (iI ((xs (i + 2).toNat).toInt)), .ref (g.1 33)]) C0 hH hW kwW_erase ky_L_erase ⟨by have := hR.1; omega, by have := hR.2; omega⟩ hcs rfl hl.1 rfl (Nat.le_of_ble_eq_true rfl) dL_law_434 (fun H locs hH => ?_)
  refine lv_istore zx zb dL_law_437 hl (by decide) rfl (fun ls hl => ?_)
  refine lv_aload_n zx zb dL_law_439 rfl (lv_at hl 3 rfl) ?_
  refine lv_aload_n zx zb dL_law_440 rfl (lv_at hl 1 rfl) ?_
  refine lv_iload zx zb dL_law_441 (lv_at hl 5 rfl) ?_
  refine bi_const (n := 1) zx zb dL_law_443 ?_
  refine bi_add zx zb dL_law_444 ?_
  refine slG C0 hX hbl hbA hL hH (by omega) (by omega) dL_law_445 ?_
  refine lv_aload_n zx zb dL_law_446 rfl (lv_at hl 1 rfl) ?_
  refine lv_iload zx zb dL_law_447 (lv_at hl 5 rfl) ?_
  refine bi_const (n := 2) zx zb dL_law_449 ?_
  refine bi_add zx zb dL_law_450 ?_
  refine slG C0 hX hbl hbA hL hH (by omega) (by omega) dL_law_451 ?_
  refine cvI (rest := []) (As := [.int (iI ((xs (i + 1).toNat).toInt)), .int (iI ((xs (i + 2).toNat).toInt))]) (b := g.1 23) C0 hH hM kw_L_111 ky_X7_erase ⟨by have := hR.1; omega, by have := hR.2; omega⟩ ⟨by omega, by omega⟩ 23 rfl rfl rfl hl.1 rfl (Nat.le_of_ble_eq_true rfl) dL_law_452 (fun H locs hH => ?_)
  refine lv_istore zx zb dL_law_455 hl (by decide) rfl (fun ls hl => ?_)
  refine lv_aload_n zx zb dL_law_457 rfl (lv_at hl 4 rfl) ?_
  refine cvI (rest := []) (As := []) (b := g.1 23) C0 hH (c_X7_thrown l g S2) kw_L_95 ky_X7_thrown ⟨by have := hR.1; omega, by have := hR.2; omega⟩ ⟨by omega, by omega⟩ 23 rfl rfl rfl hl.1 rfl (Nat.le_of_ble_eq_true rfl) dL_law_458 (fun H locs hH => ?_)
  refine lv_iload zx zb dL_law_461 (lv_at hl 1 rfl) ?_
  refine bq_eq (tgt := 468) zx zb dL_law_463 (by decide) ⟨by omega, by omega⟩ ⟨by omega, by omega⟩ (fun zq1 => ?_) (fun zq1 => absurd ht zq1)
  refine lv_iload zx zb dL_law_468 (lv_at hl 1 rfl) ?_
  refine bz_ne (tgt := 485) zx zb dL_law_470 (by decide) ⟨by omega, by omega⟩ (fun zq5 => ?_) (fun zq5 => ?_)
  · refine lv_goto (tgt := 1677) zx zb dL_law_485 (by decide) ?_
    exact kk _ _ _ _ hC2 hH (lv_sub hl [2, 3, 4, 5, 6] rfl)
  · refine lv_aload_n zx zb dL_law_473 rfl (lv_at hl 5 rfl) ?_
    refine bi_const (n := 0) zx zb dL_law_474 ?_
    refine llG C0 hH dL_law_475 ?_
    refine lv_iload zx zb dL_law_476 (lv_at hl 0 rfl) ?_
    rw [hv zq5]
    refine lv_i2l zx zb dL_law_478 rfl ?_
    refine W.lcmp zx zb dL_law_479 ?_
    rw [lg_self]
    refine bz_eq (tgt := 485) zx zb dL_law_480 (by decide) rg0 (fun _ => ?_) (fun zq8 => absurd rfl zq8)
    refine lv_goto (tgt := 1677) zx zb dL_law_485 (by decide) ?_
    exact kk _ _ _ _ hC2 hH (lv_sub hl [2, 3, 4, 5, 6] rfl)
set_option maxRecDepth 100000 in
set_option maxHeartbeats 4000000 in
theorem blk_undo {p : Program} {l : Launch} {e : Env} {R : Room} {s : State} {m : MethodId} {args : Array Value} {below : List Frame} {meth : Method} {c : Code} {H : Heap} {locs : List Loc} {cells slots : Nat} {Q : State → Prop} {g : gT} {S : gSt} {ls : Array Slot} {b L : Nat} {xs : Nat → Int32} {i : Int} (C0 : Ct p s m args c g RL cL_law 7) (hfl : l.stackTraces = false) (hX : va_X b L xs s s.heap) (hbl : b < s.heap.size) (hbA : ¬ oA g b) (hL : L ≤ 2560) (hR : R.frames = 11 ∧ R.locals = 424) (hcs : cells + 1 ≤ R.cells ∧ slots + 6 ≤ R.slots) (i0 : 0 ≤ i) (i5 : i + 5 ≤ L) (hC : Cpl S) (hH : Hp g S s H locs) (hl : lv_has ls 7 [(0, .ref b), (1, .ref (g.1 0)), (2, .ref (g.1 23)), (3, .ref (g.1 33)), (4, .int (iI i))])
    (kk : ∀ (S9 : gSt) (H9 : Heap) (locs9 : List Loc) (ls9 : Array Slot), Cpl S9 → Hp g S9 s H9 locs9 → lv_has ls9 7 [(0, .ref b), (1, .ref (g.1 0)), (2, .ref (g.1 23)), (3, .ref (g.1 33)), (4, .int (iI i))] → W p l e R s m args below meth c H9 locs9 (cells + 1) (slots + 6) Q (F0 m 1677 ls9 [])) : W p l e R s m args below meth c H locs cells slots Q (F0 m 488 ls []) := by
  have zx := C0.1
  have zb := C0.2.1
  obtain ⟨k9, b9, S1, S2, fr, lo, hW, hM, hB, ht, hk, hv, hC2⟩ := op_undo l g S hC hfl 
  refine lv_aload_n zx zb dL_law_488 rfl (lv_at hl 1 rfl) ?_
  refine lv_aload_n zx zb dL_law_489 rfl (lv_at hl 3 rfl) ?_
  refine csW (rest := []) (As := [.ref (g.1 0), .ref (g.1 33)]) C0 hH hW kwW_undo ky_L_undo ⟨by have := hR.1; omega, by have := hR.2; omega⟩ hcs rfl hl.1 rfl (Nat.le_of_ble_eq_true rfl) dL_law_490 (fun H locs hH => ?_)
  refine lv_istore zx zb dL_law_493 hl (by decide) rfl (fun ls hl => ?_)
  refine lv_aload_n zx zb dL_law_495 rfl (lv_at hl 3 rfl) ?_
  refine cvI (rest := []) (As := []) (b := g.1 23) C0 hH hM kw_L_114 ky_X7_undo ⟨by have := hR.1; omega, by have := hR.2; omega⟩ ⟨by omega, by omega⟩ 23 rfl rfl rfl hl.1 rfl (Nat.le_of_ble_eq_true rfl) dL_law_496 (fun H locs hH => ?_)
  refine lv_istore zx zb dL_law_499 hl (by decide) rfl (fun ls hl => ?_)
  refine lv_aload_n zx zb dL_law_501 rfl (lv_at hl 4 rfl) ?_
  refine cvI (rest := []) (As := []) (b := g.1 23) C0 hH (c_X7_thrown l g S2) kw_L_95 ky_X7_thrown ⟨by have := hR.1; omega, by have := hR.2; omega⟩ ⟨by omega, by omega⟩ 23 rfl rfl rfl hl.1 rfl (Nat.le_of_ble_eq_true rfl) dL_law_502 (fun H locs hH => ?_)
  refine lv_iload zx zb dL_law_505 (lv_at hl 1 rfl) ?_
  refine bq_eq (tgt := 512) zx zb dL_law_507 (by decide) ⟨by omega, by omega⟩ ⟨by omega, by omega⟩ (fun zq1 => ?_) (fun zq1 => absurd ht zq1)
  refine lv_iload zx zb dL_law_512 (lv_at hl 1 rfl) ?_
  refine bz_ne (tgt := 529) zx zb dL_law_514 (by decide) ⟨by omega, by omega⟩ (fun zq5 => ?_) (fun zq5 => ?_)
  · refine lv_goto (tgt := 1677) zx zb dL_law_529 (by decide) ?_
    exact kk _ _ _ _ hC2 hH (lv_sub hl [2, 3, 4, 5, 6] rfl)
  · refine lv_aload_n zx zb dL_law_517 rfl (lv_at hl 5 rfl) ?_
    refine bi_const (n := 0) zx zb dL_law_518 ?_
    refine llG C0 hH dL_law_519 ?_
    refine lv_iload zx zb dL_law_520 (lv_at hl 0 rfl) ?_
    rw [hv zq5]
    refine lv_i2l zx zb dL_law_522 rfl ?_
    refine W.lcmp zx zb dL_law_523 ?_
    rw [lg_self]
    refine bz_eq (tgt := 529) zx zb dL_law_524 (by decide) rg0 (fun _ => ?_) (fun zq8 => absurd rfl zq8)
    refine lv_goto (tgt := 1677) zx zb dL_law_529 (by decide) ?_
    exact kk _ _ _ _ hC2 hH (lv_sub hl [2, 3, 4, 5, 6] rfl)
set_option maxRecDepth 100000 in
set_option maxHeartbeats 4000000 in
theorem blk_stars {p : Program} {l : Launch} {e : Env} {R : Room} {s : State} {m : MethodId} {args : Array Value} {below : List Frame} {meth : Method} {c : Code} {H : Heap} {locs : List Loc} {cells slots : Nat} {Q : State → Prop} {g : gT} {S : gSt} {ls : Array Slot} {b L : Nat} {xs : Nat → Int32} {i : Int} (C0 : Ct p s m args c g RL cL_law 7) (hfl : l.stackTraces = false) (hX : va_X b L xs s s.heap) (hbl : b < s.heap.size) (hbA : ¬ oA g b) (hL : L ≤ 2560) (hR : R.frames = 11 ∧ R.locals = 424) (hcs : cells + 1 ≤ R.cells ∧ slots + 6 ≤ R.slots) (i0 : 0 ≤ i) (i5 : i + 5 ≤ L) (hC : Cpl S) (hH : Hp g S s H locs) (hl : lv_has ls 7 [(0, .ref b), (1, .ref (g.1 0)), (2, .ref (g.1 23)), (3, .ref (g.1 33)), (4, .int (iI i))])
    (kk : ∀ (S9 : gSt) (H9 : Heap) (locs9 : List Loc) (ls9 : Array Slot), Cpl S9 → Hp g S9 s H9 locs9 → lv_has ls9 7 [(0, .ref b), (1, .ref (g.1 0)), (2, .ref (g.1 23)), (3, .ref (g.1 33)), (4, .int (iI i))] → W p l e R s m args below meth c H9 locs9 (cells + 1) (slots + 6) Q (F0 m 1677 ls9 [])) : W p l e R s m args below meth c H locs cells slots Q (F0 m 532 ls []) := by
  have zx := C0.1
  have zb := C0.2.1
  refine lv_aload_n zx zb dL_law_532 rfl (lv_at hl 1 rfl) ?_
  refine cvI (rest := []) (As := []) (b := g.1 0) C0 hH (c_X6_stars l g S) kw_L_115 ky_X6_stars ⟨by have := hR.1; omega, by have := hR.2; omega⟩ ⟨by omega, by omega⟩ 0 rfl rfl rfl hl.1 rfl (Nat.le_of_ble_eq_true rfl) dL_law_533 (fun H locs hH => ?_)
  refine lv_aload_n zx zb dL_law_536 rfl (lv_at hl 2 rfl) ?_
  refine cvI (rest := [.int (iI (S 1 0))]) (As := []) (b := g.1 23) C0 hH (c_X7_stars l g S) kw_L_118 ky_X7_stars ⟨by have := hR.1; omega, by have := hR.2; omega⟩ ⟨by omega, by omega⟩ 23 rfl rfl rfl hl.1 rfl (Nat.le_of_ble_eq_true rfl) dL_law_537 (fun H locs hH => ?_)
  have zq2 := hC.ns
  have zq3 := hC.nsb
  refine bq_eq (tgt := 1677) zx zb dL_law_540 (by decide) ⟨by omega, by omega⟩ ⟨by omega, by omega⟩ (fun zq1 => ?_) (fun zq1 => absurd zq2 zq1)
  exact W.widen (Nat.le_add_right _ _) (Nat.le_add_right _ _) (kk _ _ _ _ (hC.thr 0) hH hl)
set_option maxRecDepth 100000 in
set_option maxHeartbeats 4000000 in
theorem blk_figures {p : Program} {l : Launch} {e : Env} {R : Room} {s : State} {m : MethodId} {args : Array Value} {below : List Frame} {meth : Method} {c : Code} {H : Heap} {locs : List Loc} {cells slots : Nat} {Q : State → Prop} {g : gT} {S : gSt} {ls : Array Slot} {b L : Nat} {xs : Nat → Int32} {i : Int} (C0 : Ct p s m args c g RL cL_law 7) (hfl : l.stackTraces = false) (hX : va_X b L xs s s.heap) (hbl : b < s.heap.size) (hbA : ¬ oA g b) (hL : L ≤ 2560) (hR : R.frames = 11 ∧ R.locals = 424) (hcs : cells + 1 ≤ R.cells ∧ slots + 6 ≤ R.slots) (i0 : 0 ≤ i) (i5 : i + 5 ≤ L) (hC : Cpl S) (hH : Hp g S s H locs) (hl : lv_has ls 7 [(0, .ref b), (1, .ref (g.1 0)), (2, .ref (g.1 23)), (3, .ref (g.1 33)), (4, .int (iI i))])
    (kk : ∀ (S9 : gSt) (H9 : Heap) (locs9 : List Loc) (ls9 : Array Slot), Cpl S9 → Hp g S9 s H9 locs9 → lv_has ls9 7 [(0, .ref b), (1, .ref (g.1 0)), (2, .ref (g.1 23)), (3, .ref (g.1 33)), (4, .int (iI i))] → W p l e R s m args below meth c H9 locs9 (cells + 1) (slots + 6) Q (F0 m 1677 ls9 [])) : W p l e R s m args below meth c H locs cells slots Q (F0 m 545 ls []) := by
  have zx := C0.1
  have zb := C0.2.1
  refine lv_aload_n zx zb dL_law_545 rfl (lv_at hl 1 rfl) ?_
  refine cvI (rest := []) (As := []) (b := g.1 0) C0 hH (c_X6_figures l g S) kw_L_119 ky_X6_figures ⟨by have := hR.1; omega, by have := hR.2; omega⟩ ⟨by omega, by omega⟩ 0 rfl rfl rfl hl.1 rfl (Nat.le_of_ble_eq_true rfl) dL_law_546 (fun H locs hH => ?_)
  refine lv_aload_n zx zb dL_law_549 rfl (lv_at hl 2 rfl) ?_
  refine cvI (rest := [.int (iI (S 4 0))]) (As := []) (b := g.1 23) C0 hH (c_X7_figures l g S) kw_L_122 ky_X7_figures ⟨by have := hR.1; omega, by have := hR.2; omega⟩ ⟨by omega, by omega⟩ 23 rfl rfl rfl hl.1 rfl (Nat.le_of_ble_eq_true rfl) dL_law_550 (fun H locs hH => ?_)
  have zq2 := hC.nf
  have zq3 := hC.nfb
  refine bq_eq (tgt := 1677) zx zb dL_law_553 (by decide) ⟨by omega, by omega⟩ ⟨by omega, by omega⟩ (fun zq1 => ?_) (fun zq1 => absurd zq2 zq1)
  exact W.widen (Nat.le_add_right _ _) (Nat.le_add_right _ _) (kk _ _ _ _ (hC.thr 0) hH hl)
set_option maxRecDepth 100000 in
set_option maxHeartbeats 4000000 in
theorem blk_lines {p : Program} {l : Launch} {e : Env} {R : Room} {s : State} {m : MethodId} {args : Array Value} {below : List Frame} {meth : Method} {c : Code} {H : Heap} {locs : List Loc} {cells slots : Nat} {Q : State → Prop} {g : gT} {S : gSt} {ls : Array Slot} {b L : Nat} {xs : Nat → Int32} {i : Int} (C0 : Ct p s m args c g RL cL_law 7) (hfl : l.stackTraces = false) (hX : va_X b L xs s s.heap) (hbl : b < s.heap.size) (hbA : ¬ oA g b) (hL : L ≤ 2560) (hR : R.frames = 11 ∧ R.locals = 424) (hcs : cells + 1 ≤ R.cells ∧ slots + 6 ≤ R.slots) (i0 : 0 ≤ i) (i5 : i + 5 ≤ L) (hC : Cpl S) (hH : Hp g S s H locs) (hl : lv_has ls 7 [(0, .ref b), (1, .ref (g.1 0)), (2, .ref (g.1 23)), (3, .ref (g.1 33)), (4, .int (iI i))])
    (kk : ∀ (S9 : gSt) (H9 : Heap) (locs9 : List Loc) (ls9 : Array Slot), Cpl S9 → Hp g S9 s H9 locs9 → lv_has ls9 7 [(0, .ref b), (1, .ref (g.1 0)), (2, .ref (g.1 23)), (3, .ref (g.1 33)), (4, .int (iI i))] → W p l e R s m args below meth c H9 locs9 (cells + 1) (slots + 6) Q (F0 m 1677 ls9 [])) : W p l e R s m args below meth c H locs cells slots Q (F0 m 558 ls []) := by
  have zx := C0.1
  have zb := C0.2.1
  obtain ⟨k9, b9, S1, S2, fr, lo, hW, hM, hB, ht, hk, hv, hC2⟩ := op_lines l g S ((xs (i + 1).toNat).toInt) hC hfl (rg_t _)
  refine lv_aload_n zx zb dL_law_558 rfl (lv_at hl 1 rfl) ?_
  refine lv_aload_n zx zb dL_law_559 rfl (lv_at hl 0 rfl) ?_
  refine lv_iload zx zb dL_law_560 (lv_at hl 4 rfl) ?_
  refine bi_const (n := 1) zx zb dL_law_562 ?_
  refine bi_add zx zb dL_law_563 ?_
  refine slG C0 hX hbl hbA hL hH (by omega) (by omega) dL_law_564 ?_
  refine lv_aload_n zx zb dL_law_565 rfl (lv_at hl 3 rfl) ?_
  refine csW (rest := []) (As := [.ref (g.1 0), .int (iI ((xs (i + 1).toNat).toInt)), .ref (g.1 33)]) C0 hH hW kwW_lines ky_L_lines ⟨by have := hR.1; omega, by have := hR.2; omega⟩ hcs rfl hl.1 rfl (Nat.le_of_ble_eq_true rfl) dL_law_566 (fun H locs hH => ?_)
  refine lv_istore zx zb dL_law_569 hl (by decide) rfl (fun ls hl => ?_)
  refine lv_aload_n zx zb dL_law_571 rfl (lv_at hl 3 rfl) ?_
  refine lv_aload_n zx zb dL_law_572 rfl (lv_at hl 1 rfl) ?_
  refine lv_iload zx zb dL_law_573 (lv_at hl 5 rfl) ?_
  refine bi_const (n := 1) zx zb dL_law_575 ?_
  refine bi_add zx zb dL_law_576 ?_
  refine slG C0 hX hbl hbA hL hH (by omega) (by omega) dL_law_577 ?_
  refine cvI (rest := []) (As := [.int (iI ((xs (i + 1).toNat).toInt))]) (b := g.1 23) C0 hH hM kw_L_126 ky_X7_lines ⟨by have := hR.1; omega, by have := hR.2; omega⟩ ⟨by omega, by omega⟩ 23 rfl rfl rfl hl.1 rfl (Nat.le_of_ble_eq_true rfl) dL_law_578 (fun H locs hH => ?_)
  refine lv_istore zx zb dL_law_581 hl (by decide) rfl (fun ls hl => ?_)
  refine lv_aload_n zx zb dL_law_583 rfl (lv_at hl 4 rfl) ?_
  refine cvI (rest := []) (As := []) (b := g.1 23) C0 hH (c_X7_thrown l g S2) kw_L_95 ky_X7_thrown ⟨by have := hR.1; omega, by have := hR.2; omega⟩ ⟨by omega, by omega⟩ 23 rfl rfl rfl hl.1 rfl (Nat.le_of_ble_eq_true rfl) dL_law_584 (fun H locs hH => ?_)
  refine lv_iload zx zb dL_law_587 (lv_at hl 1 rfl) ?_
  refine bq_eq (tgt := 594) zx zb dL_law_589 (by decide) ⟨by omega, by omega⟩ ⟨by omega, by omega⟩ (fun zq1 => ?_) (fun zq1 => absurd ht zq1)
  refine lv_iload zx zb dL_law_594 (lv_at hl 1 rfl) ?_
  refine bz_ne (tgt := 611) zx zb dL_law_596 (by decide) ⟨by omega, by omega⟩ (fun zq5 => ?_) (fun zq5 => ?_)
  · refine lv_goto (tgt := 1677) zx zb dL_law_611 (by decide) ?_
    exact kk _ _ _ _ hC2 hH (lv_sub hl [2, 3, 4, 5, 6] rfl)
  · refine lv_aload_n zx zb dL_law_599 rfl (lv_at hl 5 rfl) ?_
    refine bi_const (n := 0) zx zb dL_law_600 ?_
    refine llG C0 hH dL_law_601 ?_
    refine lv_iload zx zb dL_law_602 (lv_at hl 0 rfl) ?_
    rw [hv zq5]
    refine lv_i2l zx zb dL_law_604 rfl ?_
    refine W.lcmp zx zb dL_law_605 ?_
    rw [lg_self]
    refine bz_eq (tgt := 611) zx zb dL_law_606 (by decide) rg0 (fun _ => ?_) (fun zq8 => absurd rfl zq8)
    refine lv_goto (tgt := 1677) zx zb dL_law_611 (by decide) ?_
    exact kk _ _ _ _ hC2 hH (lv_sub hl [2, 3, 4, 5, 6] rfl)
set_option maxRecDepth 100000 in
set_option maxHeartbeats 4000000 in
theorem blk_placeOf {p : Program} {l : Launch} {e : Env} {R : Room} {s : State} {m : MethodId} {args : Array Value} {below : List Frame} {meth : Method} {c : Code} {H : Heap} {locs : List Loc} {cells slots : Nat} {Q : State → Prop} {g : gT} {S : gSt} {ls : Array Slot} {b L : Nat} {xs : Nat → Int32} {i : Int} (C0 : Ct p s m args c g RL cL_law 7) (hfl : l.stackTraces = false) (hX : va_X b L xs s s.heap) (hbl : b < s.heap.size) (hbA : ¬ oA g b) (hL : L ≤ 2560) (hR : R.frames = 11 ∧ R.locals = 424) (hcs : cells + 1 ≤ R.cells ∧ slots + 6 ≤ R.slots) (i0 : 0 ≤ i) (i5 : i + 5 ≤ L) (hC : Cpl S) (hH : Hp g S s H locs) (hl : lv_has ls 7 [(0, .ref b), (1, .ref (g.1 0)), (2, .ref (g.1 23)), (3, .ref (g.1 33)), (4, .int (iI i))])
    (kk : ∀ (S9 : gSt) (H9 : Heap) (locs9 : List Loc) (ls9 : Array Slot), Cpl S9 → Hp g S9 s H9 locs9 → lv_has ls9 7 [(0, .ref b), (1, .ref (g.1 0)), (2, .ref (g.1 23)), (3, .ref (g.1 33)), (4, .int (iI i))] → W p l e R s m args below meth c H9 locs9 (cells + 1) (slots + 6) Q (F0 m 1677 ls9 [])) : W p l e R s m args below meth c H locs cells slots Q (F0 m 614 ls []) := by
  have zx := C0.1
  have zb := C0.2.1
  obtain ⟨k9, b9, S1, S2, fr, lo, hW, hM, hB, ht, hk, hv, hC2⟩ := op_placeOf l g S ((xs (i + 1).toNat).toInt) hC hfl (rg_t _)
  refine lv_aload_n zx zb dL_law_614 rfl (lv_at hl 1 rfl) ?_
  refine lv_aload_n zx zb dL_law_615 rfl (lv_at hl 0 rfl) ?_
  refine lv_iload zx zb dL_law_616 (lv_at hl 4 rfl) ?_
  refine bi_const (n := 1) zx zb dL_law_618 ?_
  refine bi_add zx zb dL_law_619 ?_
  refine slG C0 hX hbl hbA hL hH (by omega) (by omega) dL_law_620 ?_
  refine lv_aload_n zx zb dL_law_621 rfl (lv_at hl 3 rfl) ?_
  refine csW (rest := []) (As := [.ref (g.1 0), .int (iI ((xs (i + 1).toNat).toInt)), .ref (g.1 33)]) C0 hH hW kwW_placeOf ky_L_placeOf ⟨by have := hR.1; omega, by have := hR.2; omega⟩ hcs rfl hl.1 rfl (Nat.le_of_ble_eq_true rfl) dL_law_622 (fun H locs hH => ?_)
  refine lv_istore zx zb dL_law_625 hl (by decide) rfl (fun ls hl => ?_)
  refine lv_aload_n zx zb dL_law_627 rfl (lv_at hl 3 rfl) ?_
  refine lv_aload_n zx zb dL_law_628 rfl (lv_at hl 1 rfl) ?_
  refine lv_iload zx zb dL_law_629 (lv_at hl 5 rfl) ?_
  refine bi_const (n := 1) zx zb dL_law_631 ?_
  refine bi_add zx zb dL_law_632 ?_
  refine slG C0 hX hbl hbA hL hH (by omega) (by omega) dL_law_633 ?_
  refine cvI (rest := []) (As := [.int (iI ((xs (i + 1).toNat).toInt))]) (b := g.1 23) C0 hH hM kw_L_129 ky_X7_placeOf ⟨by have := hR.1; omega, by have := hR.2; omega⟩ ⟨by omega, by omega⟩ 23 rfl rfl rfl hl.1 rfl (Nat.le_of_ble_eq_true rfl) dL_law_634 (fun H locs hH => ?_)
  refine lv_istore zx zb dL_law_637 hl (by decide) rfl (fun ls hl => ?_)
  refine lv_aload_n zx zb dL_law_639 rfl (lv_at hl 4 rfl) ?_
  refine cvI (rest := []) (As := []) (b := g.1 23) C0 hH (c_X7_thrown l g S2) kw_L_95 ky_X7_thrown ⟨by have := hR.1; omega, by have := hR.2; omega⟩ ⟨by omega, by omega⟩ 23 rfl rfl rfl hl.1 rfl (Nat.le_of_ble_eq_true rfl) dL_law_640 (fun H locs hH => ?_)
  refine lv_iload zx zb dL_law_643 (lv_at hl 1 rfl) ?_
  refine bq_eq (tgt := 650) zx zb dL_law_645 (by decide) ⟨by omega, by omega⟩ ⟨by omega, by omega⟩ (fun zq1 => ?_) (fun zq1 => absurd ht zq1)
  refine lv_iload zx zb dL_law_650 (lv_at hl 1 rfl) ?_
  refine bz_ne (tgt := 667) zx zb dL_law_652 (by decide) ⟨by omega, by omega⟩ (fun zq5 => ?_) (fun zq5 => ?_)
  · refine lv_goto (tgt := 1677) zx zb dL_law_667 (by decide) ?_
    exact kk _ _ _ _ hC2 hH (lv_sub hl [2, 3, 4, 5, 6] rfl)
  · refine lv_aload_n zx zb dL_law_655 rfl (lv_at hl 5 rfl) ?_
    refine bi_const (n := 0) zx zb dL_law_656 ?_
    refine llG C0 hH dL_law_657 ?_
    refine lv_iload zx zb dL_law_658 (lv_at hl 0 rfl) ?_
    rw [hv zq5]
    refine lv_i2l zx zb dL_law_660 rfl ?_
    refine W.lcmp zx zb dL_law_661 ?_
    rw [lg_self]
    refine bz_eq (tgt := 667) zx zb dL_law_662 (by decide) rg0 (fun _ => ?_) (fun zq8 => absurd rfl zq8)
    refine lv_goto (tgt := 1677) zx zb dL_law_667 (by decide) ?_
    exact kk _ _ _ _ hC2 hH (lv_sub hl [2, 3, 4, 5, 6] rfl)
set_option maxRecDepth 100000 in
set_option maxHeartbeats 4000000 in
theorem blk_figureOf {p : Program} {l : Launch} {e : Env} {R : Room} {s : State} {m : MethodId} {args : Array Value} {below : List Frame} {meth : Method} {c : Code} {H : Heap} {locs : List Loc} {cells slots : Nat} {Q : State → Prop} {g : gT} {S : gSt} {ls : Array Slot} {b L : Nat} {xs : Nat → Int32} {i : Int} (C0 : Ct p s m args c g RL cL_law 7) (hfl : l.stackTraces = false) (hX : va_X b L xs s s.heap) (hbl : b < s.heap.size) (hbA : ¬ oA g b) (hL : L ≤ 2560) (hR : R.frames = 11 ∧ R.locals = 424) (hcs : cells + 1 ≤ R.cells ∧ slots + 6 ≤ R.slots) (i0 : 0 ≤ i) (i5 : i + 5 ≤ L) (hC : Cpl S) (hH : Hp g S s H locs) (hl : lv_has ls 7 [(0, .ref b), (1, .ref (g.1 0)), (2, .ref (g.1 23)), (3, .ref (g.1 33)), (4, .int (iI i))])
    (kk : ∀ (S9 : gSt) (H9 : Heap) (locs9 : List Loc) (ls9 : Array Slot), Cpl S9 → Hp g S9 s H9 locs9 → lv_has ls9 7 [(0, .ref b), (1, .ref (g.1 0)), (2, .ref (g.1 23)), (3, .ref (g.1 33)), (4, .int (iI i))] → W p l e R s m args below meth c H9 locs9 (cells + 1) (slots + 6) Q (F0 m 1677 ls9 [])) : W p l e R s m args below meth c H locs cells slots Q (F0 m 670 ls []) := by
  have zx := C0.1
  have zb := C0.2.1
  obtain ⟨k9, b9, S1, S2, fr, lo, hW, hM, hB, ht, hk, hv, hC2⟩ := op_figureOf l g S ((xs (i + 1).toNat).toInt) hC hfl (rg_t _)
  refine lv_aload_n zx zb dL_law_670 rfl (lv_at hl 1 rfl) ?_
  refine lv_aload_n zx zb dL_law_671 rfl (lv_at hl 0 rfl) ?_
  refine lv_iload zx zb dL_law_672 (lv_at hl 4 rfl) ?_
  refine bi_const (n := 1) zx zb dL_law_674 ?_
  refine bi_add zx zb dL_law_675 ?_
  refine slG C0 hX hbl hbA hL hH (by omega) (by omega) dL_law_676 ?_
  refine lv_aload_n zx zb dL_law_677 rfl (lv_at hl 3 rfl) ?_
  refine csW (rest := []) (As := [.ref (g.1 0), .int (iI ((xs (i + 1).toNat).toInt)), .ref (g.1 33)]) C0 hH hW kwW_figureOf ky_L_figureOf ⟨by have := hR.1; omega, by have := hR.2; omega⟩ hcs rfl hl.1 rfl (Nat.le_of_ble_eq_true rfl) dL_law_678 (fun H locs hH => ?_)
  refine lv_istore zx zb dL_law_681 hl (by decide) rfl (fun ls hl => ?_)
  refine lv_aload_n zx zb dL_law_683 rfl (lv_at hl 3 rfl) ?_
  refine lv_aload_n zx zb dL_law_684 rfl (lv_at hl 1 rfl) ?_
  refine lv_iload zx zb dL_law_685 (lv_at hl 5 rfl) ?_
  refine bi_const (n := 1) zx zb dL_law_687 ?_
  refine bi_add zx zb dL_law_688 ?_
  refine slG C0 hX hbl hbA hL hH (by omega) (by omega) dL_law_689 ?_
  refine cvI (rest := []) (As := [.int (iI ((xs (i + 1).toNat).toInt))]) (b := g.1 23) C0 hH hM kw_L_132 ky_X7_figureOf ⟨by have := hR.1; omega, by have := hR.2; omega⟩ ⟨by omega, by omega⟩ 23 rfl rfl rfl hl.1 rfl (Nat.le_of_ble_eq_true rfl) dL_law_690 (fun H locs hH => ?_)
  refine lv_istore zx zb dL_law_693 hl (by decide) rfl (fun ls hl => ?_)
  refine lv_aload_n zx zb dL_law_695 rfl (lv_at hl 4 rfl) ?_
  refine cvI (rest := []) (As := []) (b := g.1 23) C0 hH (c_X7_thrown l g S2) kw_L_95 ky_X7_thrown ⟨by have := hR.1; omega, by have := hR.2; omega⟩ ⟨by omega, by omega⟩ 23 rfl rfl rfl hl.1 rfl (Nat.le_of_ble_eq_true rfl) dL_law_696 (fun H locs hH => ?_)
  refine lv_iload zx zb dL_law_699 (lv_at hl 1 rfl) ?_
  refine bq_eq (tgt := 706) zx zb dL_law_701 (by decide) ⟨by omega, by omega⟩ ⟨by omega, by omega⟩ (fun zq1 => ?_) (fun zq1 => absurd ht zq1)
  refine lv_iload zx zb dL_law_706 (lv_at hl 1 rfl) ?_
  refine bz_ne (tgt := 723) zx zb dL_law_708 (by decide) ⟨by omega, by omega⟩ (fun zq5 => ?_) (fun zq5 => ?_)
  · refine lv_goto (tgt := 1677) zx zb dL_law_723 (by decide) ?_
    exact kk _ _ _ _ hC2 hH (lv_sub hl [2, 3, 4, 5, 6] rfl)
  · refine lv_aload_n zx zb dL_law_711 rfl (lv_at hl 5 rfl) ?_
    refine bi_const (n := 0) zx zb dL_law_712 ?_
    refine llG C0 hH dL_law_713 ?_
    refine lv_iload zx zb dL_law_714 (lv_at hl 0 rfl) ?_
    rw [hv zq5]
    refine lv_i2l zx zb dL_law_716 rfl ?_
    refine W.lcmp zx zb dL_law_717 ?_
    rw [lg_self]
    refine bz_eq (tgt := 723) zx zb dL_law_718 (by decide) rg0 (fun _ => ?_) (fun zq8 => absurd rfl zq8)
    refine lv_goto (tgt := 1677) zx zb dL_law_723 (by decide) ?_
    exact kk _ _ _ _ hC2 hH (lv_sub hl [2, 3, 4, 5, 6] rfl)
set_option maxRecDepth 100000 in
set_option maxHeartbeats 4000000 in
theorem blk_crossings {p : Program} {l : Launch} {e : Env} {R : Room} {s : State} {m : MethodId} {args : Array Value} {below : List Frame} {meth : Method} {c : Code} {H : Heap} {locs : List Loc} {cells slots : Nat} {Q : State → Prop} {g : gT} {S : gSt} {ls : Array Slot} {b L : Nat} {xs : Nat → Int32} {i : Int} (C0 : Ct p s m args c g RL cL_law 7) (hfl : l.stackTraces = false) (hX : va_X b L xs s s.heap) (hbl : b < s.heap.size) (hbA : ¬ oA g b) (hL : L ≤ 2560) (hR : R.frames = 11 ∧ R.locals = 424) (hcs : cells + 1 ≤ R.cells ∧ slots + 6 ≤ R.slots) (i0 : 0 ≤ i) (i5 : i + 5 ≤ L) (hC : Cpl S) (hH : Hp g S s H locs) (hl : lv_has ls 7 [(0, .ref b), (1, .ref (g.1 0)), (2, .ref (g.1 23)), (3, .ref (g.1 33)), (4, .int (iI i))])
    (kk : ∀ (S9 : gSt) (H9 : Heap) (locs9 : List Loc) (ls9 : Array Slot), Cpl S9 → Hp g S9 s H9 locs9 → lv_has ls9 7 [(0, .ref b), (1, .ref (g.1 0)), (2, .ref (g.1 23)), (3, .ref (g.1 33)), (4, .int (iI i))] → W p l e R s m args below meth c H9 locs9 (cells + 1) (slots + 6) Q (F0 m 1677 ls9 [])) : W p l e R s m args below meth c H locs cells slots Q (F0 m 726 ls []) := by
  have zx := C0.1
  have zb := C0.2.1
  obtain ⟨k9, b9, S1, S2, fr, lo, hW, hM, hB, ht, hk, hv, hC2⟩ := op_crossings l g S ((xs (i + 1).toNat).toInt) ((xs (i + 2).toNat).toInt) hC hfl (rg_t _) (rg_t _)
  refine lv_aload_n zx zb dL_law_726 rfl (lv_at hl 1 rfl) ?_
  refine lv_aload_n zx zb dL_law_727 rfl (lv_at hl 0 rfl) ?_
  refine lv_iload zx zb dL_law_728 (lv_at hl 4 rfl) ?_
  refine bi_const (n := 1) zx zb dL_law_730 ?_
  refine bi_add zx zb dL_law_731 ?_
  refine slG C0 hX hbl hbA hL hH (by omega) (by omega) dL_law_732 ?_
  refine lv_aload_n zx zb dL_law_733 rfl (lv_at hl 0 rfl) ?_
  refine lv_iload zx zb dL_law_734 (lv_at hl 4 rfl) ?_
  refine bi_const (n := 2) zx zb dL_law_736 ?_
  refine bi_add zx zb dL_law_737 ?_
  refine slG C0 hX hbl hbA hL hH (by omega) (by omega) dL_law_738 ?_
  refine lv_aload_n zx zb dL_law_739 rfl (lv_at hl 3 rfl) ?_
  refine csW (rest := []) (As := [.ref (g.1 0), .int (iI ((xs (i + 1).toNat).toInt)), .int (iI ((xs (i + 2).toNat).toInt)), .ref (g.1 33)]) C0 hH hW kwW_crossings ky_L_crossings ⟨by have := hR.1; omega, by have := hR.2; omega⟩ hcs rfl hl.1 rfl (Nat.le_of_ble_eq_true rfl) dL_law_740 (fun H locs hH => ?_)
  refine lv_istore zx zb dL_law_743 hl (by decide) rfl (fun ls hl => ?_)
  refine lv_aload_n zx zb dL_law_745 rfl (lv_at hl 3 rfl) ?_
  refine lv_aload_n zx zb dL_law_746 rfl (lv_at hl 1 rfl) ?_
  refine lv_iload zx zb dL_law_747 (lv_at hl 5 rfl) ?_
  refine bi_const (n := 1) zx zb dL_law_749 ?_
  refine bi_add zx zb dL_law_750 ?_
  refine slG C0 hX hbl hbA hL hH (by omega) (by omega) dL_law_751 ?_
  refine lv_aload_n zx zb dL_law_752 rfl (lv_at hl 1 rfl) ?_
  refine lv_iload zx zb dL_law_753 (lv_at hl 5 rfl) ?_
  refine bi_const (n := 2) zx zb dL_law_755 ?_
  refine bi_add zx zb dL_law_756 ?_
  refine slG C0 hX hbl hbA hL hH (by omega) (by omega) dL_law_757 ?_
  refine cvI (rest := []) (As := [.int (iI ((xs (i + 1).toNat).toInt)), .int (iI ((xs (i + 2).toNat).toInt))]) (b := g.1 23) C0 hH hM kw_L_135 ky_X7_crossings ⟨by have := hR.1; omega, by have := hR.2; omega⟩ ⟨by omega, by omega⟩ 23 rfl rfl rfl hl.1 rfl (Nat.le_of_ble_eq_true rfl) dL_law_758 (fun H locs hH => ?_)
  refine lv_istore zx zb dL_law_761 hl (by decide) rfl (fun ls hl => ?_)
  refine lv_aload_n zx zb dL_law_763 rfl (lv_at hl 4 rfl) ?_
  refine cvI (rest := []) (As := []) (b := g.1 23) C0 hH (c_X7_thrown l g S2) kw_L_95 ky_X7_thrown ⟨by have := hR.1; omega, by have := hR.2; omega⟩ ⟨by omega, by omega⟩ 23 rfl rfl rfl hl.1 rfl (Nat.le_of_ble_eq_true rfl) dL_law_764 (fun H locs hH => ?_)
  refine lv_iload zx zb dL_law_767 (lv_at hl 1 rfl) ?_
  refine bq_eq (tgt := 774) zx zb dL_law_769 (by decide) ⟨by omega, by omega⟩ ⟨by omega, by omega⟩ (fun zq1 => ?_) (fun zq1 => absurd ht zq1)
  refine lv_iload zx zb dL_law_774 (lv_at hl 1 rfl) ?_
  refine bz_ne (tgt := 791) zx zb dL_law_776 (by decide) ⟨by omega, by omega⟩ (fun zq5 => ?_) (fun zq5 => ?_)
  · refine lv_goto (tgt := 1677) zx zb dL_law_791 (by decide) ?_
    exact kk _ _ _ _ hC2 hH (lv_sub hl [2, 3, 4, 5, 6] rfl)
  · refine lv_aload_n zx zb dL_law_779 rfl (lv_at hl 5 rfl) ?_
    refine bi_const (n := 0) zx zb dL_law_780 ?_
    refine llG C0 hH dL_law_781 ?_
    refine lv_iload zx zb dL_law_782 (lv_at hl 0 rfl) ?_
    rw [hv zq5]
    refine lv_i2l zx zb dL_law_784 rfl ?_
    refine W.lcmp zx zb dL_law_785 ?_
    rw [lg_self]
    refine bz_eq (tgt := 791) zx zb dL_law_786 (by decide) rg0 (fun _ => ?_) (fun zq8 => absurd rfl zq8)
    refine lv_goto (tgt := 1677) zx zb dL_law_791 (by decide) ?_
    exact kk _ _ _ _ hC2 hH (lv_sub hl [2, 3, 4, 5, 6] rfl)
set_option maxRecDepth 100000 in
set_option maxHeartbeats 4000000 in
theorem blk_vote {p : Program} {l : Launch} {e : Env} {R : Room} {s : State} {m : MethodId} {args : Array Value} {below : List Frame} {meth : Method} {c : Code} {H : Heap} {locs : List Loc} {cells slots : Nat} {Q : State → Prop} {g : gT} {S : gSt} {ls : Array Slot} {b L : Nat} {xs : Nat → Int32} {i : Int} (C0 : Ct p s m args c g RL cL_law 7) (hfl : l.stackTraces = false) (hX : va_X b L xs s s.heap) (hbl : b < s.heap.size) (hbA : ¬ oA g b) (hL : L ≤ 2560) (hR : R.frames = 11 ∧ R.locals = 424) (hcs : cells + 1 ≤ R.cells ∧ slots + 6 ≤ R.slots) (i0 : 0 ≤ i) (i5 : i + 5 ≤ L) (hC : Cpl S) (hH : Hp g S s H locs) (hl : lv_has ls 7 [(0, .ref b), (1, .ref (g.1 0)), (2, .ref (g.1 23)), (3, .ref (g.1 33)), (4, .int (iI i))])
    (kk : ∀ (S9 : gSt) (H9 : Heap) (locs9 : List Loc) (ls9 : Array Slot), Cpl S9 → Hp g S9 s H9 locs9 → lv_has ls9 7 [(0, .ref b), (1, .ref (g.1 0)), (2, .ref (g.1 23)), (3, .ref (g.1 33)), (4, .int (iI i))] → W p l e R s m args below meth c H9 locs9 (cells + 1) (slots + 6) Q (F0 m 1677 ls9 [])) : W p l e R s m args below meth c H locs cells slots Q (F0 m 794 ls []) := by
  have zx := C0.1
  have zb := C0.2.1
  obtain ⟨k9, b9, S1, S2, fr, lo, hW, hM, hB, ht, hk, hv, hC2⟩ := op_vote l g S ((xs (i + 1).toNat).toInt) ((xs (i + 2).toNat).toInt) ((xs (i + 3).toNat).toInt) hC hfl (rg_t _) (rg_t _) (rg_t _)
  refine lv_aload_n zx zb dL_law_794 rfl (lv_at hl 1 rfl) ?_
  refine lv_aload_n zx zb dL_law_795 rfl (lv_at hl 0 rfl) ?_
  refine lv_iload zx zb dL_law_796 (lv_at hl 4 rfl) ?_
  refine bi_const (n := 1) zx zb dL_law_798 ?_
  refine bi_add zx zb dL_law_799 ?_
  refine slG C0 hX hbl hbA hL hH (by omega) (by omega) dL_law_800 ?_
  refine lv_aload_n zx zb dL_law_801 rfl (lv_at hl 0 rfl) ?_
  refine lv_iload zx zb dL_law_802 (lv_at hl 4 rfl) ?_
  refine bi_const (n := 2) zx zb dL_law_804 ?_
  refine bi_add zx zb dL_law_805 ?_
  refine slG C0 hX hbl hbA hL hH (by omega) (by omega) dL_law_806 ?_
  refine lv_aload_n zx zb dL_law_807 rfl (lv_at hl 0 rfl) ?_
  refine lv_iload zx zb dL_law_808 (lv_at hl 4 rfl) ?_
  refine bi_const (n := 3) zx zb dL_law_810 ?_
  refine bi_add zx zb dL_law_811 ?_
  refine slG C0 hX hbl hbA hL hH (by omega) (by omega) dL_law_812 ?_
  refine lv_aload_n zx zb dL_law_813 rfl (lv_at hl 3 rfl) ?_
  refine csW (rest := []) (As := [.ref (g.1 0), .int (iI ((xs (i + 1).toNat).toInt)), .int (iI ((xs (i + 2).toNat).toInt)), .int (iI ((xs (i + 3).toNat).toInt)), .ref (g.1 33)]) C0 hH hW kwW_vote ky_L_vote ⟨by have := hR.1; omega, by have := hR.2; omega⟩ hcs rfl hl.1 rfl (Nat.le_of_ble_eq_true rfl) dL_law_814 (fun H locs hH => ?_)
  refine lv_istore zx zb dL_law_817 hl (by decide) rfl (fun ls hl => ?_)
  refine lv_aload_n zx zb dL_law_819 rfl (lv_at hl 3 rfl) ?_
  refine lv_aload_n zx zb dL_law_820 rfl (lv_at hl 1 rfl) ?_
  refine lv_iload zx zb dL_law_821 (lv_at hl 5 rfl) ?_
  refine bi_const (n := 1) zx zb dL_law_823 ?_
  refine bi_add zx zb dL_law_824 ?_
  refine slG C0 hX hbl hbA hL hH (by omega) (by omega) dL_law_825 ?_
  refine lv_aload_n zx zb dL_law_826 rfl (lv_at hl 1 rfl) ?_
  refine lv_iload zx zb dL_law_827 (lv_at hl 5 rfl) ?_
  refine bi_const (n := 2) zx zb dL_law_829 ?_
  refine bi_add zx zb dL_law_830 ?_
  refine slG C0 hX hbl hbA hL hH (by omega) (by omega) dL_law_831 ?_
  refine lv_aload_n zx zb dL_law_832 rfl (lv_at hl 1 rfl) ?_
  refine lv_iload zx zb dL_law_833 (lv_at hl 5 rfl) ?_
  refine bi_const (n := 3) zx zb dL_law_835 ?_
  refine bi_add zx zb dL_law_836 ?_
  refine slG C0 hX hbl hbA hL hH (by omega) (by omega) dL_law_837 ?_
  refine cvI (rest := []) (As := [.int (iI ((xs (i + 1).toNat).toInt)), .int (iI ((xs (i + 2).toNat).toInt)), .int (iI ((xs (i + 3).toNat).toInt))]) (b := g.1 23) C0 hH hM kw_L_138 ky_X7_vote ⟨by have := hR.1; omega, by have := hR.2; omega⟩ ⟨by omega, by omega⟩ 23 rfl rfl rfl hl.1 rfl (Nat.le_of_ble_eq_true rfl) dL_law_838 (fun H locs hH => ?_)
  refine lv_istore zx zb dL_law_841 hl (by decide) rfl (fun ls hl => ?_)
  refine lv_aload_n zx zb dL_law_843 rfl (lv_at hl 4 rfl) ?_
  refine cvI (rest := []) (As := []) (b := g.1 23) C0 hH (c_X7_thrown l g S2) kw_L_95 ky_X7_thrown ⟨by have := hR.1; omega, by have := hR.2; omega⟩ ⟨by omega, by omega⟩ 23 rfl rfl rfl hl.1 rfl (Nat.le_of_ble_eq_true rfl) dL_law_844 (fun H locs hH => ?_)
  refine lv_iload zx zb dL_law_847 (lv_at hl 1 rfl) ?_
  refine bq_eq (tgt := 854) zx zb dL_law_849 (by decide) ⟨by omega, by omega⟩ ⟨by omega, by omega⟩ (fun zq1 => ?_) (fun zq1 => absurd ht zq1)
  refine lv_iload zx zb dL_law_854 (lv_at hl 1 rfl) ?_
  refine bz_ne (tgt := 871) zx zb dL_law_856 (by decide) ⟨by omega, by omega⟩ (fun zq5 => ?_) (fun zq5 => ?_)
  · refine lv_goto (tgt := 1677) zx zb dL_law_871 (by decide) ?_
    exact kk _ _ _ _ hC2 hH (lv_sub hl [2, 3, 4, 5, 6] rfl)
  · refine lv_aload_n zx zb dL_law_859 rfl (lv_at hl 5 rfl) ?_
    refine bi_const (n := 0) zx zb dL_law_860 ?_
    refine llG C0 hH dL_law_861 ?_
    refine lv_iload zx zb dL_law_862 (lv_at hl 0 rfl) ?_
    rw [hv zq5]
    refine lv_i2l zx zb dL_law_864 rfl ?_
    refine W.lcmp zx zb dL_law_865 ?_
    rw [lg_self]
    refine bz_eq (tgt := 871) zx zb dL_law_866 (by decide) rg0 (fun _ => ?_) (fun zq8 => absurd rfl zq8)
    refine lv_goto (tgt := 1677) zx zb dL_law_871 (by decide) ?_
    exact kk _ _ _ _ hC2 hH (lv_sub hl [2, 3, 4, 5, 6] rfl)
set_option maxRecDepth 100000 in
set_option maxHeartbeats 4000000 in
theorem blk_votes {p : Program} {l : Launch} {e : Env} {R : Room} {s : State} {m : MethodId} {args : Array Value} {below : List Frame} {meth : Method} {c : Code} {H : Heap} {locs : List Loc} {cells slots : Nat} {Q : State → Prop} {g : gT} {S : gSt} {ls : Array Slot} {b L : Nat} {xs : Nat → Int32} {i : Int} (C0 : Ct p s m args c g RL cL_law 7) (hfl : l.stackTraces = false) (hX : va_X b L xs s s.heap) (hbl : b < s.heap.size) (hbA : ¬ oA g b) (hL : L ≤ 2560) (hR : R.frames = 11 ∧ R.locals = 424) (hcs : cells + 1 ≤ R.cells ∧ slots + 6 ≤ R.slots) (i0 : 0 ≤ i) (i5 : i + 5 ≤ L) (hC : Cpl S) (hH : Hp g S s H locs) (hl : lv_has ls 7 [(0, .ref b), (1, .ref (g.1 0)), (2, .ref (g.1 23)), (3, .ref (g.1 33)), (4, .int (iI i))])
    (kk : ∀ (S9 : gSt) (H9 : Heap) (locs9 : List Loc) (ls9 : Array Slot), Cpl S9 → Hp g S9 s H9 locs9 → lv_has ls9 7 [(0, .ref b), (1, .ref (g.1 0)), (2, .ref (g.1 23)), (3, .ref (g.1 33)), (4, .int (iI i))] → W p l e R s m args below meth c H9 locs9 (cells + 1) (slots + 6) Q (F0 m 1677 ls9 [])) : W p l e R s m args below meth c H locs cells slots Q (F0 m 874 ls []) := by
  have zx := C0.1
  have zb := C0.2.1
  obtain ⟨k9, b9, S1, S2, fr, lo, hW, hM, hB, ht, hk, hv, hC2⟩ := op_votes l g S ((xs (i + 1).toNat).toInt) ((xs (i + 2).toNat).toInt) hC hfl (rg_t _) (rg_t _)
  refine lv_aload_n zx zb dL_law_874 rfl (lv_at hl 1 rfl) ?_
  refine lv_aload_n zx zb dL_law_875 rfl (lv_at hl 0 rfl) ?_
  refine lv_iload zx zb dL_law_876 (lv_at hl 4 rfl) ?_
  refine bi_const (n := 1) zx zb dL_law_878 ?_
  refine bi_add zx zb dL_law_879 ?_
  refine slG C0 hX hbl hbA hL hH (by omega) (by omega) dL_law_880 ?_
  refine lv_aload_n zx zb dL_law_881 rfl (lv_at hl 0 rfl) ?_
  refine lv_iload zx zb dL_law_882 (lv_at hl 4 rfl) ?_
  refine bi_const (n := 2) zx zb dL_law_884 ?_
  refine bi_add zx zb dL_law_885 ?_
  refine slG C0 hX hbl hbA hL hH (by omega) (by omega) dL_law_886 ?_
  refine lv_aload_n zx zb dL_law_887 rfl (lv_at hl 3 rfl) ?_
  refine csW (rest := []) (As := [.ref (g.1 0), .int (iI ((xs (i + 1).toNat).toInt)), .int (iI ((xs (i + 2).toNat).toInt)), .ref (g.1 33)]) C0 hH hW kwW_votes ky_L_votes ⟨by have := hR.1; omega, by have := hR.2; omega⟩ hcs rfl hl.1 rfl (Nat.le_of_ble_eq_true rfl) dL_law_888 (fun H locs hH => ?_)
  refine lv_istore zx zb dL_law_891 hl (by decide) rfl (fun ls hl => ?_)
  refine lv_aload_n zx zb dL_law_893 rfl (lv_at hl 3 rfl) ?_
  refine lv_aload_n zx zb dL_law_894 rfl (lv_at hl 1 rfl) ?_
  refine lv_iload zx zb dL_law_895 (lv_at hl 5 rfl) ?_
  refine bi_const (n := 1) zx zb dL_law_897 ?_
  refine bi_add zx zb dL_law_898 ?_
  refine slG C0 hX hbl hbA hL hH (by omega) (by omega) dL_law_899 ?_
  refine lv_aload_n zx zb dL_law_900 rfl (lv_at hl 1 rfl) ?_
  refine lv_iload zx zb dL_law_901 (lv_at hl 5 rfl) ?_
  refine bi_const (n := 2) zx zb dL_law_903 ?_
  refine bi_add zx zb dL_law_904 ?_
  refine slG C0 hX hbl hbA hL hH (by omega) (by omega) dL_law_905 ?_
  refine cvI (rest := []) (As := [.int (iI ((xs (i + 1).toNat).toInt)), .int (iI ((xs (i + 2).toNat).toInt))]) (b := g.1 23) C0 hH hM kw_L_141 ky_X7_votes ⟨by have := hR.1; omega, by have := hR.2; omega⟩ ⟨by omega, by omega⟩ 23 rfl rfl rfl hl.1 rfl (Nat.le_of_ble_eq_true rfl) dL_law_906 (fun H locs hH => ?_)
  refine lv_istore zx zb dL_law_909 hl (by decide) rfl (fun ls hl => ?_)
  refine lv_aload_n zx zb dL_law_911 rfl (lv_at hl 4 rfl) ?_
  refine cvI (rest := []) (As := []) (b := g.1 23) C0 hH (c_X7_thrown l g S2) kw_L_95 ky_X7_thrown ⟨by have := hR.1; omega, by have := hR.2; omega⟩ ⟨by omega, by omega⟩ 23 rfl rfl rfl hl.1 rfl (Nat.le_of_ble_eq_true rfl) dL_law_912 (fun H locs hH => ?_)
  refine lv_iload zx zb dL_law_915 (lv_at hl 1 rfl) ?_
  refine bq_eq (tgt := 922) zx zb dL_law_917 (by decide) ⟨by omega, by omega⟩ ⟨by omega, by omega⟩ (fun zq1 => ?_) (fun zq1 => absurd ht zq1)
  refine lv_iload zx zb dL_law_922 (lv_at hl 1 rfl) ?_
  refine bz_ne (tgt := 939) zx zb dL_law_924 (by decide) ⟨by omega, by omega⟩ (fun zq5 => ?_) (fun zq5 => ?_)
  · refine lv_goto (tgt := 1677) zx zb dL_law_939 (by decide) ?_
    exact kk _ _ _ _ hC2 hH (lv_sub hl [2, 3, 4, 5, 6] rfl)
  · refine lv_aload_n zx zb dL_law_927 rfl (lv_at hl 5 rfl) ?_
    refine bi_const (n := 0) zx zb dL_law_928 ?_
    refine llG C0 hH dL_law_929 ?_
    refine lv_iload zx zb dL_law_930 (lv_at hl 0 rfl) ?_
    rw [hv zq5]
    refine lv_i2l zx zb dL_law_932 rfl ?_
    refine W.lcmp zx zb dL_law_933 ?_
    rw [lg_self]
    refine bz_eq (tgt := 939) zx zb dL_law_934 (by decide) rg0 (fun _ => ?_) (fun zq8 => absurd rfl zq8)
    refine lv_goto (tgt := 1677) zx zb dL_law_939 (by decide) ?_
    exact kk _ _ _ _ hC2 hH (lv_sub hl [2, 3, 4, 5, 6] rfl)
set_option maxRecDepth 100000 in
set_option maxHeartbeats 4000000 in
theorem blk_nameOf {p : Program} {l : Launch} {e : Env} {R : Room} {s : State} {m : MethodId} {args : Array Value} {below : List Frame} {meth : Method} {c : Code} {H : Heap} {locs : List Loc} {cells slots : Nat} {Q : State → Prop} {g : gT} {S : gSt} {ls : Array Slot} {b L : Nat} {xs : Nat → Int32} {i : Int} (C0 : Ct p s m args c g RL cL_law 7) (hfl : l.stackTraces = false) (hX : va_X b L xs s s.heap) (hbl : b < s.heap.size) (hbA : ¬ oA g b) (hL : L ≤ 2560) (hR : R.frames = 11 ∧ R.locals = 424) (hcs : cells + 1 ≤ R.cells ∧ slots + 6 ≤ R.slots) (i0 : 0 ≤ i) (i5 : i + 5 ≤ L) (hC : Cpl S) (hH : Hp g S s H locs) (hl : lv_has ls 7 [(0, .ref b), (1, .ref (g.1 0)), (2, .ref (g.1 23)), (3, .ref (g.1 33)), (4, .int (iI i))])
    (kk : ∀ (S9 : gSt) (H9 : Heap) (locs9 : List Loc) (ls9 : Array Slot), Cpl S9 → Hp g S9 s H9 locs9 → lv_has ls9 7 [(0, .ref b), (1, .ref (g.1 0)), (2, .ref (g.1 23)), (3, .ref (g.1 33)), (4, .int (iI i))] → W p l e R s m args below meth c H9 locs9 (cells + 1) (slots + 6) Q (F0 m 1677 ls9 [])) : W p l e R s m args below meth c H locs cells slots Q (F0 m 942 ls []) := by
  have zx := C0.1
  have zb := C0.2.1
  obtain ⟨k9, b9, S1, S2, fr, lo, hW, hM, hB, ht, hk, hv, hC2⟩ := op_nameOf l g S ((xs (i + 1).toNat).toInt) hC hfl (rg_t _)
  refine lv_aload_n zx zb dL_law_942 rfl (lv_at hl 1 rfl) ?_
  refine lv_aload_n zx zb dL_law_943 rfl (lv_at hl 0 rfl) ?_
  refine lv_iload zx zb dL_law_944 (lv_at hl 4 rfl) ?_
  refine bi_const (n := 1) zx zb dL_law_946 ?_
  refine bi_add zx zb dL_law_947 ?_
  refine slG C0 hX hbl hbA hL hH (by omega) (by omega) dL_law_948 ?_
  refine lv_aload_n zx zb dL_law_949 rfl (lv_at hl 3 rfl) ?_
  refine csW (rest := []) (As := [.ref (g.1 0), .int (iI ((xs (i + 1).toNat).toInt)), .ref (g.1 33)]) C0 hH hW kwW_nameOf ky_L_nameOf ⟨by have := hR.1; omega, by have := hR.2; omega⟩ hcs rfl hl.1 rfl (Nat.le_of_ble_eq_true rfl) dL_law_950 (fun H locs hH => ?_)
  refine lv_istore zx zb dL_law_953 hl (by decide) rfl (fun ls hl => ?_)
  refine lv_aload_n zx zb dL_law_955 rfl (lv_at hl 3 rfl) ?_
  refine lv_aload_n zx zb dL_law_956 rfl (lv_at hl 1 rfl) ?_
  refine lv_iload zx zb dL_law_957 (lv_at hl 5 rfl) ?_
  refine bi_const (n := 1) zx zb dL_law_959 ?_
  refine bi_add zx zb dL_law_960 ?_
  refine slG C0 hX hbl hbA hL hH (by omega) (by omega) dL_law_961 ?_
  refine cvI (rest := []) (As := [.int (iI ((xs (i + 1).toNat).toInt))]) (b := g.1 23) C0 hH hM kw_L_144 ky_X7_nameOf ⟨by have := hR.1; omega, by have := hR.2; omega⟩ ⟨by omega, by omega⟩ 23 rfl rfl rfl hl.1 rfl (Nat.le_of_ble_eq_true rfl) dL_law_962 (fun H locs hH => ?_)
  refine lv_istore zx zb dL_law_965 hl (by decide) rfl (fun ls hl => ?_)
  refine lv_aload_n zx zb dL_law_967 rfl (lv_at hl 4 rfl) ?_
  refine cvI (rest := []) (As := []) (b := g.1 23) C0 hH (c_X7_thrown l g S2) kw_L_95 ky_X7_thrown ⟨by have := hR.1; omega, by have := hR.2; omega⟩ ⟨by omega, by omega⟩ 23 rfl rfl rfl hl.1 rfl (Nat.le_of_ble_eq_true rfl) dL_law_968 (fun H locs hH => ?_)
  refine lv_iload zx zb dL_law_971 (lv_at hl 1 rfl) ?_
  refine bq_eq (tgt := 978) zx zb dL_law_973 (by decide) ⟨by omega, by omega⟩ ⟨by omega, by omega⟩ (fun zq1 => ?_) (fun zq1 => absurd ht zq1)
  refine lv_iload zx zb dL_law_978 (lv_at hl 1 rfl) ?_
  refine bz_ne (tgt := 995) zx zb dL_law_980 (by decide) ⟨by omega, by omega⟩ (fun zq5 => ?_) (fun zq5 => ?_)
  · refine lv_goto (tgt := 1677) zx zb dL_law_995 (by decide) ?_
    exact kk _ _ _ _ hC2 hH (lv_sub hl [2, 3, 4, 5, 6] rfl)
  · refine lv_aload_n zx zb dL_law_983 rfl (lv_at hl 5 rfl) ?_
    refine bi_const (n := 0) zx zb dL_law_984 ?_
    refine llG C0 hH dL_law_985 ?_
    refine lv_iload zx zb dL_law_986 (lv_at hl 0 rfl) ?_
    rw [hv zq5]
    refine lv_i2l zx zb dL_law_988 rfl ?_
    refine W.lcmp zx zb dL_law_989 ?_
    rw [lg_self]
    refine bz_eq (tgt := 995) zx zb dL_law_990 (by decide) rg0 (fun _ => ?_) (fun zq8 => absurd rfl zq8)
    refine lv_goto (tgt := 1677) zx zb dL_law_995 (by decide) ?_
    exact kk _ _ _ _ hC2 hH (lv_sub hl [2, 3, 4, 5, 6] rfl)
set_option maxRecDepth 100000 in
set_option maxHeartbeats 4000000 in
theorem blk_height {p : Program} {l : Launch} {e : Env} {R : Room} {s : State} {m : MethodId} {args : Array Value} {below : List Frame} {meth : Method} {c : Code} {H : Heap} {locs : List Loc} {cells slots : Nat} {Q : State → Prop} {g : gT} {S : gSt} {ls : Array Slot} {b L : Nat} {xs : Nat → Int32} {i : Int} (C0 : Ct p s m args c g RL cL_law 7) (hfl : l.stackTraces = false) (hX : va_X b L xs s s.heap) (hbl : b < s.heap.size) (hbA : ¬ oA g b) (hL : L ≤ 2560) (hR : R.frames = 11 ∧ R.locals = 424) (hcs : cells + 1 ≤ R.cells ∧ slots + 6 ≤ R.slots) (i0 : 0 ≤ i) (i5 : i + 5 ≤ L) (hC : Cpl S) (hH : Hp g S s H locs) (hl : lv_has ls 7 [(0, .ref b), (1, .ref (g.1 0)), (2, .ref (g.1 23)), (3, .ref (g.1 33)), (4, .int (iI i))])
    (kk : ∀ (S9 : gSt) (H9 : Heap) (locs9 : List Loc) (ls9 : Array Slot), Cpl S9 → Hp g S9 s H9 locs9 → lv_has ls9 7 [(0, .ref b), (1, .ref (g.1 0)), (2, .ref (g.1 23)), (3, .ref (g.1 33)), (4, .int (iI i))] → W p l e R s m args below meth c H9 locs9 (cells + 1) (slots + 6) Q (F0 m 1677 ls9 [])) : W p l e R s m args below meth c H locs cells slots Q (F0 m 998 ls []) := by
  have zx := C0.1
  have zb := C0.2.1
  obtain ⟨k9, b9, S1, S2, fr, lo, hW, hM, hB, ht, hk, hv, hC2⟩ := op_height l g S ((xs (i + 1).toNat).toInt) ((xs (i + 2).toNat).toInt) ((xs (i + 3).toNat).toInt) ((xs (i + 4).toNat).toInt) hC hfl (rg_t _) (rg_t _) (rg_t _) (rg_t _)
  refine lv_aload_n zx zb dL_law_998 rfl (lv_at hl 1 rfl) ?_
  refine lv_aload_n zx zb dL_law_999 rfl (lv_at hl 0 rfl) ?_
  refine lv_iload zx zb dL_law_1000 (lv_at hl 4 rfl) ?_
  refine bi_const (n := 1) zx zb dL_law_1002 ?_
  refine bi_add zx zb dL_law_1003 ?_
  refine slG C0 hX hbl hbA hL hH (by omega) (by omega) dL_law_1004 ?_
  refine lv_aload_n zx zb dL_law_1005 rfl (lv_at hl 0 rfl) ?_
  refine lv_iload zx zb dL_law_1006 (lv_at hl 4 rfl) ?_
  refine bi_const (n := 2) zx zb dL_law_1008 ?_
  refine bi_add zx zb dL_law_1009 ?_
  refine slG C0 hX hbl hbA hL hH (by omega) (by omega) dL_law_1010 ?_
  refine lv_aload_n zx zb dL_law_1011 rfl (lv_at hl 0 rfl) ?_
  refine lv_iload zx zb dL_law_1012 (lv_at hl 4 rfl) ?_
  refine bi_const (n := 3) zx zb dL_law_1014 ?_
  refine bi_add zx zb dL_law_1015 ?_
  refine slG C0 hX hbl hbA hL hH (by omega) (by omega) dL_law_1016 ?_
  refine lv_aload_n zx zb dL_law_1017 rfl (lv_at hl 0 rfl) ?_
  refine lv_iload zx zb dL_law_1018 (lv_at hl 4 rfl) ?_
  refine bi_const (n := 4) zx zb dL_law_1020 ?_
  refine bi_add zx zb dL_law_1021 ?_
  refine slG C0 hX hbl hbA hL hH (by omega) (by omega) dL_law_1022 ?_
  refine lv_aload_n zx zb dL_law_1023 rfl (lv_at hl 3 rfl) ?_
  refine csW (rest := []) (As := [.ref (g.1 0), .int (iI ((xs (i + 1).toNat).toInt)), .int (iI ((xs (i + 2).toNat).toInt)), .int (iI ((xs (i + 3).toNat).toInt)), .int (iI ((xs (i + 4).toNat).toInt)), .ref (g.1 33)]) C0 hH hW kwW_height ky_L_height ⟨by have := hR.1; omega, by have := hR.2; omega⟩ hcs rfl hl.1 rfl (Nat.le_of_ble_eq_true rfl) dL_law_1024 (fun H locs hH => ?_)
  refine lv_istore zx zb dL_law_1027 hl (by decide) rfl (fun ls hl => ?_)
  refine lv_aload_n zx zb dL_law_1029 rfl (lv_at hl 3 rfl) ?_
  refine lv_aload_n zx zb dL_law_1030 rfl (lv_at hl 1 rfl) ?_
  refine lv_iload zx zb dL_law_1031 (lv_at hl 5 rfl) ?_
  refine bi_const (n := 1) zx zb dL_law_1033 ?_
  refine bi_add zx zb dL_law_1034 ?_
  refine slG C0 hX hbl hbA hL hH (by omega) (by omega) dL_law_1035 ?_
  refine lv_aload_n zx zb dL_law_1036 rfl (lv_at hl 1 rfl) ?_
  refine lv_iload zx zb dL_law_1037 (lv_at hl 5 rfl) ?_
  refine bi_const (n := 2) zx zb dL_law_1039 ?_
  refine bi_add zx zb dL_law_1040 ?_
  refine slG C0 hX hbl hbA hL hH (by omega) (by omega) dL_law_1041 ?_
  refine lv_aload_n zx zb dL_law_1042 rfl (lv_at hl 1 rfl) ?_
  refine lv_iload zx zb dL_law_1043 (lv_at hl 5 rfl) ?_
  refine bi_const (n := 3) zx zb dL_law_1045 ?_
  refine bi_add zx zb dL_law_1046 ?_
  refine slG C0 hX hbl hbA hL hH (by omega) (by omega) dL_law_1047 ?_
  refine lv_aload_n zx zb dL_law_1048 rfl (lv_at hl 1 rfl) ?_
  refine lv_iload zx zb dL_law_1049 (lv_at hl 5 rfl) ?_
  refine bi_const (n := 4) zx zb dL_law_1051 ?_
  refine bi_add zx zb dL_law_1052 ?_
  refine slG C0 hX hbl hbA hL hH (by omega) (by omega) dL_law_1053 ?_
  refine cvI (rest := []) (As := [.int (iI ((xs (i + 1).toNat).toInt)), .int (iI ((xs (i + 2).toNat).toInt)), .int (iI ((xs (i + 3).toNat).toInt)), .int (iI ((xs (i + 4).toNat).toInt))]) (b := g.1 23) C0 hH hM kw_L_148 ky_X7_height ⟨by have := hR.1; omega, by have := hR.2; omega⟩ ⟨by omega, by omega⟩ 23 rfl rfl rfl hl.1 rfl (Nat.le_of_ble_eq_true rfl) dL_law_1054 (fun H locs hH => ?_)
  refine lv_istore zx zb dL_law_1057 hl (by decide) rfl (fun ls hl => ?_)
  refine lv_aload_n zx zb dL_law_1059 rfl (lv_at hl 4 rfl) ?_
  refine cvI (rest := []) (As := []) (b := g.1 23) C0 hH (c_X7_thrown l g S2) kw_L_95 ky_X7_thrown ⟨by have := hR.1; omega, by have := hR.2; omega⟩ ⟨by omega, by omega⟩ 23 rfl rfl rfl hl.1 rfl (Nat.le_of_ble_eq_true rfl) dL_law_1060 (fun H locs hH => ?_)
  refine lv_iload zx zb dL_law_1063 (lv_at hl 1 rfl) ?_
  refine bq_eq (tgt := 1070) zx zb dL_law_1065 (by decide) ⟨by omega, by omega⟩ ⟨by omega, by omega⟩ (fun zq1 => ?_) (fun zq1 => absurd ht zq1)
  refine lv_iload zx zb dL_law_1070 (lv_at hl 1 rfl) ?_
  refine bz_ne (tgt := 1087) zx zb dL_law_1072 (by decide) ⟨by omega, by omega⟩ (fun zq5 => ?_) (fun zq5 => ?_)
  · refine lv_goto (tgt := 1677) zx zb dL_law_1087 (by decide) ?_
    exact kk _ _ _ _ hC2 hH (lv_sub hl [2, 3, 4, 5, 6] rfl)
  · refine lv_aload_n zx zb dL_law_1075 rfl (lv_at hl 5 rfl) ?_
    refine bi_const (n := 0) zx zb dL_law_1076 ?_
    refine llG C0 hH dL_law_1077 ?_
    refine lv_iload zx zb dL_law_1078 (lv_at hl 0 rfl) ?_
    rw [hv zq5]
    refine lv_i2l zx zb dL_law_1080 rfl ?_
    refine W.lcmp zx zb dL_law_1081 ?_
    rw [lg_self]
    refine bz_eq (tgt := 1087) zx zb dL_law_1082 (by decide) rg0 (fun _ => ?_) (fun zq8 => absurd rfl zq8)
    refine lv_goto (tgt := 1677) zx zb dL_law_1087 (by decide) ?_
    exact kk _ _ _ _ hC2 hH (lv_sub hl [2, 3, 4, 5, 6] rfl)
set_option maxRecDepth 100000 in
set_option maxHeartbeats 4000000 in
theorem blk_isUp {p : Program} {l : Launch} {e : Env} {R : Room} {s : State} {m : MethodId} {args : Array Value} {below : List Frame} {meth : Method} {c : Code} {H : Heap} {locs : List Loc} {cells slots : Nat} {Q : State → Prop} {g : gT} {S : gSt} {ls : Array Slot} {b L : Nat} {xs : Nat → Int32} {i : Int} (C0 : Ct p s m args c g RL cL_law 7) (hfl : l.stackTraces = false) (hX : va_X b L xs s s.heap) (hbl : b < s.heap.size) (hbA : ¬ oA g b) (hL : L ≤ 2560) (hR : R.frames = 11 ∧ R.locals = 424) (hcs : cells + 1 ≤ R.cells ∧ slots + 6 ≤ R.slots) (i0 : 0 ≤ i) (i5 : i + 5 ≤ L) (hC : Cpl S) (hH : Hp g S s H locs) (hl : lv_has ls 7 [(0, .ref b), (1, .ref (g.1 0)), (2, .ref (g.1 23)), (3, .ref (g.1 33)), (4, .int (iI i))])
    (kk : ∀ (S9 : gSt) (H9 : Heap) (locs9 : List Loc) (ls9 : Array Slot), Cpl S9 → Hp g S9 s H9 locs9 → lv_has ls9 7 [(0, .ref b), (1, .ref (g.1 0)), (2, .ref (g.1 23)), (3, .ref (g.1 33)), (4, .int (iI i))] → W p l e R s m args below meth c H9 locs9 (cells + 1) (slots + 6) Q (F0 m 1677 ls9 [])) : W p l e R s m args below meth c H locs cells slots Q (F0 m 1090 ls []) := by
  have zx := C0.1
  have zb := C0.2.1
  obtain ⟨k9, b9, S1, S2, fr, lo, hW, hM, hB, ht, hk, hv, hC2, hb9⟩ := op_isUp l g S ((xs (i + 1).toNat).toInt) ((xs (i + 2).toNat).toInt) ((xs (i + 3).toNat).toInt) ((xs (i + 4).toNat).toInt) hC hfl (rg_t _) (rg_t _) (rg_t _) (rg_t _)
  refine lv_aload_n zx zb dL_law_1090 rfl (lv_at hl 1 rfl) ?_
  refine lv_aload_n zx zb dL_law_1091 rfl (lv_at hl 0 rfl) ?_
  refine lv_iload zx zb dL_law_1092 (lv_at hl 4 rfl) ?_
  refine bi_const (n := 1) zx zb dL_law_1094 ?_
  refine bi_add zx zb dL_law_1095 ?_
  refine slG C0 hX hbl hbA hL hH (by omega) (by omega) dL_law_1096 ?_
  refine lv_aload_n zx zb dL_law_1097 rfl (lv_at hl 0 rfl) ?_
  refine lv_iload zx zb dL_law_1098 (lv_at hl 4 rfl) ?_
  refine bi_const (n := 2) zx zb dL_law_1100 ?_
  refine bi_add zx zb dL_law_1101 ?_
  refine slG C0 hX hbl hbA hL hH (by omega) (by omega) dL_law_1102 ?_
  refine lv_aload_n zx zb dL_law_1103 rfl (lv_at hl 0 rfl) ?_
  refine lv_iload zx zb dL_law_1104 (lv_at hl 4 rfl) ?_
  refine bi_const (n := 3) zx zb dL_law_1106 ?_
  refine bi_add zx zb dL_law_1107 ?_
  refine slG C0 hX hbl hbA hL hH (by omega) (by omega) dL_law_1108 ?_
  refine lv_aload_n zx zb dL_law_1109 rfl (lv_at hl 0 rfl) ?_
  refine lv_iload zx zb dL_law_1110 (lv_at hl 4 rfl) ?_
  refine bi_const (n := 4) zx zb dL_law_1112 ?_
  refine bi_add zx zb dL_law_1113 ?_
  refine slG C0 hX hbl hbA hL hH (by omega) (by omega) dL_law_1114 ?_
  refine lv_aload_n zx zb dL_law_1115 rfl (lv_at hl 3 rfl) ?_
  refine csW (rest := []) (As := [.ref (g.1 0), .int (iI ((xs (i + 1).toNat).toInt)), .int (iI ((xs (i + 2).toNat).toInt)), .int (iI ((xs (i + 3).toNat).toInt)), .int (iI ((xs (i + 4).toNat).toInt)), .ref (g.1 33)]) C0 hH hW kwW_isUp ky_L_isUp ⟨by have := hR.1; omega, by have := hR.2; omega⟩ hcs rfl hl.1 rfl (Nat.le_of_ble_eq_true rfl) dL_law_1116 (fun H locs hH => ?_)
  refine lv_istore zx zb dL_law_1119 hl (by decide) rfl (fun ls hl => ?_)
  refine lv_aload_n zx zb dL_law_1121 rfl (lv_at hl 3 rfl) ?_
  refine lv_aload_n zx zb dL_law_1122 rfl (lv_at hl 1 rfl) ?_
  refine lv_iload zx zb dL_law_1123 (lv_at hl 5 rfl) ?_
  refine bi_const (n := 1) zx zb dL_law_1125 ?_
  refine bi_add zx zb dL_law_1126 ?_
  refine slG C0 hX hbl hbA hL hH (by omega) (by omega) dL_law_1127 ?_
  refine lv_aload_n zx zb dL_law_1128 rfl (lv_at hl 1 rfl) ?_
  refine lv_iload zx zb dL_law_1129 (lv_at hl 5 rfl) ?_
  refine bi_const (n := 2) zx zb dL_law_1131 ?_
  refine bi_add zx zb dL_law_1132 ?_
  refine slG C0 hX hbl hbA hL hH (by omega) (by omega) dL_law_1133 ?_
  refine lv_aload_n zx zb dL_law_1134 rfl (lv_at hl 1 rfl) ?_
  refine lv_iload zx zb dL_law_1135 (lv_at hl 5 rfl) ?_
  refine bi_const (n := 3) zx zb dL_law_1137 ?_
  refine bi_add zx zb dL_law_1138 ?_
  refine slG C0 hX hbl hbA hL hH (by omega) (by omega) dL_law_1139 ?_
  refine lv_aload_n zx zb dL_law_1140 rfl (lv_at hl 1 rfl) ?_
  refine lv_iload zx zb dL_law_1141 (lv_at hl 5 rfl) ?_
  refine bi_const (n := 4) zx zb dL_law_1143 ?_
  refine bi_add zx zb dL_law_1144 ?_
  refine slG C0 hX hbl hbA hL hH (by omega) (by omega) dL_law_1145 ?_
  refine cvI (rest := []) (As := [.int (iI ((xs (i + 1).toNat).toInt)), .int (iI ((xs (i + 2).toNat).toInt)), .int (iI ((xs (i + 3).toNat).toInt)), .int (iI ((xs (i + 4).toNat).toInt))]) (b := g.1 23) C0 hH hM kw_L_151 ky_X7_isUp ⟨by have := hR.1; omega, by have := hR.2; omega⟩ ⟨by omega, by omega⟩ 23 rfl rfl rfl hl.1 rfl (Nat.le_of_ble_eq_true rfl) dL_law_1146 (fun H locs hH => ?_)
  refine lv_istore zx zb dL_law_1149 hl (by decide) rfl (fun ls hl => ?_)
  refine lv_aload_n zx zb dL_law_1151 rfl (lv_at hl 4 rfl) ?_
  refine cvI (rest := []) (As := []) (b := g.1 23) C0 hH (c_X7_thrown l g S2) kw_L_95 ky_X7_thrown ⟨by have := hR.1; omega, by have := hR.2; omega⟩ ⟨by omega, by omega⟩ 23 rfl rfl rfl hl.1 rfl (Nat.le_of_ble_eq_true rfl) dL_law_1152 (fun H locs hH => ?_)
  refine lv_iload zx zb dL_law_1155 (lv_at hl 1 rfl) ?_
  refine bq_eq (tgt := 1162) zx zb dL_law_1157 (by decide) ⟨by omega, by omega⟩ ⟨by omega, by omega⟩ (fun zq1 => ?_) (fun zq1 => absurd ht zq1)
  refine lv_iload zx zb dL_law_1162 (lv_at hl 1 rfl) ?_
  refine bz_ne (tgt := 1186) zx zb dL_law_1164 (by decide) ⟨by omega, by omega⟩ (fun zq5 => ?_) (fun zq5 => ?_)
  · refine lv_goto (tgt := 1677) zx zb dL_law_1186 (by decide) ?_
    exact kk _ _ _ _ hC2 hH (lv_sub hl [2, 3, 4, 5, 6] rfl)
  · refine lv_aload_n zx zb dL_law_1167 rfl (lv_at hl 5 rfl) ?_
    refine bi_const (n := 0) zx zb dL_law_1168 ?_
    refine llG C0 hH dL_law_1169 ?_
    refine lv_iload zx zb dL_law_1170 (lv_at hl 0 rfl) ?_
    refine bz_eq (tgt := 1179) zx zb dL_law_1172 (by decide) ⟨by omega, by omega⟩ (fun zq6 => ?_) (fun zq6 => ?_)
    · rw [hv zq5, zq6]
      refine lv_lconst (v := (iI 0).toInt64) zx zb dL_law_1179 (by decide) ?_
      refine W.lcmp zx zb dL_law_1180 ?_
      rw [lg_self]
      refine bz_eq (tgt := 1186) zx zb dL_law_1181 (by decide) rg0 (fun _ => ?_) (fun zq8 => absurd rfl zq8)
      refine lv_goto (tgt := 1677) zx zb dL_law_1186 (by decide) ?_
      exact kk _ _ _ _ hC2 hH (lv_sub hl [2, 3, 4, 5, 6] rfl)
    · have zq7 : b9 = 1 := by omega
      rw [hv zq5, zq7]
      refine lv_lconst (v := (iI 1).toInt64) zx zb dL_law_1175 (by decide) ?_
      refine lv_goto (tgt := 1180) zx zb dL_law_1176 (by decide) ?_
      refine W.lcmp zx zb dL_law_1180 ?_
      rw [lg_self]
      refine bz_eq (tgt := 1186) zx zb dL_law_1181 (by decide) rg0 (fun _ => ?_) (fun zq8 => absurd rfl zq8)
      refine lv_goto (tgt := 1677) zx zb dL_law_1186 (by decide) ?_
      exact kk _ _ _ _ hC2 hH (lv_sub hl [2, 3, 4, 5, 6] rfl)
set_option maxRecDepth 100000 in
set_option maxHeartbeats 4000000 in
theorem blk_hours {p : Program} {l : Launch} {e : Env} {R : Room} {s : State} {m : MethodId} {args : Array Value} {below : List Frame} {meth : Method} {c : Code} {H : Heap} {locs : List Loc} {cells slots : Nat} {Q : State → Prop} {g : gT} {S : gSt} {ls : Array Slot} {b L : Nat} {xs : Nat → Int32} {i : Int} (C0 : Ct p s m args c g RL cL_law 7) (hfl : l.stackTraces = false) (hX : va_X b L xs s s.heap) (hbl : b < s.heap.size) (hbA : ¬ oA g b) (hL : L ≤ 2560) (hR : R.frames = 11 ∧ R.locals = 424) (hcs : cells + 1 ≤ R.cells ∧ slots + 6 ≤ R.slots) (i0 : 0 ≤ i) (i5 : i + 5 ≤ L) (hC : Cpl S) (hH : Hp g S s H locs) (hl : lv_has ls 7 [(0, .ref b), (1, .ref (g.1 0)), (2, .ref (g.1 23)), (3, .ref (g.1 33)), (4, .int (iI i))])
    (kk : ∀ (S9 : gSt) (H9 : Heap) (locs9 : List Loc) (ls9 : Array Slot), Cpl S9 → Hp g S9 s H9 locs9 → lv_has ls9 7 [(0, .ref b), (1, .ref (g.1 0)), (2, .ref (g.1 23)), (3, .ref (g.1 33)), (4, .int (iI i))] → W p l e R s m args below meth c H9 locs9 (cells + 1) (slots + 6) Q (F0 m 1677 ls9 [])) : W p l e R s m args below meth c H locs cells slots Q (F0 m 1189 ls []) := by
  have zx := C0.1
  have zb := C0.2.1
  obtain ⟨k9, b9, S1, S2, fr, lo, hW, hM, hB, ht, hk, hv, hC2⟩ := op_hours l g S ((xs (i + 1).toNat).toInt) ((xs (i + 2).toNat).toInt) ((xs (i + 3).toNat).toInt) hC hfl (rg_t _) (rg_t _) (rg_t _)
  refine lv_aload_n zx zb dL_law_1189 rfl (lv_at hl 1 rfl) ?_
  refine lv_aload_n zx zb dL_law_1190 rfl (lv_at hl 0 rfl) ?_
  refine lv_iload zx zb dL_law_1191 (lv_at hl 4 rfl) ?_
  refine bi_const (n := 1) zx zb dL_law_1193 ?_
  refine bi_add zx zb dL_law_1194 ?_
  refine slG C0 hX hbl hbA hL hH (by omega) (by omega) dL_law_1195 ?_
  refine lv_aload_n zx zb dL_law_1196 rfl (lv_at hl 0 rfl) ?_
  refine lv_iload zx zb dL_law_1197 (lv_at hl 4 rfl) ?_
  refine bi_const (n := 2) zx zb dL_law_1199 ?_
  refine bi_add zx zb dL_law_1200 ?_
  refine slG C0 hX hbl hbA hL hH (by omega) (by omega) dL_law_1201 ?_
  refine lv_aload_n zx zb dL_law_1202 rfl (lv_at hl 0 rfl) ?_
  refine lv_iload zx zb dL_law_1203 (lv_at hl 4 rfl) ?_
  refine bi_const (n := 3) zx zb dL_law_1205 ?_
  refine bi_add zx zb dL_law_1206 ?_
  refine slG C0 hX hbl hbA hL hH (by omega) (by omega) dL_law_1207 ?_
  refine lv_aload_n zx zb dL_law_1208 rfl (lv_at hl 3 rfl) ?_
  refine csW (rest := []) (As := [.ref (g.1 0), .int (iI ((xs (i + 1).toNat).toInt)), .int (iI ((xs (i + 2).toNat).toInt)), .int (iI ((xs (i + 3).toNat).toInt)), .ref (g.1 33)]) C0 hH hW kwW_hours ky_L_hours ⟨by have := hR.1; omega, by have := hR.2; omega⟩ hcs rfl hl.1 rfl (Nat.le_of_ble_eq_true rfl) dL_law_1209 (fun H locs hH => ?_)
  refine lv_istore zx zb dL_law_1212 hl (by decide) rfl (fun ls hl => ?_)
  refine lv_aload_n zx zb dL_law_1214 rfl (lv_at hl 3 rfl) ?_
  refine lv_aload_n zx zb dL_law_1215 rfl (lv_at hl 1 rfl) ?_
  refine lv_iload zx zb dL_law_1216 (lv_at hl 5 rfl) ?_
  refine bi_const (n := 1) zx zb dL_law_1218 ?_
  refine bi_add zx zb dL_law_1219 ?_
  refine slG C0 hX hbl hbA hL hH (by omega) (by omega) dL_law_1220 ?_
  refine lv_aload_n zx zb dL_law_1221 rfl (lv_at hl 1 rfl) ?_
  refine lv_iload zx zb dL_law_1222 (lv_at hl 5 rfl) ?_
  refine bi_const (n := 2) zx zb dL_law_1224 ?_
  refine bi_add zx zb dL_law_1225 ?_
  refine slG C0 hX hbl hbA hL hH (by omega) (by omega) dL_law_1226 ?_
  refine lv_aload_n zx zb dL_law_1227 rfl (lv_at hl 1 rfl) ?_
  refine lv_iload zx zb dL_law_1228 (lv_at hl 5 rfl) ?_
  refine bi_const (n := 3) zx zb dL_law_1230 ?_
  refine bi_add zx zb dL_law_1231 ?_
  refine slG C0 hX hbl hbA hL hH (by omega) (by omega) dL_law_1232 ?_
  refine cvI (rest := []) (As := [.int (iI ((xs (i + 1).toNat).toInt)), .int (iI ((xs (i + 2).toNat).toInt)), .int (iI ((xs (i + 3).toNat).toInt))]) (b := g.1 23) C0 hH hM kw_L_154 ky_X7_hours ⟨by have := hR.1; omega, by have := hR.2; omega⟩ ⟨by omega, by omega⟩ 23 rfl rfl rfl hl.1 rfl (Nat.le_of_ble_eq_true rfl) dL_law_1233 (fun H locs hH => ?_)
  refine lv_istore zx zb dL_law_1236 hl (by decide) rfl (fun ls hl => ?_)
  refine lv_aload_n zx zb dL_law_1238 rfl (lv_at hl 4 rfl) ?_
  refine cvI (rest := []) (As := []) (b := g.1 23) C0 hH (c_X7_thrown l g S2) kw_L_95 ky_X7_thrown ⟨by have := hR.1; omega, by have := hR.2; omega⟩ ⟨by omega, by omega⟩ 23 rfl rfl rfl hl.1 rfl (Nat.le_of_ble_eq_true rfl) dL_law_1239 (fun H locs hH => ?_)
  refine lv_iload zx zb dL_law_1242 (lv_at hl 1 rfl) ?_
  refine bq_eq (tgt := 1249) zx zb dL_law_1244 (by decide) ⟨by omega, by omega⟩ ⟨by omega, by omega⟩ (fun zq1 => ?_) (fun zq1 => absurd ht zq1)
  refine lv_iload zx zb dL_law_1249 (lv_at hl 1 rfl) ?_
  refine bz_ne (tgt := 1266) zx zb dL_law_1251 (by decide) ⟨by omega, by omega⟩ (fun zq5 => ?_) (fun zq5 => ?_)
  · refine lv_goto (tgt := 1677) zx zb dL_law_1266 (by decide) ?_
    exact kk _ _ _ _ hC2 hH (lv_sub hl [2, 3, 4, 5, 6] rfl)
  · refine lv_aload_n zx zb dL_law_1254 rfl (lv_at hl 5 rfl) ?_
    refine bi_const (n := 0) zx zb dL_law_1255 ?_
    refine llG C0 hH dL_law_1256 ?_
    refine lv_iload zx zb dL_law_1257 (lv_at hl 0 rfl) ?_
    rw [hv zq5]
    refine lv_i2l zx zb dL_law_1259 rfl ?_
    refine W.lcmp zx zb dL_law_1260 ?_
    rw [lg_self]
    refine bz_eq (tgt := 1266) zx zb dL_law_1261 (by decide) rg0 (fun _ => ?_) (fun zq8 => absurd rfl zq8)
    refine lv_goto (tgt := 1677) zx zb dL_law_1266 (by decide) ?_
    exact kk _ _ _ _ hC2 hH (lv_sub hl [2, 3, 4, 5, 6] rfl)
set_option maxRecDepth 100000 in
set_option maxHeartbeats 4000000 in
theorem blk_hoursByStars {p : Program} {l : Launch} {e : Env} {R : Room} {s : State} {m : MethodId} {args : Array Value} {below : List Frame} {meth : Method} {c : Code} {H : Heap} {locs : List Loc} {cells slots : Nat} {Q : State → Prop} {g : gT} {S : gSt} {ls : Array Slot} {b L : Nat} {xs : Nat → Int32} {i : Int} (C0 : Ct p s m args c g RL cL_law 7) (hfl : l.stackTraces = false) (hX : va_X b L xs s s.heap) (hbl : b < s.heap.size) (hbA : ¬ oA g b) (hL : L ≤ 2560) (hR : R.frames = 11 ∧ R.locals = 424) (hcs : cells + 1 ≤ R.cells ∧ slots + 6 ≤ R.slots) (i0 : 0 ≤ i) (i5 : i + 5 ≤ L) (hC : Cpl S) (hH : Hp g S s H locs) (hl : lv_has ls 7 [(0, .ref b), (1, .ref (g.1 0)), (2, .ref (g.1 23)), (3, .ref (g.1 33)), (4, .int (iI i))])
    (kk : ∀ (S9 : gSt) (H9 : Heap) (locs9 : List Loc) (ls9 : Array Slot), Cpl S9 → Hp g S9 s H9 locs9 → lv_has ls9 7 [(0, .ref b), (1, .ref (g.1 0)), (2, .ref (g.1 23)), (3, .ref (g.1 33)), (4, .int (iI i))] → W p l e R s m args below meth c H9 locs9 (cells + 1) (slots + 6) Q (F0 m 1677 ls9 [])) : W p l e R s m args below meth c H locs cells slots Q (F0 m 1269 ls []) := by
  have zx := C0.1
  have zb := C0.2.1
  obtain ⟨k9, b9, S1, S2, fr, lo, hW, hM, hB, ht, hk, hv, hC2⟩ := op_hoursByStars l g S ((xs (i + 1).toNat).toInt) ((xs (i + 2).toNat).toInt) ((xs (i + 3).toNat).toInt) hC hfl (rg_t _) (rg_t _) (rg_t _)
  refine lv_aload_n zx zb dL_law_1269 rfl (lv_at hl 1 rfl) ?_
  refine lv_aload_n zx zb dL_law_1270 rfl (lv_at hl 0 rfl) ?_
  refine lv_iload zx zb dL_law_1271 (lv_at hl 4 rfl) ?_
  refine bi_const (n := 1) zx zb dL_law_1273 ?_
  refine bi_add zx zb dL_law_1274 ?_
  refine slG C0 hX hbl hbA hL hH (by omega) (by omega) dL_law_1275 ?_
  refine lv_aload_n zx zb dL_law_1276 rfl (lv_at hl 0 rfl) ?_
  refine lv_iload zx zb dL_law_1277 (lv_at hl 4 rfl) ?_
  refine bi_const (n := 2) zx zb dL_law_1279 ?_
  refine bi_add zx zb dL_law_1280 ?_
  refine slG C0 hX hbl hbA hL hH (by omega) (by omega) dL_law_1281 ?_
  refine lv_aload_n zx zb dL_law_1282 rfl (lv_at hl 0 rfl) ?_
  refine lv_iload zx zb dL_law_1283 (lv_at hl 4 rfl) ?_
  refine bi_const (n := 3) zx zb dL_law_1285 ?_
  refine bi_add zx zb dL_law_1286 ?_
  refine slG C0 hX hbl hbA hL hH (by omega) (by omega) dL_law_1287 ?_
  refine lv_aload_n zx zb dL_law_1288 rfl (lv_at hl 3 rfl) ?_
  refine csW (rest := []) (As := [.ref (g.1 0), .int (iI ((xs (i + 1).toNat).toInt)), .int (iI ((xs (i + 2).toNat).toInt)), .int (iI ((xs (i + 3).toNat).toInt)), .ref (g.1 33)]) C0 hH hW kwW_hoursByStars ky_L_hoursByStars ⟨by have := hR.1; omega, by have := hR.2; omega⟩ hcs rfl hl.1 rfl (Nat.le_of_ble_eq_true rfl) dL_law_1289 (fun H locs hH => ?_)
  refine lv_istore zx zb dL_law_1292 hl (by decide) rfl (fun ls hl => ?_)
  refine lv_aload_n zx zb dL_law_1294 rfl (lv_at hl 3 rfl) ?_
  refine lv_aload_n zx zb dL_law_1295 rfl (lv_at hl 1 rfl) ?_
  refine lv_iload zx zb dL_law_1296 (lv_at hl 5 rfl) ?_
  refine bi_const (n := 1) zx zb dL_law_1298 ?_
  refine bi_add zx zb dL_law_1299 ?_
  refine slG C0 hX hbl hbA hL hH (by omega) (by omega) dL_law_1300 ?_
  refine lv_aload_n zx zb dL_law_1301 rfl (lv_at hl 1 rfl) ?_
  refine lv_iload zx zb dL_law_1302 (lv_at hl 5 rfl) ?_
  refine bi_const (n := 2) zx zb dL_law_1304 ?_
  refine bi_add zx zb dL_law_1305 ?_
  refine slG C0 hX hbl hbA hL hH (by omega) (by omega) dL_law_1306 ?_
  refine lv_aload_n zx zb dL_law_1307 rfl (lv_at hl 1 rfl) ?_
  refine lv_iload zx zb dL_law_1308 (lv_at hl 5 rfl) ?_
  refine bi_const (n := 3) zx zb dL_law_1310 ?_
  refine bi_add zx zb dL_law_1311 ?_
  refine slG C0 hX hbl hbA hL hH (by omega) (by omega) dL_law_1312 ?_
  refine cvI (rest := []) (As := [.int (iI ((xs (i + 1).toNat).toInt)), .int (iI ((xs (i + 2).toNat).toInt)), .int (iI ((xs (i + 3).toNat).toInt))]) (b := g.1 23) C0 hH hM kw_L_157 ky_X7_hoursByStars ⟨by have := hR.1; omega, by have := hR.2; omega⟩ ⟨by omega, by omega⟩ 23 rfl rfl rfl hl.1 rfl (Nat.le_of_ble_eq_true rfl) dL_law_1313 (fun H locs hH => ?_)
  refine lv_istore zx zb dL_law_1316 hl (by decide) rfl (fun ls hl => ?_)
  refine lv_aload_n zx zb dL_law_1318 rfl (lv_at hl 4 rfl) ?_
  refine cvI (rest := []) (As := []) (b := g.1 23) C0 hH (c_X7_thrown l g S2) kw_L_95 ky_X7_thrown ⟨by have := hR.1; omega, by have := hR.2; omega⟩ ⟨by omega, by omega⟩ 23 rfl rfl rfl hl.1 rfl (Nat.le_of_ble_eq_true rfl) dL_law_1319 (fun H locs hH => ?_)
  refine lv_iload zx zb dL_law_1322 (lv_at hl 1 rfl) ?_
  refine bq_eq (tgt := 1329) zx zb dL_law_1324 (by decide) ⟨by omega, by omega⟩ ⟨by omega, by omega⟩ (fun zq1 => ?_) (fun zq1 => absurd ht zq1)
  refine lv_iload zx zb dL_law_1329 (lv_at hl 1 rfl) ?_
  refine bz_ne (tgt := 1346) zx zb dL_law_1331 (by decide) ⟨by omega, by omega⟩ (fun zq5 => ?_) (fun zq5 => ?_)
  · refine lv_goto (tgt := 1677) zx zb dL_law_1346 (by decide) ?_
    exact kk _ _ _ _ hC2 hH (lv_sub hl [2, 3, 4, 5, 6] rfl)
  · refine lv_aload_n zx zb dL_law_1334 rfl (lv_at hl 5 rfl) ?_
    refine bi_const (n := 0) zx zb dL_law_1335 ?_
    refine llG C0 hH dL_law_1336 ?_
    refine lv_iload zx zb dL_law_1337 (lv_at hl 0 rfl) ?_
    rw [hv zq5]
    refine lv_i2l zx zb dL_law_1339 rfl ?_
    refine W.lcmp zx zb dL_law_1340 ?_
    rw [lg_self]
    refine bz_eq (tgt := 1346) zx zb dL_law_1341 (by decide) rg0 (fun _ => ?_) (fun zq8 => absurd rfl zq8)
    refine lv_goto (tgt := 1677) zx zb dL_law_1346 (by decide) ?_
    exact kk _ _ _ _ hC2 hH (lv_sub hl [2, 3, 4, 5, 6] rfl)
set_option maxRecDepth 100000 in
set_option maxHeartbeats 4000000 in
theorem blk_bestHour {p : Program} {l : Launch} {e : Env} {R : Room} {s : State} {m : MethodId} {args : Array Value} {below : List Frame} {meth : Method} {c : Code} {H : Heap} {locs : List Loc} {cells slots : Nat} {Q : State → Prop} {g : gT} {S : gSt} {ls : Array Slot} {b L : Nat} {xs : Nat → Int32} {i : Int} (C0 : Ct p s m args c g RL cL_law 7) (hfl : l.stackTraces = false) (hX : va_X b L xs s s.heap) (hbl : b < s.heap.size) (hbA : ¬ oA g b) (hL : L ≤ 2560) (hR : R.frames = 11 ∧ R.locals = 424) (hcs : cells + 1 ≤ R.cells ∧ slots + 6 ≤ R.slots) (i0 : 0 ≤ i) (i5 : i + 5 ≤ L) (hC : Cpl S) (hH : Hp g S s H locs) (hl : lv_has ls 7 [(0, .ref b), (1, .ref (g.1 0)), (2, .ref (g.1 23)), (3, .ref (g.1 33)), (4, .int (iI i))])
    (kk : ∀ (S9 : gSt) (H9 : Heap) (locs9 : List Loc) (ls9 : Array Slot), Cpl S9 → Hp g S9 s H9 locs9 → lv_has ls9 7 [(0, .ref b), (1, .ref (g.1 0)), (2, .ref (g.1 23)), (3, .ref (g.1 33)), (4, .int (iI i))] → W p l e R s m args below meth c H9 locs9 (cells + 1) (slots + 6) Q (F0 m 1677 ls9 [])) : W p l e R s m args below meth c H locs cells slots Q (F0 m 1349 ls []) := by
  have zx := C0.1
  have zb := C0.2.1
  obtain ⟨k9, b9, S1, S2, fr, lo, hW, hM, hB, ht, hk, hv, hC2⟩ := op_bestHour l g S ((xs (i + 1).toNat).toInt) ((xs (i + 2).toNat).toInt) ((xs (i + 3).toNat).toInt) hC hfl (rg_t _) (rg_t _) (rg_t _)
  refine lv_aload_n zx zb dL_law_1349 rfl (lv_at hl 1 rfl) ?_
  refine lv_aload_n zx zb dL_law_1350 rfl (lv_at hl 0 rfl) ?_
  refine lv_iload zx zb dL_law_1351 (lv_at hl 4 rfl) ?_
  refine bi_const (n := 1) zx zb dL_law_1353 ?_
  refine bi_add zx zb dL_law_1354 ?_
  refine slG C0 hX hbl hbA hL hH (by omega) (by omega) dL_law_1355 ?_
  refine lv_aload_n zx zb dL_law_1356 rfl (lv_at hl 0 rfl) ?_
  refine lv_iload zx zb dL_law_1357 (lv_at hl 4 rfl) ?_
  refine bi_const (n := 2) zx zb dL_law_1359 ?_
  refine bi_add zx zb dL_law_1360 ?_
  refine slG C0 hX hbl hbA hL hH (by omega) (by omega) dL_law_1361 ?_
  refine lv_aload_n zx zb dL_law_1362 rfl (lv_at hl 0 rfl) ?_
  refine lv_iload zx zb dL_law_1363 (lv_at hl 4 rfl) ?_
  refine bi_const (n := 3) zx zb dL_law_1365 ?_
  refine bi_add zx zb dL_law_1366 ?_
  refine slG C0 hX hbl hbA hL hH (by omega) (by omega) dL_law_1367 ?_
  refine lv_aload_n zx zb dL_law_1368 rfl (lv_at hl 3 rfl) ?_
  refine csW (rest := []) (As := [.ref (g.1 0), .int (iI ((xs (i + 1).toNat).toInt)), .int (iI ((xs (i + 2).toNat).toInt)), .int (iI ((xs (i + 3).toNat).toInt)), .ref (g.1 33)]) C0 hH hW kwW_bestHour ky_L_bestHour ⟨by have := hR.1; omega, by have := hR.2; omega⟩ hcs rfl hl.1 rfl (Nat.le_of_ble_eq_true rfl) dL_law_1369 (fun H locs hH => ?_)
  refine lv_istore zx zb dL_law_1372 hl (by decide) rfl (fun ls hl => ?_)
  refine lv_aload_n zx zb dL_law_1374 rfl (lv_at hl 3 rfl) ?_
  refine lv_aload_n zx zb dL_law_1375 rfl (lv_at hl 1 rfl) ?_
  refine lv_iload zx zb dL_law_1376 (lv_at hl 5 rfl) ?_
  refine bi_const (n := 1) zx zb dL_law_1378 ?_
  refine bi_add zx zb dL_law_1379 ?_
  refine slG C0 hX hbl hbA hL hH (by omega) (by omega) dL_law_1380 ?_
  refine lv_aload_n zx zb dL_law_1381 rfl (lv_at hl 1 rfl) ?_
  refine lv_iload zx zb dL_law_1382 (lv_at hl 5 rfl) ?_
  refine bi_const (n := 2) zx zb dL_law_1384 ?_
  refine bi_add zx zb dL_law_1385 ?_
  refine slG C0 hX hbl hbA hL hH (by omega) (by omega) dL_law_1386 ?_
  refine lv_aload_n zx zb dL_law_1387 rfl (lv_at hl 1 rfl) ?_
  refine lv_iload zx zb dL_law_1388 (lv_at hl 5 rfl) ?_
  refine bi_const (n := 3) zx zb dL_law_1390 ?_
  refine bi_add zx zb dL_law_1391 ?_
  refine slG C0 hX hbl hbA hL hH (by omega) (by omega) dL_law_1392 ?_
  refine cvI (rest := []) (As := [.int (iI ((xs (i + 1).toNat).toInt)), .int (iI ((xs (i + 2).toNat).toInt)), .int (iI ((xs (i + 3).toNat).toInt))]) (b := g.1 23) C0 hH hM kw_L_160 ky_X7_bestHour ⟨by have := hR.1; omega, by have := hR.2; omega⟩ ⟨by omega, by omega⟩ 23 rfl rfl rfl hl.1 rfl (Nat.le_of_ble_eq_true rfl) dL_law_1393 (fun H locs hH => ?_)
  refine lv_istore zx zb dL_law_1396 hl (by decide) rfl (fun ls hl => ?_)
  refine lv_aload_n zx zb dL_law_1398 rfl (lv_at hl 4 rfl) ?_
  refine cvI (rest := []) (As := []) (b := g.1 23) C0 hH (c_X7_thrown l g S2) kw_L_95 ky_X7_thrown ⟨by have := hR.1; omega, by have := hR.2; omega⟩ ⟨by omega, by omega⟩ 23 rfl rfl rfl hl.1 rfl (Nat.le_of_ble_eq_true rfl) dL_law_1399 (fun H locs hH => ?_)
  refine lv_iload zx zb dL_law_1402 (lv_at hl 1 rfl) ?_
  refine bq_eq (tgt := 1409) zx zb dL_law_1404 (by decide) ⟨by omega, by omega⟩ ⟨by omega, by omega⟩ (fun zq1 => ?_) (fun zq1 => absurd ht zq1)
  refine lv_iload zx zb dL_law_1409 (lv_at hl 1 rfl) ?_
  refine bz_ne (tgt := 1426) zx zb dL_law_1411 (by decide) ⟨by omega, by omega⟩ (fun zq5 => ?_) (fun zq5 => ?_)
  · refine lv_goto (tgt := 1677) zx zb dL_law_1426 (by decide) ?_
    exact kk _ _ _ _ hC2 hH (lv_sub hl [2, 3, 4, 5, 6] rfl)
  · refine lv_aload_n zx zb dL_law_1414 rfl (lv_at hl 5 rfl) ?_
    refine bi_const (n := 0) zx zb dL_law_1415 ?_
    refine llG C0 hH dL_law_1416 ?_
    refine lv_iload zx zb dL_law_1417 (lv_at hl 0 rfl) ?_
    rw [hv zq5]
    refine lv_i2l zx zb dL_law_1419 rfl ?_
    refine W.lcmp zx zb dL_law_1420 ?_
    rw [lg_self]
    refine bz_eq (tgt := 1426) zx zb dL_law_1421 (by decide) rg0 (fun _ => ?_) (fun zq8 => absurd rfl zq8)
    refine lv_goto (tgt := 1677) zx zb dL_law_1426 (by decide) ?_
    exact kk _ _ _ _ hC2 hH (lv_sub hl [2, 3, 4, 5, 6] rfl)
set_option maxRecDepth 100000 in
set_option maxHeartbeats 4000000 in
theorem blk_season {p : Program} {l : Launch} {e : Env} {R : Room} {s : State} {m : MethodId} {args : Array Value} {below : List Frame} {meth : Method} {c : Code} {H : Heap} {locs : List Loc} {cells slots : Nat} {Q : State → Prop} {g : gT} {S : gSt} {ls : Array Slot} {b L : Nat} {xs : Nat → Int32} {i : Int} (C0 : Ct p s m args c g RL cL_law 7) (hfl : l.stackTraces = false) (hX : va_X b L xs s s.heap) (hbl : b < s.heap.size) (hbA : ¬ oA g b) (hL : L ≤ 2560) (hR : R.frames = 11 ∧ R.locals = 424) (hcs : cells + 1 ≤ R.cells ∧ slots + 6 ≤ R.slots) (i0 : 0 ≤ i) (i5 : i + 5 ≤ L) (hC : Cpl S) (hH : Hp g S s H locs) (hl : lv_has ls 7 [(0, .ref b), (1, .ref (g.1 0)), (2, .ref (g.1 23)), (3, .ref (g.1 33)), (4, .int (iI i))])
    (kk : ∀ (S9 : gSt) (H9 : Heap) (locs9 : List Loc) (ls9 : Array Slot), Cpl S9 → Hp g S9 s H9 locs9 → lv_has ls9 7 [(0, .ref b), (1, .ref (g.1 0)), (2, .ref (g.1 23)), (3, .ref (g.1 33)), (4, .int (iI i))] → W p l e R s m args below meth c H9 locs9 (cells + 1) (slots + 6) Q (F0 m 1677 ls9 [])) : W p l e R s m args below meth c H locs cells slots Q (F0 m 1429 ls []) := by
  have zx := C0.1
  have zb := C0.2.1
  obtain ⟨k9, b9, S1, S2, fr, lo, hW, hM, hB, ht, hk, hv, hC2⟩ := op_season l g S ((xs (i + 1).toNat).toInt) ((xs (i + 2).toNat).toInt) ((xs (i + 3).toNat).toInt) hC hfl (rg_t _) (rg_t _) (rg_t _)
  refine lv_aload_n zx zb dL_law_1429 rfl (lv_at hl 1 rfl) ?_
  refine lv_aload_n zx zb dL_law_1430 rfl (lv_at hl 0 rfl) ?_
  refine lv_iload zx zb dL_law_1431 (lv_at hl 4 rfl) ?_
  refine bi_const (n := 1) zx zb dL_law_1433 ?_
  refine bi_add zx zb dL_law_1434 ?_
  refine slG C0 hX hbl hbA hL hH (by omega) (by omega) dL_law_1435 ?_
  refine lv_aload_n zx zb dL_law_1436 rfl (lv_at hl 0 rfl) ?_
  refine lv_iload zx zb dL_law_1437 (lv_at hl 4 rfl) ?_
  refine bi_const (n := 2) zx zb dL_law_1439 ?_
  refine bi_add zx zb dL_law_1440 ?_
  refine slG C0 hX hbl hbA hL hH (by omega) (by omega) dL_law_1441 ?_
  refine lv_aload_n zx zb dL_law_1442 rfl (lv_at hl 0 rfl) ?_
  refine lv_iload zx zb dL_law_1443 (lv_at hl 4 rfl) ?_
  refine bi_const (n := 3) zx zb dL_law_1445 ?_
  refine bi_add zx zb dL_law_1446 ?_
  refine slG C0 hX hbl hbA hL hH (by omega) (by omega) dL_law_1447 ?_
  refine lv_aload_n zx zb dL_law_1448 rfl (lv_at hl 3 rfl) ?_
  refine csW (rest := []) (As := [.ref (g.1 0), .int (iI ((xs (i + 1).toNat).toInt)), .int (iI ((xs (i + 2).toNat).toInt)), .int (iI ((xs (i + 3).toNat).toInt)), .ref (g.1 33)]) C0 hH hW kwW_season ky_L_season ⟨by have := hR.1; omega, by have := hR.2; omega⟩ hcs rfl hl.1 rfl (Nat.le_of_ble_eq_true rfl) dL_law_1449 (fun H locs hH => ?_)
  refine lv_istore zx zb dL_law_1452 hl (by decide) rfl (fun ls hl => ?_)
  refine lv_aload_n zx zb dL_law_1454 rfl (lv_at hl 3 rfl) ?_
  refine lv_aload_n zx zb dL_law_1455 rfl (lv_at hl 1 rfl) ?_
  refine lv_iload zx zb dL_law_1456 (lv_at hl 5 rfl) ?_
  refine bi_const (n := 1) zx zb dL_law_1458 ?_
  refine bi_add zx zb dL_law_1459 ?_
  refine slG C0 hX hbl hbA hL hH (by omega) (by omega) dL_law_1460 ?_
  refine lv_aload_n zx zb dL_law_1461 rfl (lv_at hl 1 rfl) ?_
  refine lv_iload zx zb dL_law_1462 (lv_at hl 5 rfl) ?_
  refine bi_const (n := 2) zx zb dL_law_1464 ?_
  refine bi_add zx zb dL_law_1465 ?_
  refine slG C0 hX hbl hbA hL hH (by omega) (by omega) dL_law_1466 ?_
  refine lv_aload_n zx zb dL_law_1467 rfl (lv_at hl 1 rfl) ?_
  refine lv_iload zx zb dL_law_1468 (lv_at hl 5 rfl) ?_
  refine bi_const (n := 3) zx zb dL_law_1470 ?_
  refine bi_add zx zb dL_law_1471 ?_
  refine slG C0 hX hbl hbA hL hH (by omega) (by omega) dL_law_1472 ?_
  refine cvI (rest := []) (As := [.int (iI ((xs (i + 1).toNat).toInt)), .int (iI ((xs (i + 2).toNat).toInt)), .int (iI ((xs (i + 3).toNat).toInt))]) (b := g.1 23) C0 hH hM kw_L_163 ky_X7_season ⟨by have := hR.1; omega, by have := hR.2; omega⟩ ⟨by omega, by omega⟩ 23 rfl rfl rfl hl.1 rfl (Nat.le_of_ble_eq_true rfl) dL_law_1473 (fun H locs hH => ?_)
  refine lv_istore zx zb dL_law_1476 hl (by decide) rfl (fun ls hl => ?_)
  refine lv_aload_n zx zb dL_law_1478 rfl (lv_at hl 4 rfl) ?_
  refine cvI (rest := []) (As := []) (b := g.1 23) C0 hH (c_X7_thrown l g S2) kw_L_95 ky_X7_thrown ⟨by have := hR.1; omega, by have := hR.2; omega⟩ ⟨by omega, by omega⟩ 23 rfl rfl rfl hl.1 rfl (Nat.le_of_ble_eq_true rfl) dL_law_1479 (fun H locs hH => ?_)
  refine lv_iload zx zb dL_law_1482 (lv_at hl 1 rfl) ?_
  refine bq_eq (tgt := 1489) zx zb dL_law_1484 (by decide) ⟨by omega, by omega⟩ ⟨by omega, by omega⟩ (fun zq1 => ?_) (fun zq1 => absurd ht zq1)
  refine lv_iload zx zb dL_law_1489 (lv_at hl 1 rfl) ?_
  refine bz_ne (tgt := 1506) zx zb dL_law_1491 (by decide) ⟨by omega, by omega⟩ (fun zq5 => ?_) (fun zq5 => ?_)
  · refine lv_goto (tgt := 1677) zx zb dL_law_1506 (by decide) ?_
    exact kk _ _ _ _ hC2 hH (lv_sub hl [2, 3, 4, 5, 6] rfl)
  · refine lv_aload_n zx zb dL_law_1494 rfl (lv_at hl 5 rfl) ?_
    refine bi_const (n := 0) zx zb dL_law_1495 ?_
    refine llG C0 hH dL_law_1496 ?_
    refine lv_iload zx zb dL_law_1497 (lv_at hl 0 rfl) ?_
    rw [hv zq5]
    refine lv_i2l zx zb dL_law_1499 rfl ?_
    refine W.lcmp zx zb dL_law_1500 ?_
    rw [lg_self]
    refine bz_eq (tgt := 1506) zx zb dL_law_1501 (by decide) rg0 (fun _ => ?_) (fun zq8 => absurd rfl zq8)
    refine lv_goto (tgt := 1677) zx zb dL_law_1506 (by decide) ?_
    exact kk _ _ _ _ hC2 hH (lv_sub hl [2, 3, 4, 5, 6] rfl)
set_option maxRecDepth 100000 in
set_option maxHeartbeats 4000000 in
theorem blk_plan {p : Program} {l : Launch} {e : Env} {R : Room} {s : State} {m : MethodId} {args : Array Value} {below : List Frame} {meth : Method} {c : Code} {H : Heap} {locs : List Loc} {cells slots : Nat} {Q : State → Prop} {g : gT} {S : gSt} {ls : Array Slot} {b L : Nat} {xs : Nat → Int32} {i : Int} (C0 : Ct p s m args c g RL cL_law 7) (hfl : l.stackTraces = false) (hX : va_X b L xs s s.heap) (hbl : b < s.heap.size) (hbA : ¬ oA g b) (hL : L ≤ 2560) (hR : R.frames = 11 ∧ R.locals = 424) (hcs : cells + 1 ≤ R.cells ∧ slots + 6 ≤ R.slots) (i0 : 0 ≤ i) (i5 : i + 5 ≤ L) (hC : Cpl S) (hH : Hp g S s H locs) (hl : lv_has ls 7 [(0, .ref b), (1, .ref (g.1 0)), (2, .ref (g.1 23)), (3, .ref (g.1 33)), (4, .int (iI i))])
    (kk : ∀ (S9 : gSt) (H9 : Heap) (locs9 : List Loc) (ls9 : Array Slot), Cpl S9 → Hp g S9 s H9 locs9 → lv_has ls9 7 [(0, .ref b), (1, .ref (g.1 0)), (2, .ref (g.1 23)), (3, .ref (g.1 33)), (4, .int (iI i))] → W p l e R s m args below meth c H9 locs9 (cells + 1) (slots + 6) Q (F0 m 1677 ls9 [])) : W p l e R s m args below meth c H locs cells slots Q (F0 m 1509 ls []) := by
  have zx := C0.1
  have zb := C0.2.1
  obtain ⟨k9, b9, S1, S2, fr, lo, hW, hM, hB, ht, hk, hv, hC2⟩ := op_plan l g S ((xs (i + 1).toNat).toInt) ((xs (i + 2).toNat).toInt) ((xs (i + 3).toNat).toInt) ((xs (i + 4).toNat).toInt) hC hfl (rg_t _) (rg_t _) (rg_t _) (rg_t _)
  refine lv_aload_n zx zb dL_law_1509 rfl (lv_at hl 1 rfl) ?_
  refine lv_aload_n zx zb dL_law_1510 rfl (lv_at hl 0 rfl) ?_
  refine lv_iload zx zb dL_law_1511 (lv_at hl 4 rfl) ?_
  refine bi_const (n := 1) zx zb dL_law_1513 ?_
  refine bi_add zx zb dL_law_1514 ?_
  refine slG C0 hX hbl hbA hL hH (by omega) (by omega) dL_law_1515 ?_
  refine lv_aload_n zx zb dL_law_1516 rfl (lv_at hl 0 rfl) ?_
  refine lv_iload zx zb dL_law_1517 (lv_at hl 4 rfl) ?_
  refine bi_const (n := 2) zx zb dL_law_1519 ?_
  refine bi_add zx zb dL_law_1520 ?_
  refine slG C0 hX hbl hbA hL hH (by omega) (by omega) dL_law_1521 ?_
  refine lv_aload_n zx zb dL_law_1522 rfl (lv_at hl 0 rfl) ?_
  refine lv_iload zx zb dL_law_1523 (lv_at hl 4 rfl) ?_
  refine bi_const (n := 3) zx zb dL_law_1525 ?_
  refine bi_add zx zb dL_law_1526 ?_
  refine slG C0 hX hbl hbA hL hH (by omega) (by omega) dL_law_1527 ?_
  refine lv_aload_n zx zb dL_law_1528 rfl (lv_at hl 0 rfl) ?_
  refine lv_iload zx zb dL_law_1529 (lv_at hl 4 rfl) ?_
  refine bi_const (n := 4) zx zb dL_law_1531 ?_
  refine bi_add zx zb dL_law_1532 ?_
  refine slG C0 hX hbl hbA hL hH (by omega) (by omega) dL_law_1533 ?_
  refine lv_aload_n zx zb dL_law_1534 rfl (lv_at hl 3 rfl) ?_
  refine csW (rest := []) (As := [.ref (g.1 0), .int (iI ((xs (i + 1).toNat).toInt)), .int (iI ((xs (i + 2).toNat).toInt)), .int (iI ((xs (i + 3).toNat).toInt)), .int (iI ((xs (i + 4).toNat).toInt)), .ref (g.1 33)]) C0 hH hW kwW_plan ky_L_plan ⟨by have := hR.1; omega, by have := hR.2; omega⟩ hcs rfl hl.1 rfl (Nat.le_of_ble_eq_true rfl) dL_law_1535 (fun H locs hH => ?_)
  refine lv_istore zx zb dL_law_1538 hl (by decide) rfl (fun ls hl => ?_)
  refine lv_aload_n zx zb dL_law_1540 rfl (lv_at hl 3 rfl) ?_
  refine lv_aload_n zx zb dL_law_1541 rfl (lv_at hl 1 rfl) ?_
  refine lv_iload zx zb dL_law_1542 (lv_at hl 5 rfl) ?_
  refine bi_const (n := 1) zx zb dL_law_1544 ?_
  refine bi_add zx zb dL_law_1545 ?_
  refine slG C0 hX hbl hbA hL hH (by omega) (by omega) dL_law_1546 ?_
  refine lv_aload_n zx zb dL_law_1547 rfl (lv_at hl 1 rfl) ?_
  refine lv_iload zx zb dL_law_1548 (lv_at hl 5 rfl) ?_
  refine bi_const (n := 2) zx zb dL_law_1550 ?_
  refine bi_add zx zb dL_law_1551 ?_
  refine slG C0 hX hbl hbA hL hH (by omega) (by omega) dL_law_1552 ?_
  refine lv_aload_n zx zb dL_law_1553 rfl (lv_at hl 1 rfl) ?_
  refine lv_iload zx zb dL_law_1554 (lv_at hl 5 rfl) ?_
  refine bi_const (n := 3) zx zb dL_law_1556 ?_
  refine bi_add zx zb dL_law_1557 ?_
  refine slG C0 hX hbl hbA hL hH (by omega) (by omega) dL_law_1558 ?_
  refine lv_aload_n zx zb dL_law_1559 rfl (lv_at hl 1 rfl) ?_
  refine lv_iload zx zb dL_law_1560 (lv_at hl 5 rfl) ?_
  refine bi_const (n := 4) zx zb dL_law_1562 ?_
  refine bi_add zx zb dL_law_1563 ?_
  refine slG C0 hX hbl hbA hL hH (by omega) (by omega) dL_law_1564 ?_
  refine cvI (rest := []) (As := [.int (iI ((xs (i + 1).toNat).toInt)), .int (iI ((xs (i + 2).toNat).toInt)), .int (iI ((xs (i + 3).toNat).toInt)), .int (iI ((xs (i + 4).toNat).toInt))]) (b := g.1 23) C0 hH hM kw_L_166 ky_X7_plan ⟨by have := hR.1; omega, by have := hR.2; omega⟩ ⟨by omega, by omega⟩ 23 rfl rfl rfl hl.1 rfl (Nat.le_of_ble_eq_true rfl) dL_law_1565 (fun H locs hH => ?_)
  refine lv_istore zx zb dL_law_1568 hl (by decide) rfl (fun ls hl => ?_)
  refine lv_aload_n zx zb dL_law_1570 rfl (lv_at hl 4 rfl) ?_
  refine cvI (rest := []) (As := []) (b := g.1 23) C0 hH (c_X7_thrown l g S2) kw_L_95 ky_X7_thrown ⟨by have := hR.1; omega, by have := hR.2; omega⟩ ⟨by omega, by omega⟩ 23 rfl rfl rfl hl.1 rfl (Nat.le_of_ble_eq_true rfl) dL_law_1571 (fun H locs hH => ?_)
  refine lv_iload zx zb dL_law_1574 (lv_at hl 1 rfl) ?_
  refine bq_eq (tgt := 1581) zx zb dL_law_1576 (by decide) ⟨by omega, by omega⟩ ⟨by omega, by omega⟩ (fun zq1 => ?_) (fun zq1 => absurd ht zq1)
  refine lv_iload zx zb dL_law_1581 (lv_at hl 1 rfl) ?_
  refine bz_ne (tgt := 1598) zx zb dL_law_1583 (by decide) ⟨by omega, by omega⟩ (fun zq5 => ?_) (fun zq5 => ?_)
  · refine lv_goto (tgt := 1677) zx zb dL_law_1598 (by decide) ?_
    exact kk _ _ _ _ hC2 hH (lv_sub hl [2, 3, 4, 5, 6] rfl)
  · refine lv_aload_n zx zb dL_law_1586 rfl (lv_at hl 5 rfl) ?_
    refine bi_const (n := 0) zx zb dL_law_1587 ?_
    refine llG C0 hH dL_law_1588 ?_
    refine lv_iload zx zb dL_law_1589 (lv_at hl 0 rfl) ?_
    rw [hv zq5]
    refine lv_i2l zx zb dL_law_1591 rfl ?_
    refine W.lcmp zx zb dL_law_1592 ?_
    rw [lg_self]
    refine bz_eq (tgt := 1598) zx zb dL_law_1593 (by decide) rg0 (fun _ => ?_) (fun zq8 => absurd rfl zq8)
    refine lv_goto (tgt := 1677) zx zb dL_law_1598 (by decide) ?_
    exact kk _ _ _ _ hC2 hH (lv_sub hl [2, 3, 4, 5, 6] rfl)
set_option maxRecDepth 100000 in
set_option maxHeartbeats 4000000 in
theorem blk_isWrong {p : Program} {l : Launch} {e : Env} {R : Room} {s : State} {m : MethodId} {args : Array Value} {below : List Frame} {meth : Method} {c : Code} {H : Heap} {locs : List Loc} {cells slots : Nat} {Q : State → Prop} {g : gT} {S : gSt} {ls : Array Slot} {b L : Nat} {xs : Nat → Int32} {i : Int} (C0 : Ct p s m args c g RL cL_law 7) (hfl : l.stackTraces = false) (hX : va_X b L xs s s.heap) (hbl : b < s.heap.size) (hbA : ¬ oA g b) (hL : L ≤ 2560) (hR : R.frames = 11 ∧ R.locals = 424) (hcs : cells + 1 ≤ R.cells ∧ slots + 6 ≤ R.slots) (i0 : 0 ≤ i) (i5 : i + 5 ≤ L) (hC : Cpl S) (hH : Hp g S s H locs) (hl : lv_has ls 7 [(0, .ref b), (1, .ref (g.1 0)), (2, .ref (g.1 23)), (3, .ref (g.1 33)), (4, .int (iI i))])
    (kk : ∀ (S9 : gSt) (H9 : Heap) (locs9 : List Loc) (ls9 : Array Slot), Cpl S9 → Hp g S9 s H9 locs9 → lv_has ls9 7 [(0, .ref b), (1, .ref (g.1 0)), (2, .ref (g.1 23)), (3, .ref (g.1 33)), (4, .int (iI i))] → W p l e R s m args below meth c H9 locs9 (cells + 1) (slots + 6) Q (F0 m 1677 ls9 [])) : W p l e R s m args below meth c H locs cells slots Q (F0 m 1601 ls []) := by
  have zx := C0.1
  have zb := C0.2.1
  obtain ⟨k9, b9, S1, S2, fr, lo, hW, hM, hB, ht, hk, hv, hC2, hb9⟩ := op_isWrong l g S ((xs (i + 1).toNat).toInt) hC hfl (rg_t _)
  refine lv_aload_n zx zb dL_law_1601 rfl (lv_at hl 1 rfl) ?_
  refine lv_aload_n zx zb dL_law_1602 rfl (lv_at hl 0 rfl) ?_
  refine lv_iload zx zb dL_law_1603 (lv_at hl 4 rfl) ?_
  refine bi_const (n := 1) zx zb dL_law_1605 ?_
  refine bi_add zx zb dL_law_1606 ?_
  refine slG C0 hX hbl hbA hL hH (by omega) (by omega) dL_law_1607 ?_
  refine lv_aload_n zx zb dL_law_1608 rfl (lv_at hl 3 rfl) ?_
  refine csW (rest := []) (As := [.ref (g.1 0), .int (iI ((xs (i + 1).toNat).toInt)), .ref (g.1 33)]) C0 hH hW kwW_isWrong ky_L_isWrong ⟨by have := hR.1; omega, by have := hR.2; omega⟩ hcs rfl hl.1 rfl (Nat.le_of_ble_eq_true rfl) dL_law_1609 (fun H locs hH => ?_)
  refine lv_istore zx zb dL_law_1612 hl (by decide) rfl (fun ls hl => ?_)
  refine lv_aload_n zx zb dL_law_1614 rfl (lv_at hl 3 rfl) ?_
  refine lv_aload_n zx zb dL_law_1615 rfl (lv_at hl 1 rfl) ?_
  refine lv_iload zx zb dL_law_1616 (lv_at hl 5 rfl) ?_
  refine bi_const (n := 1) zx zb dL_law_1618 ?_
  refine bi_add zx zb dL_law_1619 ?_
  refine slG C0 hX hbl hbA hL hH (by omega) (by omega) dL_law_1620 ?_
  refine cvI (rest := []) (As := [.int (iI ((xs (i + 1).toNat).toInt))]) (b := g.1 23) C0 hH hM kw_L_169 ky_X7_isWrong ⟨by have := hR.1; omega, by have := hR.2; omega⟩ ⟨by omega, by omega⟩ 23 rfl rfl rfl hl.1 rfl (Nat.le_of_ble_eq_true rfl) dL_law_1621 (fun H locs hH => ?_)
  refine lv_istore zx zb dL_law_1624 hl (by decide) rfl (fun ls hl => ?_)
  refine lv_aload_n zx zb dL_law_1626 rfl (lv_at hl 4 rfl) ?_
  refine cvI (rest := []) (As := []) (b := g.1 23) C0 hH (c_X7_thrown l g S2) kw_L_95 ky_X7_thrown ⟨by have := hR.1; omega, by have := hR.2; omega⟩ ⟨by omega, by omega⟩ 23 rfl rfl rfl hl.1 rfl (Nat.le_of_ble_eq_true rfl) dL_law_1627 (fun H locs hH => ?_)
  refine lv_iload zx zb dL_law_1630 (lv_at hl 1 rfl) ?_
  refine bq_eq (tgt := 1637) zx zb dL_law_1632 (by decide) ⟨by omega, by omega⟩ ⟨by omega, by omega⟩ (fun zq1 => ?_) (fun zq1 => absurd ht zq1)
  refine lv_iload zx zb dL_law_1637 (lv_at hl 1 rfl) ?_
  refine bz_ne (tgt := 1661) zx zb dL_law_1639 (by decide) ⟨by omega, by omega⟩ (fun zq5 => ?_) (fun zq5 => ?_)
  · refine lv_goto (tgt := 1677) zx zb dL_law_1661 (by decide) ?_
    exact kk _ _ _ _ hC2 hH (lv_sub hl [2, 3, 4, 5, 6] rfl)
  · refine lv_aload_n zx zb dL_law_1642 rfl (lv_at hl 5 rfl) ?_
    refine bi_const (n := 0) zx zb dL_law_1643 ?_
    refine llG C0 hH dL_law_1644 ?_
    refine lv_iload zx zb dL_law_1645 (lv_at hl 0 rfl) ?_
    refine bz_eq (tgt := 1654) zx zb dL_law_1647 (by decide) ⟨by omega, by omega⟩ (fun zq6 => ?_) (fun zq6 => ?_)
    · rw [hv zq5, zq6]
      refine lv_lconst (v := (iI 0).toInt64) zx zb dL_law_1654 (by decide) ?_
      refine W.lcmp zx zb dL_law_1655 ?_
      rw [lg_self]
      refine bz_eq (tgt := 1661) zx zb dL_law_1656 (by decide) rg0 (fun _ => ?_) (fun zq8 => absurd rfl zq8)
      refine lv_goto (tgt := 1677) zx zb dL_law_1661 (by decide) ?_
      exact kk _ _ _ _ hC2 hH (lv_sub hl [2, 3, 4, 5, 6] rfl)
    · have zq7 : b9 = 1 := by omega
      rw [hv zq5, zq7]
      refine lv_lconst (v := (iI 1).toInt64) zx zb dL_law_1650 (by decide) ?_
      refine lv_goto (tgt := 1655) zx zb dL_law_1651 (by decide) ?_
      refine W.lcmp zx zb dL_law_1655 ?_
      rw [lg_self]
      refine bz_eq (tgt := 1661) zx zb dL_law_1656 (by decide) rg0 (fun _ => ?_) (fun zq8 => absurd rfl zq8)
      refine lv_goto (tgt := 1677) zx zb dL_law_1661 (by decide) ?_
      exact kk _ _ _ _ hC2 hH (lv_sub hl [2, 3, 4, 5, 6] rfl)
set_option maxRecDepth 100000 in
set_option maxHeartbeats 4000000 in
theorem blk_wrong {p : Program} {l : Launch} {e : Env} {R : Room} {s : State} {m : MethodId} {args : Array Value} {below : List Frame} {meth : Method} {c : Code} {H : Heap} {locs : List Loc} {cells slots : Nat} {Q : State → Prop} {g : gT} {S : gSt} {ls : Array Slot} {b L : Nat} {xs : Nat → Int32} {i : Int} (C0 : Ct p s m args c g RL cL_law 7) (hfl : l.stackTraces = false) (hX : va_X b L xs s s.heap) (hbl : b < s.heap.size) (hbA : ¬ oA g b) (hL : L ≤ 2560) (hR : R.frames = 11 ∧ R.locals = 424) (hcs : cells + 1 ≤ R.cells ∧ slots + 6 ≤ R.slots) (i0 : 0 ≤ i) (i5 : i + 5 ≤ L) (hC : Cpl S) (hH : Hp g S s H locs) (hl : lv_has ls 7 [(0, .ref b), (1, .ref (g.1 0)), (2, .ref (g.1 23)), (3, .ref (g.1 33)), (4, .int (iI i))])
    (kk : ∀ (S9 : gSt) (H9 : Heap) (locs9 : List Loc) (ls9 : Array Slot), Cpl S9 → Hp g S9 s H9 locs9 → lv_has ls9 7 [(0, .ref b), (1, .ref (g.1 0)), (2, .ref (g.1 23)), (3, .ref (g.1 33)), (4, .int (iI i))] → W p l e R s m args below meth c H9 locs9 (cells + 1) (slots + 6) Q (F0 m 1677 ls9 [])) : W p l e R s m args below meth c H locs cells slots Q (F0 m 1664 ls []) := by
  have zx := C0.1
  have zb := C0.2.1
  refine lv_aload_n zx zb dL_law_1664 rfl (lv_at hl 1 rfl) ?_
  refine cvI (rest := []) (As := []) (b := g.1 0) C0 hH (c_X6_wrong l g S (by first | exact hC.N5 | exact hC.E5 | exact hC.O5 | exact hC.C2 | exact hC.G | exact hC.P | assumption | omega) (by first | exact hC.N5 | exact hC.E5 | exact hC.O5 | exact hC.C2 | exact hC.G | exact hC.P | assumption | omega) (by first | exact hC.N5 | exact hC.E5 | exact hC.O5 | exact hC.C2 | exact hC.G | exact hC.P | assumption | omega) (by first | exact hC.N5 | exact hC.E5 | exact hC.O5 | exact hC.C2 | exact hC.G | exact hC.P | assumption | omega) (by first | exact hC.N5 | exact hC.E5 | exact hC.O5 | exact hC.C2 | exact hC.G | exact hC.P | assumption | omega) (by first | exact hC.N5 | exact hC.E5 | exact hC.O5 | exact hC.C2 | exact hC.G | exact hC.P | assumption | omega) (by first | exact hC.N5 | exact hC.E5 | exact hC.O5 | exact hC.C2 | exact hC.G | exact hC.P | assumption | omega)) kw_L_170 ky_X6_wrong ⟨by have := hR.1; omega, by have := hR.2; omega⟩ ⟨by omega, by omega⟩ 0 rfl rfl rfl hl.1 rfl (Nat.le_of_ble_eq_true rfl) dL_law_1665 (fun H locs hH => ?_)
  refine lv_aload_n zx zb dL_law_1668 rfl (lv_at hl 2 rfl) ?_
  refine cvI (rest := [.int (iI (wrI S))]) (As := []) (b := g.1 23) C0 hH (c_X7_wrong l g S (by first | exact hC.N | exact hC.E | exact hC.O | exact hC.C | exact hC.V | exact hC.Sh | exact hC.nsb | exact hC.nfb | exact hC.scb | exact hC.hd | assumption | omega) (by first | exact hC.N | exact hC.E | exact hC.O | exact hC.C | exact hC.V | exact hC.Sh | exact hC.nsb | exact hC.nfb | exact hC.scb | exact hC.hd | assumption | omega) (by first | exact hC.N | exact hC.E | exact hC.O | exact hC.C | exact hC.V | exact hC.Sh | exact hC.nsb | exact hC.nfb | exact hC.scb | exact hC.hd | assumption | omega) (by first | exact hC.N | exact hC.E | exact hC.O | exact hC.C | exact hC.V | exact hC.Sh | exact hC.nsb | exact hC.nfb | exact hC.scb | exact hC.hd | assumption | omega) (by first | exact hC.N | exact hC.E | exact hC.O | exact hC.C | exact hC.V | exact hC.Sh | exact hC.nsb | exact hC.nfb | exact hC.scb | exact hC.hd | assumption | omega) (by first | exact hC.N | exact hC.E | exact hC.O | exact hC.C | exact hC.V | exact hC.Sh | exact hC.nsb | exact hC.nfb | exact hC.scb | exact hC.hd | assumption | omega) (by first | exact hC.N | exact hC.E | exact hC.O | exact hC.C | exact hC.V | exact hC.Sh | exact hC.nsb | exact hC.nfb | exact hC.scb | exact hC.hd | assumption | omega) (by first | exact hC.N | exact hC.E | exact hC.O | exact hC.C | exact hC.V | exact hC.Sh | exact hC.nsb | exact hC.nfb | exact hC.scb | exact hC.hd | assumption | omega)) kw_L_173 ky_X7_wrong ⟨by have := hR.1; omega, by have := hR.2; omega⟩ ⟨by omega, by omega⟩ 23 rfl rfl rfl hl.1 rfl (Nat.le_of_ble_eq_true rfl) dL_law_1669 (fun H locs hH => ?_)
  have zq2 := hC.wr
  have zq4 := hC.scb
  have zq3 : 0 ≤ wrM S ∧ wrM S ≤ 12 := by
    have := cnF_b (p := swM S) (S 23 11).toNat 0 0 (Int.le_refl 0)
    unfold wrM
    omega
  refine bq_eq (tgt := 1677) zx zb dL_law_1672 (by decide) ⟨by omega, by omega⟩ ⟨by omega, by omega⟩ (fun zq1 => ?_) (fun zq1 => absurd zq2 zq1)
  exact W.widen (Nat.le_add_right _ _) (Nat.le_add_right _ _) (kk _ _ _ _ ((hC.thr 0).gvJ' _) hH hl)
