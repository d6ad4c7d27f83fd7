set_option maxRecDepth 100000 in
set_option maxHeartbeats 4000000 in
theorem law_loop {p : Program} {l : Launch} {e : Env} {R : Room} {s : State} {m : MethodId} {args : Array Value} {below : List Frame} {meth : Method} {c : Code} {Q : State → Prop} {g : gT} {b L : Nat} {xs : Nat → Int32} (C0 : Ct p s m args c g RL cL_law 7) (hfl : l.stackTraces = false) (hX : va_X b L xs s s.heap) (hbl : b < s.heap.size) (hbA : ¬ oA g b) (hL : L ≤ 2560) (hR : R.frames = 11 ∧ R.locals = 424)
    (hend : ∀ (S : gSt) (H : Heap) (locs : List Loc) (cells slots : Nat) (ls : Array Slot), Hp g S s H locs → cells ≤ R.cells → slots ≤ R.slots → W p l e R s m args below meth c H locs cells slots Q (F0 m 1683 ls [])) :
    ∀ (μ : Nat) (i : Int) (S : gSt) (H : Heap) (locs : List Loc) (cells slots : Nat) (ls : Array Slot), (L - i).toNat = μ → 0 ≤ i → i ≤ L → 5 * (cells : Int) + (L - i) ≤ 5 * R.cells → 5 * (slots : Int) + 6 * (L - i) ≤ 5 * R.slots → Cpl S → Hp g S s H locs → lv_has ls 7 [(0, .ref b), (1, .ref (g.1 0)), (2, .ref (g.1 23)), (3, .ref (g.1 33)), (4, .int (iI i))] → W p l e R s m args below meth c H locs cells slots Q (F0 m 23 ls []) := by
  refine lpN (fun μ ih => ?_)
  intro i S H locs cells slots ls hμ i0 iL hcc hss hC hH hl
  have zx := C0.1
  have zb := C0.2.1
  refine lv_iload zx zb dL_law_23 (lv_at hl 4 rfl) ?_
  refine lv_aload_n zx zb dL_law_25 rfl (lv_at hl 0 rfl) ?_
  refine va_slen zx zb hX hbl hbA hH.2 dL_law_26 ?_
  rw [iI_nat]
  refine bi_const (n := 5) zx zb dL_law_27 ?_
  refine bi_sub zx zb dL_law_28 ?_
  refine bq_gt (tgt := 1683) zx zb dL_law_29 (by decide) ⟨by omega, by omega⟩ ⟨by omega, by omega⟩ (fun zq1 => ?_) (fun zq1 => ?_)
  · exact hend S H locs cells slots ls hH (by omega) (by omega)
  · have i5 : i + 5 ≤ L := by omega
    have hcs : cells + 1 ≤ R.cells ∧ slots + 6 ≤ R.slots := ⟨by omega, by omega⟩
    refine lv_aload_n zx zb dL_law_32 rfl (lv_at hl 0 rfl) ?_
    refine lv_iload zx zb dL_law_33 (lv_at hl 4 rfl) ?_
    refine slG C0 hX hbl hbA hL hH (by omega) (by omega) dL_law_35 ?_
    refine bi_bip (n := 31) zx zb dL_law_36 (by decide) ?_
    refine lv_iand zx zb dL_law_38 ?_
    generalize iI (xs i.toNat).toInt &&& iI 31 = y
    have kk : ∀ (S9 : gSt) (H9 : Heap) (locs9 : List Loc) (ls9 : Array Slot), Cpl S9 → Hp g S9 s H9 locs9 → lv_has ls9 7 [(0, .ref b), (1, .ref (g.1 0)), (2, .ref (g.1 23)), (3, .ref (g.1 33)), (4, .int (iI i))] → W p l e R s m args below meth c H9 locs9 (cells + 1) (slots + 6) Q (F0 m 1677 ls9 []) := by
      intro S9 H9 locs9 ls9 hC9 hH9 hl9
      refine bi_inc (k0 := 4) zx zb dL_law_1677 hl9 rfl (by decide) rfl (fun ls hl => ?_)
      refine lv_goto (tgt := 23) zx zb dL_law_1680 (by decide) ?_
      exact ih ((L - (i + 5)).toNat) (by omega) (i + 5) S9 H9 locs9 (cells + 1) (slots + 6) ls rfl (by omega) (by omega) (by omega) (by omega) hC9 hH9 (lv_sub hl [1, 2, 3, 4, 0] rfl)
    have hy : (y.toInt < 0 ∨ 23 < y.toInt) ∨ y.toInt = 0 ∨ y.toInt = 1 ∨ y.toInt = 2 ∨ y.toInt = 3 ∨ y.toInt = 4 ∨ y.toInt = 5 ∨ y.toInt = 6 ∨ y.toInt = 7 ∨ y.toInt = 8 ∨ y.toInt = 9 ∨ y.toInt = 10 ∨ y.toInt = 11 ∨ y.toInt = 12 ∨ y.toInt = 13 ∨ y.toInt = 14 ∨ y.toInt = 15 ∨ y.toInt = 16 ∨ y.toInt = 17 ∨ y.toInt = 18 ∨ y.toInt = 19 ∨ y.toInt = 20 ∨ y.toInt = 21 ∨ y.toInt = 22 ∨ y.toInt = 23 := by omega
    rcases hy with hy | hy | hy | hy | hy | hy | hy | hy | hy | hy | hy | hy | hy | hy | hy | hy | hy | hy | hy | hy | hy | hy | hy | hy | hy
    · refine lv_tableOut (tgt := 1677) zx zb dL_law_39 hy (by decide) ?_
      exact W.widen (Nat.le_add_right _ _) (Nat.le_add_right _ _) (kk S H locs ls hC hH hl)
    · refine lv_tableIn (off := 109) (tgt := 148) zx zb dL_law_39 (by omega) (by omega) (by rw [hy]; rfl) (by decide) ?_
      exact blk_addStar C0 hfl hX hbl hbA hL hR hcs i0 i5 hC hH hl kk
    · refine lv_tableIn (off := 177) (tgt := 216) zx zb dL_law_39 (by omega) (by omega) (by rw [hy]; rfl) (by decide) ?_
      exact blk_correct C0 hfl hX hbl hbA hL hR hcs i0 i5 hC hH hl kk
    · refine lv_tableIn (off := 257) (tgt := 296) zx zb dL_law_39 (by omega) (by omega) (by rw [hy]; rfl) (by decide) ?_
      exact blk_addFigure C0 hfl hX hbl hbA hL hR hcs i0 i5 hC hH hl kk
    · refine lv_tableIn (off := 301) (tgt := 340) zx zb dL_law_39 (by omega) (by omega) (by rw [hy]; rfl) (by decide) ?_
      exact blk_draw C0 hfl hX hbl hbA hL hR hcs i0 i5 hC hH hl kk
    · refine lv_tableIn (off := 381) (tgt := 420) zx zb dL_law_39 (by omega) (by omega) (by rw [hy]; rfl) (by decide) ?_
      exact blk_erase C0 hfl hX hbl hbA hL hR hcs i0 i5 hC hH hl kk
    · refine lv_tableIn (off := 449) (tgt := 488) zx zb dL_law_39 (by omega) (by omega) (by rw [hy]; rfl) (by decide) ?_
      exact blk_undo C0 hfl hX hbl hbA hL hR hcs i0 i5 hC hH hl kk
    · refine lv_tableIn (off := 493) (tgt := 532) zx zb dL_law_39 (by omega) (by omega) (by rw [hy]; rfl) (by decide) ?_
      exact blk_stars C0 hfl hX hbl hbA hL hR hcs i0 i5 hC hH hl kk
    · refine lv_tableIn (off := 506) (tgt := 545) zx zb dL_law_39 (by omega) (by omega) (by rw [hy]; rfl) (by decide) ?_
      exact blk_figures C0 hfl hX hbl hbA hL hR hcs i0 i5 hC hH hl kk
    · refine lv_tableIn (off := 519) (tgt := 558) zx zb dL_law_39 (by omega) (by omega) (by rw [hy]; rfl) (by decide) ?_
      exact blk_lines C0 hfl hX hbl hbA hL hR hcs i0 i5 hC hH hl kk
    · refine lv_tableIn (off := 575) (tgt := 614) zx zb dL_law_39 (by omega) (by omega) (by rw [hy]; rfl) (by decide) ?_
      exact blk_placeOf C0 hfl hX hbl hbA hL hR hcs i0 i5 hC hH hl kk
    · refine lv_tableIn (off := 631) (tgt := 670) zx zb dL_law_39 (by omega) (by omega) (by rw [hy]; rfl) (by decide) ?_
      exact blk_figureOf C0 hfl hX hbl hbA hL hR hcs i0 i5 hC hH hl kk
    · refine lv_tableIn (off := 687) (tgt := 726) zx zb dL_law_39 (by omega) (by omega) (by rw [hy]; rfl) (by decide) ?_
      exact blk_crossings C0 hfl hX hbl hbA hL hR hcs i0 i5 hC hH hl kk
    · refine lv_tableIn (off := 755) (tgt := 794) zx zb dL_law_39 (by omega) (by omega) (by rw [hy]; rfl) (by decide) ?_
      exact blk_vote C0 hfl hX hbl hbA hL hR hcs i0 i5 hC hH hl kk
    · refine lv_tableIn (off := 835) (tgt := 874) zx zb dL_law_39 (by omega) (by omega) (by rw [hy]; rfl) (by decide) ?_
      exact blk_votes C0 hfl hX hbl hbA hL hR hcs i0 i5 hC hH hl kk
    · refine lv_tableIn (off := 903) (tgt := 942) zx zb dL_law_39 (by omega) (by omega) (by rw [hy]; rfl) (by decide) ?_
      exact blk_nameOf C0 hfl hX hbl hbA hL hR hcs i0 i5 hC hH hl kk
    · refine lv_tableIn (off := 959) (tgt := 998) zx zb dL_law_39 (by omega) (by omega) (by rw [hy]; rfl) (by decide) ?_
      exact blk_height C0 hfl hX hbl hbA hL hR hcs i0 i5 hC hH hl kk
    · refine lv_tableIn (off := 1051) (tgt := 1090) zx zb dL_law_39 (by omega) (by omega) (by rw [hy]; rfl) (by decide) ?_
      exact blk_isUp C0 hfl hX hbl hbA hL hR hcs i0 i5 hC hH hl kk
    · refine lv_tableIn (off := 1150) (tgt := 1189) zx zb dL_law_39 (by omega) (by omega) (by rw [hy]; rfl) (by decide) ?_
      exact blk_hours C0 hfl hX hbl hbA hL hR hcs i0 i5 hC hH hl kk
    · refine lv_tableIn (off := 1230) (tgt := 1269) zx zb dL_law_39 (by omega) (by omega) (by rw [hy]; rfl) (by decide) ?_
      exact blk_hoursByStars C0 hfl hX hbl hbA hL hR hcs i0 i5 hC hH hl kk
    · refine lv_tableIn (off := 1310) (tgt := 1349) zx zb dL_law_39 (by omega) (by omega) (by rw [hy]; rfl) (by decide) ?_
      exact blk_bestHour C0 hfl hX hbl hbA hL hR hcs i0 i5 hC hH hl kk
    · refine lv_tableIn (off := 1390) (tgt := 1429) zx zb dL_law_39 (by omega) (by omega) (by rw [hy]; rfl) (by decide) ?_
      exact blk_season C0 hfl hX hbl hbA hL hR hcs i0 i5 hC hH hl kk
    · refine lv_tableIn (off := 1470) (tgt := 1509) zx zb dL_law_39 (by omega) (by omega) (by rw [hy]; rfl) (by decide) ?_
      exact blk_plan C0 hfl hX hbl hbA hL hR hcs i0 i5 hC hH hl kk
    · refine lv_tableIn (off := 1562) (tgt := 1601) zx zb dL_law_39 (by omega) (by omega) (by rw [hy]; rfl) (by decide) ?_
      exact blk_isWrong C0 hfl hX hbl hbA hL hR hcs i0 i5 hC hH hl kk
    · refine lv_tableIn (off := 1625) (tgt := 1664) zx zb dL_law_39 (by omega) (by omega) (by rw [hy]; rfl) (by decide) ?_
      exact blk_wrong C0 hfl hX hbl hbA hL hR hcs i0 i5 hC hH hl kk
