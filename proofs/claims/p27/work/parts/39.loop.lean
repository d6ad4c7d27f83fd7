set_option maxHeartbeats 4000000 in
theorem lp_g {p : Program} {l : Launch} {e : Env} {R : Room} {s : State} {m : MethodId} {args : Array Value} {below : List Frame} {meth : Method} {c : Code} {Q : State → Prop} {g : gT} {b u2 u3 N : Nat} {xs : Nat → Int32} (C0 : Ct p s m args c g RL cL_law 24) (hfl : l.stackTraces = false) (hX : va_X b 260 xs s s.heap) (hxs : ∀ k : Nat, k < 260 → xs k = 9) (hbl : b < s.heap.size) (hbA : ¬ oA g b) (hR : R.frames = 11 ∧ R.locals = 410)
    (hend : ∀ (H : Heap) (locs : List Loc) (cells slots : Nat) (ls : Array Slot), N + 252 ≤ H.size → (∀ q ∈ locs, oA g q.base) → W p l e R s m args below meth c H locs cells slots Q (F0 m 1364 ls [.int (iI 1)])) :
    ∀ (μ : Nat) (i : Int) (S : gSt) (H : Heap) (locs : List Loc) (cells slots : Nat) (ls : Array Slot), (260 - i).toNat = μ → 8 ≤ i → i ≤ 260 → (cells : Int) + (260 - i) ≤ R.cells → (slots : Int) + 6 * (260 - i) ≤ R.slots → (N : Int) + (i - 8) ≤ H.size → Fr S 6 2 → Hp g S s H locs → lv_has ls 24 [(0, .ref b), (1, .ref (g.1 0)), (2, .ref u2), (3, .ref u3), (4, .int (iI 0)), (5, .int (iI 0)), (6, .int (iI 1)), (7, .int (iI 260)), (8, .int (iI i))] → W p l e R s m args below meth c H locs cells slots Q (F0 m 73 ls []) := by
  refine lpN (fun μ ih => ?_)
  intro i S H locs cells slots ls hμ i0 iL hcc hss hN F hH hl
  have zx := C0.1
  have zb := C0.2.1
  by_cases hi : i < 260
  · refine tn_g (N := N + (i - 8).toNat) ⟨i0, hi⟩ C0 hfl hX hxs hbl hbA hR ⟨by omega, by omega⟩ F hH (by omega) hl ?_
    intro S9 H9 locs9 ls9 F9 hH9 hN9 hl9
    exact ih ((260 - (i + 1)).toNat) (by omega) (i + 1) S9 H9 locs9 (cells + 1) (slots + 6) ls9 rfl (by omega) (by omega) (by omega) (by omega) (by omega) F9 hH9 hl9
  · refine lv_iload zx zb dL_law_73 (lv_at hl 8 rfl) ?_
    refine lv_iload zx zb dL_law_75 (lv_at hl 7 rfl) ?_
    refine bq_ge (tgt := 1362) zx zb dL_law_77 (by decide) ⟨by omega, by omega⟩ ⟨by omega, by omega⟩ (fun _ => ?_) (fun zq => absurd zq (by omega))
    refine lv_iload zx zb dL_law_1362 (lv_at hl 6 rfl) ?_
    exact hend H locs cells slots ls (by omega) hH.2.2.2
set_option maxHeartbeats 4000000 in
theorem lp_all {p : Program} {l : Launch} {e : Env} {R : Room} {s : State} {m : MethodId} {args : Array Value} {below : List Frame} {meth : Method} {c : Code} {Q : State → Prop} {g : gT} {b u2 u3 N : Nat} {xs : Nat → Int32} {S : gSt} {H : Heap} {locs : List Loc} {cells slots : Nat} {ls : Array Slot} (C0 : Ct p s m args c g RL cL_law 24) (hfl : l.stackTraces = false) (hX : va_X b 260 xs s s.heap) (hxs : ∀ k : Nat, k < 260 → xs k = 9) (hbl : b < s.heap.size) (hbA : ¬ oA g b) (hR : R.frames = 11 ∧ R.locals = 410) (hcs : cells + 252 ≤ R.cells ∧ slots + 1512 ≤ R.slots) (F : Fr S 0 0) (hH : Hp g S s H locs) (hN : N ≤ H.size) (hl : lv_has ls 24 [(0, .ref b), (1, .ref (g.1 0)), (2, .ref u2), (3, .ref u3), (4, .int (iI 0)), (5, .int (iI 0)), (6, .int (iI 1)), (7, .int (iI 260)), (8, .int (iI 0))])
    (hend : ∀ (H : Heap) (locs : List Loc) (cells slots : Nat) (ls : Array Slot), N + 252 ≤ H.size → (∀ q ∈ locs, oA g q.base) → W p l e R s m args below meth c H locs cells slots Q (F0 m 1364 ls [.int (iI 1)])) : W p l e R s m args below meth c H locs cells slots Q (F0 m 73 ls []) := by
  have h6 : cells + 1 ≤ R.cells ∧ slots + 6 ≤ R.slots := ⟨by omega, by omega⟩
  refine tn_0 C0 hfl hX hxs hbl hbA hR h6 F hH hN hl ?_
  intro S1 H1 locs1 ls1 F1 hH1 hN1 hl1
  refine tn_1 C0 hfl hX hxs hbl hbA hR h6 F1 hH1 hN1 hl1 ?_
  intro S2 H2 locs2 ls2 F2 hH2 hN2 hl2
  refine tn_2 C0 hfl hX hxs hbl hbA hR h6 F2 hH2 hN2 hl2 ?_
  intro S3 H3 locs3 ls3 F3 hH3 hN3 hl3
  refine tn_3 C0 hfl hX hxs hbl hbA hR h6 F3 hH3 hN3 hl3 ?_
  intro S4 H4 locs4 ls4 F4 hH4 hN4 hl4
  refine tn_4 C0 hfl hX hxs hbl hbA hR h6 F4 hH4 hN4 hl4 ?_
  intro S5 H5 locs5 ls5 F5 hH5 hN5 hl5
  refine tn_5 C0 hfl hX hxs hbl hbA hR h6 F5 hH5 hN5 hl5 ?_
  intro S6 H6 locs6 ls6 F6 hH6 hN6 hl6
  refine tn_6 C0 hfl hX hxs hbl hbA hR h6 F6 hH6 hN6 hl6 ?_
  intro S7 H7 locs7 ls7 F7 hH7 hN7 hl7
  refine tn_7 C0 hfl hX hxs hbl hbA hR h6 F7 hH7 hN7 hl7 ?_
  intro S8 H8 locs8 ls8 F8 hH8 hN8 hl8
  exact lp_g C0 hfl hX hxs hbl hbA hR hend _ 8 S8 H8 locs8 cells slots ls8 rfl (by omega) (by omega) (by omega) (by omega) (by omega) F8 hH8 hl8
