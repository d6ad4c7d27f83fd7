section LS
variable {p : Program} {l : Launch} {e : Env} {R : Room} {s : State} {m : MethodId} {args : Array Value} {below : List Frame} {meth : Method} {c : Code} {H : Heap} {locs : List Loc} {cells slots : Nat} {Q : State → Prop}
variable {g : gT} {own : String} {cc : ByteArray} {nL : Nat} {S S' : gSt} {pc : Nat} {ls : Array Slot} {rest : List Value}
def kwW (own : String) (index : Nat) (y : MethodName) (bytes : ByteArray) (maxL : Nat) (hh : List (Nat × Nat × Nat × Nat)) : Prop := Cond.codeWith y bytes maxL (some .int) hh ∈ GL ∧ Cond.initialized y.cls ∈ GL ∧ Cond.methodLink own index y ∈ GL ∧ Cond.static y ∈ GL
/-- a call of one of the law's methods -/
theorem csW {index n maxL : Nat} {y : MethodName} {bytes : ByteArray} {hh : List (Nat × Nat × Nat × Nat)} {As : List Value} {stk : List Value} {z : Int} (C0 : Ct p s m args c g own cc nL) (hH : Hp g S s H locs) (hM : LwM l g y bytes maxL hh As S z S') (hw : kwW own index y bytes maxL hh) (hy : kyn y n) (hR : 8 + 1 ≤ R.frames ∧ 8 + (maxL + 11) + 200 ≤ R.locals) (hcs : cells + 1 ≤ R.cells ∧ slots + 6 ≤ R.slots)
    (hn : As.length = n) (hsz : ls.size = nL) (hst : stk = As.reverse ++ rest) (hrest : (rest.map fun v => v.category).sum ≤ 8) (hdg : decode cc pc = .ok (.invokestatic index, 3))
    (kk : ∀ (H1 : Heap) (locs1 : List Loc), Hp g S' s H1 locs1 → W p l e R s m args below meth c H1 locs1 (cells + 1) (slots + 6) Q (F0 m (pc + 3) ls (.int (iI z) :: rest))) : W p l e R s m args below meth c H locs cells slots Q (F0 m pc ls stk) := by
  subst hst
  have hr := vx_runSW (R := R) (args := args) (e := e) (below := below) (meth := meth) (cells := cells) (slots := slots) (Ts := GL) (As := As) (rest := rest) (H := H) (locs := locs) (g := F0 m pc ls (As.reverse ++ rest)) ⟨C0.1, C0.2.1, C0.2.2.1, C0.2.2.2.1, fun w hw => C0.2.2.2.2.1.w hw⟩ hM
    ⟨⟨rfl, rfl, hR.1, hR.2, fun w hw2 a' U hW => by
      rw [List.mem_singleton] at hw2
      subst hw2
      exact word_at hW (good_of_word (List.mem_filter.mp hw.1).2) (C0.2.2.2.2.1.w (args := #[]) hw.1), List.mem_singleton.mpr rfl⟩, C0.2.2.2.2.1.w hw.1, C0.2.2.2.2.1.w hw.2.1, ⟨hy.1, hy.2.1⟩, kyn_len hy, C0.2.2.2.2.1.w hw.2.2.1, C0.2.2.2.2.1.w hw.2.2.2⟩ ⟨PreG.blind _ _ _, fun U hU hW => hH.pre C0 hU hW⟩ rfl hn hsz rfl (lv_room hrest) hdg hcs
  intro T0 hT X
  obtain ⟨v', st₀, t, T', L, h0, X', hL, e1, e2, ⟨hv, hP1, hF⟩, stp⟩ := hr T0 hT X
  cases hv
  obtain ⟨t2, a1, b1⟩ := kk t.heap (locs ++ L) (hH.call (T' := T') h0 rfl hL hP1 hF) T' e1 X'
  exact ⟨t2, stp t2 a1, b1⟩
/-- script[z] -/
theorem slG {b L : Nat} {xs : Nat → Int32} (C0 : Ct p s m args c g own cc nL) (hX : va_X b L xs s s.heap) (hbl : b < s.heap.size) (hbA : ¬ oA g b) (hL : L ≤ 2560) (hH : Hp g S s H locs) {z : Int} (h0 : 0 ≤ z) (h1 : z < L) (hdg : decode cc pc = .ok (.iaload, 1))
    (kk : W p l e R s m args below meth c H locs cells slots Q (F0 m (pc + 1) ls (.int (iI (xs z.toNat).toInt) :: rest))) : W p l e R s m args below meth c H locs cells slots Q (F0 m pc ls (.int (iI z) :: .ref b :: rest)) := by
  refine va_sld C0.1 C0.2.1 hX hbl hbA hH.2 (iI_in h0 h1 (by omega)) hdg ?_
  have e1 := iI_cl h0 (by omega)
  rw [show (iI z).toNatClampNeg = z.toNat by omega, ← iI_of (xs z.toNat)]
  exact kk
theorem lg_self (x : Int64) : lg_cmp x x = iI 0 := by
  have e1 : lg_cmp x x = 0 := by simp [lg_cmp]
  rw [e1]
  decide
end LS
theorem kwW_addStar : kwW RL 89 yL_addStar cL_addStar 5 [(0, 10, 13, 13), (0, 10, 17, 15)] := ⟨gm 255 (by decide +kernel) rfl, gm 37 (by decide +kernel) rfl, gm 253 (by decide +kernel) rfl, gm 254 (by decide +kernel) rfl⟩
theorem kwW_correct : kwW RL 98 yL_correct cL_correct 6 [(0, 12, 15, 21), (0, 12, 19, 13)] := ⟨gm 360 (by decide +kernel) rfl, gm 37 (by decide +kernel) rfl, gm 358 (by decide +kernel) rfl, gm 359 (by decide +kernel) rfl⟩
theorem kwW_addFigure : kwW RL 102 yL_addFigure cL_addFigure 3 [(0, 8, 11, 15)] := ⟨gm 394 (by decide +kernel) rfl, gm 37 (by decide +kernel) rfl, gm 392 (by decide +kernel) rfl, gm 393 (by decide +kernel) rfl⟩
theorem kwW_draw : kwW RL 106 yL_draw cL_draw 6 [(0, 12, 15, 21), (0, 12, 19, 13), (0, 12, 23, 15)] := ⟨gm 406 (by decide +kernel) rfl, gm 37 (by decide +kernel) rfl, gm 404 (by decide +kernel) rfl, gm 405 (by decide +kernel) rfl⟩
theorem kwW_erase : kwW RL 109 yL_erase cL_erase 5 [(0, 10, 13, 21)] := ⟨gm 443 (by decide +kernel) rfl, gm 37 (by decide +kernel) rfl, gm 441 (by decide +kernel) rfl, gm 442 (by decide +kernel) rfl⟩
theorem kwW_undo : kwW RL 112 yL_undo cL_undo 3 [(0, 8, 11, 15)] := ⟨gm 455 (by decide +kernel) rfl, gm 37 (by decide +kernel) rfl, gm 453 (by decide +kernel) rfl, gm 454 (by decide +kernel) rfl⟩
theorem kwW_lines : kwW RL 123 yL_lines cL_lines 4 [(0, 9, 12, 21)] := ⟨gm 471 (by decide +kernel) rfl, gm 37 (by decide +kernel) rfl, gm 469 (by decide +kernel) rfl, gm 470 (by decide +kernel) rfl⟩
theorem kwW_placeOf : kwW RL 127 yL_placeOf cL_placeOf 4 [(0, 9, 12, 21)] := ⟨gm 478 (by decide +kernel) rfl, gm 37 (by decide +kernel) rfl, gm 476 (by decide +kernel) rfl, gm 477 (by decide +kernel) rfl⟩
theorem kwW_figureOf : kwW RL 130 yL_figureOf cL_figureOf 4 [(0, 9, 12, 21)] := ⟨gm 485 (by decide +kernel) rfl, gm 37 (by decide +kernel) rfl, gm 483 (by decide +kernel) rfl, gm 484 (by decide +kernel) rfl⟩
theorem kwW_crossings : kwW RL 133 yL_crossings cL_crossings 5 [(0, 10, 13, 21)] := ⟨gm 493 (by decide +kernel) rfl, gm 37 (by decide +kernel) rfl, gm 491 (by decide +kernel) rfl, gm 492 (by decide +kernel) rfl⟩
theorem kwW_vote : kwW RL 136 yL_vote cL_vote 6 [(0, 12, 15, 21), (0, 12, 19, 13)] := ⟨gm 526 (by decide +kernel) rfl, gm 37 (by decide +kernel) rfl, gm 524 (by decide +kernel) rfl, gm 525 (by decide +kernel) rfl⟩
theorem kwW_votes : kwW RL 139 yL_votes cL_votes 5 [(0, 10, 13, 21), (0, 10, 17, 13)] := ⟨gm 554 (by decide +kernel) rfl, gm 37 (by decide +kernel) rfl, gm 552 (by decide +kernel) rfl, gm 553 (by decide +kernel) rfl⟩
theorem kwW_nameOf : kwW RL 142 yL_nameOf cL_nameOf 4 [(0, 9, 12, 21)] := ⟨gm 561 (by decide +kernel) rfl, gm 37 (by decide +kernel) rfl, gm 559 (by decide +kernel) rfl, gm 560 (by decide +kernel) rfl⟩
theorem kwW_height : kwW RL 145 yL_height cL_height 7 [(0, 14, 17, 21), (0, 14, 21, 13)] := ⟨gm 568 (by decide +kernel) rfl, gm 37 (by decide +kernel) rfl, gm 566 (by decide +kernel) rfl, gm 567 (by decide +kernel) rfl⟩
theorem kwW_isUp : kwW RL 149 yL_isUp cL_isUp 7 [(0, 21, 24, 21), (0, 21, 28, 13)] := ⟨gm 590 (by decide +kernel) rfl, gm 37 (by decide +kernel) rfl, gm 588 (by decide +kernel) rfl, gm 589 (by decide +kernel) rfl⟩
theorem kwW_hours : kwW RL 152 yL_hours cL_hours 6 [(0, 12, 15, 21), (0, 12, 19, 13)] := ⟨gm 601 (by decide +kernel) rfl, gm 37 (by decide +kernel) rfl, gm 599 (by decide +kernel) rfl, gm 600 (by decide +kernel) rfl⟩
theorem kwW_hoursByStars : kwW RL 155 yL_hoursByStars cL_hoursByStars 6 [(0, 12, 15, 21), (0, 12, 19, 13)] := ⟨gm 608 (by decide +kernel) rfl, gm 37 (by decide +kernel) rfl, gm 606 (by decide +kernel) rfl, gm 607 (by decide +kernel) rfl⟩
theorem kwW_bestHour : kwW RL 158 yL_bestHour cL_bestHour 6 [(0, 12, 15, 21), (0, 12, 19, 13)] := ⟨gm 620 (by decide +kernel) rfl, gm 37 (by decide +kernel) rfl, gm 618 (by decide +kernel) rfl, gm 619 (by decide +kernel) rfl⟩
theorem kwW_season : kwW RL 161 yL_season cL_season 6 [(0, 12, 15, 21), (0, 12, 19, 13)] := ⟨gm 627 (by decide +kernel) rfl, gm 37 (by decide +kernel) rfl, gm 625 (by decide +kernel) rfl, gm 626 (by decide +kernel) rfl⟩
theorem kwW_plan : kwW RL 164 yL_plan cL_plan 7 [(0, 14, 17, 21), (0, 14, 21, 13), (0, 14, 25, 15)] := ⟨gm 634 (by decide +kernel) rfl, gm 37 (by decide +kernel) rfl, gm 632 (by decide +kernel) rfl, gm 633 (by decide +kernel) rfl⟩
theorem kwW_isWrong : kwW RL 167 yL_isWrong cL_isWrong 4 [(0, 16, 19, 21)] := ⟨gm 648 (by decide +kernel) rfl, gm 37 (by decide +kernel) rfl, gm 646 (by decide +kernel) rfl, gm 647 (by decide +kernel) rfl⟩
