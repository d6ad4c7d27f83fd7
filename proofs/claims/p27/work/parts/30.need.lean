set_option maxRecDepth 100000 in
set_option maxHeartbeats 4000000 in
theorem c_X6_needStar (l : Launch) (g : gT) (S : gSt) (a : Int) (hn1 : 0 ≤ S 1 0 ∧ S 1 0 ≤ 24) (hok : 0 ≤ a ∧ a < S 1 0) : MetG l g yX6_needStar cX6_needStar 2 none 0 0 [.ref (g.1 0), .int (iI a)] S none S := by
  refine bodyG (by decide +kernel) (Nat.le_of_ble_eq_true rfl) ?_
  intro p e s m args below meth c ls C0 hret hlk hl hH
  have zx := C0.1
  have zb := C0.2.1
  have hl : lv_has ls 2 [(0, .ref (g.1 0)), (1, .int (iI a))] := hl
  obtain ⟨H, hHe⟩ : ∃ H : Heap, H = s.heap := ⟨_, rfl⟩
  rw [show (Hp g S s s.heap []) = Hp g S s H [] by rw [hHe]] at hH
  rw [← hHe]
  refine lv_iload_n zx zb dX6_needStar_0 rfl (lv_at hl 1 rfl) ?_
  refine bz_lt (tgt := 15) zx zb dX6_needStar_1 (by decide) ⟨by omega, by omega⟩ (fun zq1 => ?_) (fun zq1 => ?_)
  · exact absurd zq1 (by omega)
  · refine lv_iload_n zx zb dX6_needStar_4 rfl (lv_at hl 1 rfl) ?_
    refine lv_aload_n zx zb dX6_needStar_5 rfl (lv_at hl 0 rfl) ?_
    refine gf_X6_12 C0 hH dX6_needStar_6 ?_
    refine gf_X6_48 C0 hH dX6_needStar_9 ?_
    refine bq_lt (tgt := 25) zx zb dX6_needStar_12 (by decide) ⟨by omega, by omega⟩ ⟨by omega, by omega⟩ (fun zq12 => ?_) (fun zq12 => ?_)
    · exact retV C0 hret hlk hH (rfl) dX6_needStar_25
    · exact absurd zq12 (by omega)
set_option maxRecDepth 100000 in
set_option maxHeartbeats 4000000 in
theorem x_X6_needStar (l : Launch) (g : gT) (S : gSt) (a : Int) (hn1 : 0 ≤ S 1 0 ∧ S 1 0 ≤ 24) (hr0 : -2147483648 ≤ a ∧ a < 2147483648) (hbad : ¬(0 ≤ a ∧ a < S 1 0)) (hfl : l.stackTraces = false) : ThrG l g yX6_needStar cX6_needStar 2 none 6 85 [.ref (g.1 0), .int (iI a)] S "java/lang/IndexOutOfBoundsException" S := by
  refine bodyX (by decide +kernel) (Nat.le_of_ble_eq_true rfl) ?_
  intro p e s m args below meth c ls C0 htab hlk hl hH
  have zx := C0.1
  have zb := C0.2.1
  have hl : lv_has ls 2 [(0, .ref (g.1 0)), (1, .int (iI a))] := hl
  obtain ⟨H, hHe⟩ : ∃ H : Heap, H = s.heap := ⟨_, rfl⟩
  rw [show (Hp g S s s.heap []) = Hp g S s H [] by rw [hHe]] at hH
  rw [← hHe]
  refine lv_iload_n zx zb dX6_needStar_0 rfl (lv_at hl 1 rfl) ?_
  refine bz_lt (tgt := 15) zx zb dX6_needStar_1 (by decide) ⟨by omega, by omega⟩ (fun zq1 => ?_) (fun zq1 => ?_)
  · exact thG (text := "no such star") (names := ["java/lang/RuntimeException", "java/lang/Exception"]) hfl C0 htab hlk hH rfl (by decide +kernel) (by decide +kernel) (gm 291 (by decide +kernel) rfl) (gm 31 (by decide +kernel) rfl) (List.mem_of_getElem? (i := 300) (by decide +kernel)) (atS_IOE C0.2.2.2.2.1) gdS_IOE hl.1 dX6_needStar_15 dX6_needStar_18 dX6_needStar_19 dX6_needStar_21 dX6_needStar_24 (by decide) (Nat.le_of_ble_eq_true rfl) (by decide) (by decide)
  · refine lv_iload_n zx zb dX6_needStar_4 rfl (lv_at hl 1 rfl) ?_
    refine lv_aload_n zx zb dX6_needStar_5 rfl (lv_at hl 0 rfl) ?_
    refine gf_X6_12 C0 hH dX6_needStar_6 ?_
    refine gf_X6_48 C0 hH dX6_needStar_9 ?_
    refine bq_lt (tgt := 25) zx zb dX6_needStar_12 (by decide) ⟨by omega, by omega⟩ ⟨by omega, by omega⟩ (fun zq12 => ?_) (fun zq12 => ?_)
    · exact absurd zq12 (by omega)
    · exact thG (text := "no such star") (names := ["java/lang/RuntimeException", "java/lang/Exception"]) hfl C0 htab hlk hH rfl (by decide +kernel) (by decide +kernel) (gm 291 (by decide +kernel) rfl) (gm 31 (by decide +kernel) rfl) (List.mem_of_getElem? (i := 300) (by decide +kernel)) (atS_IOE C0.2.2.2.2.1) gdS_IOE hl.1 dX6_needStar_15 dX6_needStar_18 dX6_needStar_19 dX6_needStar_21 dX6_needStar_24 (by decide) (Nat.le_of_ble_eq_true rfl) (by decide) (by decide)
set_option maxRecDepth 100000 in
set_option maxHeartbeats 4000000 in
theorem c_X6_needFigure (l : Launch) (g : gT) (S : gSt) (a : Int) (hnf : 0 ≤ S 4 0 ∧ S 4 0 ≤ 8) (hok : 0 ≤ a ∧ a < S 4 0) : MetG l g yX6_needFigure cX6_needFigure 2 none 0 0 [.ref (g.1 0), .int (iI a)] S none S := by
  refine bodyG (by decide +kernel) (Nat.le_of_ble_eq_true rfl) ?_
  intro p e s m args below meth c ls C0 hret hlk hl hH
  have zx := C0.1
  have zb := C0.2.1
  have hl : lv_has ls 2 [(0, .ref (g.1 0)), (1, .int (iI a))] := hl
  obtain ⟨H, hHe⟩ : ∃ H : Heap, H = s.heap := ⟨_, rfl⟩
  rw [show (Hp g S s s.heap []) = Hp g S s H [] by rw [hHe]] at hH
  rw [← hHe]
  refine lv_iload_n zx zb dX6_needFigure_0 rfl (lv_at hl 1 rfl) ?_
  refine bz_lt (tgt := 15) zx zb dX6_needFigure_1 (by decide) ⟨by omega, by omega⟩ (fun zq1 => ?_) (fun zq1 => ?_)
  · exact absurd zq1 (by omega)
  · refine lv_iload_n zx zb dX6_needFigure_4 rfl (lv_at hl 1 rfl) ?_
    refine lv_aload_n zx zb dX6_needFigure_5 rfl (lv_at hl 0 rfl) ?_
    refine gf_X6_19 C0 hH dX6_needFigure_6 ?_
    refine gf_X6_86 C0 hH dX6_needFigure_9 ?_
    refine bq_lt (tgt := 25) zx zb dX6_needFigure_12 (by decide) ⟨by omega, by omega⟩ ⟨by omega, by omega⟩ (fun zq12 => ?_) (fun zq12 => ?_)
    · exact retV C0 hret hlk hH (rfl) dX6_needFigure_25
    · exact absurd zq12 (by omega)
set_option maxRecDepth 100000 in
set_option maxHeartbeats 4000000 in
theorem x_X6_needFigure (l : Launch) (g : gT) (S : gSt) (a : Int) (hnf : 0 ≤ S 4 0 ∧ S 4 0 ≤ 8) (hr0 : -2147483648 ≤ a ∧ a < 2147483648) (hbad : ¬(0 ≤ a ∧ a < S 4 0)) (hfl : l.stackTraces = false) : ThrG l g yX6_needFigure cX6_needFigure 2 none 6 85 [.ref (g.1 0), .int (iI a)] S "java/lang/IndexOutOfBoundsException" S := by
  refine bodyX (by decide +kernel) (Nat.le_of_ble_eq_true rfl) ?_
  intro p e s m args below meth c ls C0 htab hlk hl hH
  have zx := C0.1
  have zb := C0.2.1
  have hl : lv_has ls 2 [(0, .ref (g.1 0)), (1, .int (iI a))] := hl
  obtain ⟨H, hHe⟩ : ∃ H : Heap, H = s.heap := ⟨_, rfl⟩
  rw [show (Hp g S s s.heap []) = Hp g S s H [] by rw [hHe]] at hH
  rw [← hHe]
  refine lv_iload_n zx zb dX6_needFigure_0 rfl (lv_at hl 1 rfl) ?_
  refine bz_lt (tgt := 15) zx zb dX6_needFigure_1 (by decide) ⟨by omega, by omega⟩ (fun zq1 => ?_) (fun zq1 => ?_)
  · exact thG (text := "no such figure") (names := ["java/lang/RuntimeException", "java/lang/Exception"]) hfl C0 htab hlk hH rfl (by decide +kernel) (by decide +kernel) (gm 291 (by decide +kernel) rfl) (gm 31 (by decide +kernel) rfl) (List.mem_of_getElem? (i := 366) (by decide +kernel)) (atS_IOE C0.2.2.2.2.1) gdS_IOE hl.1 dX6_needFigure_15 dX6_needFigure_18 dX6_needFigure_19 dX6_needFigure_21 dX6_needFigure_24 (by decide) (Nat.le_of_ble_eq_true rfl) (by decide) (by decide)
  · refine lv_iload_n zx zb dX6_needFigure_4 rfl (lv_at hl 1 rfl) ?_
    refine lv_aload_n zx zb dX6_needFigure_5 rfl (lv_at hl 0 rfl) ?_
    refine gf_X6_19 C0 hH dX6_needFigure_6 ?_
    refine gf_X6_86 C0 hH dX6_needFigure_9 ?_
    refine bq_lt (tgt := 25) zx zb dX6_needFigure_12 (by decide) ⟨by omega, by omega⟩ ⟨by omega, by omega⟩ (fun zq12 => ?_) (fun zq12 => ?_)
    · exact absurd zq12 (by omega)
    · exact thG (text := "no such figure") (names := ["java/lang/RuntimeException", "java/lang/Exception"]) hfl C0 htab hlk hH rfl (by decide +kernel) (by decide +kernel) (gm 291 (by decide +kernel) rfl) (gm 31 (by decide +kernel) rfl) (List.mem_of_getElem? (i := 366) (by decide +kernel)) (atS_IOE C0.2.2.2.2.1) gdS_IOE hl.1 dX6_needFigure_15 dX6_needFigure_18 dX6_needFigure_19 dX6_needFigure_21 dX6_needFigure_24 (by decide) (Nat.le_of_ble_eq_true rfl) (by decide) (by decide)
set_option maxRecDepth 100000 in
set_option maxHeartbeats 4000000 in
theorem c_X6_needPlace (l : Launch) (g : gT) (S : gSt) (a u : Int) (hok : (0 ≤ a ∧ a < 360) ∧ (-90 ≤ u ∧ u ≤ 90)) : MetG l g yX6_needPlace cX6_needPlace 2 none 0 0 [.int (iI a), .int (iI u)] S none S := by
  refine bodyG (by decide +kernel) (Nat.le_of_ble_eq_true rfl) ?_
  intro p e s m args below meth c ls C0 hret hlk hl hH
  have zx := C0.1
  have zb := C0.2.1
  have hl : lv_has ls 2 [(0, .int (iI a)), (1, .int (iI u))] := hl
  obtain ⟨H, hHe⟩ : ∃ H : Heap, H = s.heap := ⟨_, rfl⟩
  rw [show (Hp g S s s.heap []) = Hp g S s H [] by rw [hHe]] at hH
  rw [← hHe]
  refine lv_iload_n zx zb dX6_needPlace_0 rfl (lv_at hl 0 rfl) ?_
  refine bz_lt (tgt := 11) zx zb dX6_needPlace_1 (by decide) ⟨by omega, by omega⟩ (fun zq1 => ?_) (fun zq1 => ?_)
  · exact absurd zq1 (by omega)
  · refine lv_iload_n zx zb dX6_needPlace_4 rfl (lv_at hl 0 rfl) ?_
    refine bi_sip (n := 360) zx zb dX6_needPlace_5 (by decide) ?_
    refine bq_lt (tgt := 21) zx zb dX6_needPlace_8 (by decide) ⟨by omega, by omega⟩ ⟨by omega, by omega⟩ (fun zq8 => ?_) (fun zq8 => ?_)
    · refine lv_iload_n zx zb dX6_needPlace_21 rfl (lv_at hl 1 rfl) ?_
      refine bi_bip (n := (-90)) zx zb dX6_needPlace_22 (by decide) ?_
      refine bq_lt (tgt := 33) zx zb dX6_needPlace_24 (by decide) ⟨by omega, by omega⟩ ⟨by omega, by omega⟩ (fun zq24 => ?_) (fun zq24 => ?_)
      · exact absurd zq24 (by omega)
      · refine lv_iload_n zx zb dX6_needPlace_27 rfl (lv_at hl 1 rfl) ?_
        refine bi_bip (n := 90) zx zb dX6_needPlace_28 (by decide) ?_
        refine bq_le (tgt := 43) zx zb dX6_needPlace_30 (by decide) ⟨by omega, by omega⟩ ⟨by omega, by omega⟩ (fun zq30 => ?_) (fun zq30 => ?_)
        · exact retV C0 hret hlk hH (rfl) dX6_needPlace_43
        · exact absurd zq30 (by omega)
    · exact absurd zq8 (by omega)
set_option maxRecDepth 100000 in
set_option maxHeartbeats 4000000 in
theorem x_X6_needPlace (l : Launch) (g : gT) (S : gSt) (a u : Int) (hr0 : -2147483648 ≤ a ∧ a < 2147483648) (hr1 : -2147483648 ≤ u ∧ u < 2147483648) (hbad : ¬((0 ≤ a ∧ a < 360) ∧ (-90 ≤ u ∧ u ≤ 90))) (hfl : l.stackTraces = false) : ThrG l g yX6_needPlace cX6_needPlace 2 none 6 85 [.int (iI a), .int (iI u)] S "java/lang/IllegalArgumentException" S := by
  refine bodyX (by decide +kernel) (Nat.le_of_ble_eq_true rfl) ?_
  intro p e s m args below meth c ls C0 htab hlk hl hH
  have zx := C0.1
  have zb := C0.2.1
  have hl : lv_has ls 2 [(0, .int (iI a)), (1, .int (iI u))] := hl
  obtain ⟨H, hHe⟩ : ∃ H : Heap, H = s.heap := ⟨_, rfl⟩
  rw [show (Hp g S s s.heap []) = Hp g S s H [] by rw [hHe]] at hH
  rw [← hHe]
  refine lv_iload_n zx zb dX6_needPlace_0 rfl (lv_at hl 0 rfl) ?_
  refine bz_lt (tgt := 11) zx zb dX6_needPlace_1 (by decide) ⟨by omega, by omega⟩ (fun zq1 => ?_) (fun zq1 => ?_)
  · exact thG (text := "across is 0 to 359") (names := ["java/lang/RuntimeException", "java/lang/Exception"]) hfl C0 htab hlk hH rfl (by decide +kernel) (by decide +kernel) (gm 190 (by decide +kernel) rfl) (gm 29 (by decide +kernel) rfl) (List.mem_of_getElem? (i := 231) (by decide +kernel)) (atS_IAE C0.2.2.2.2.1) gdS_IAE hl.1 dX6_needPlace_11 dX6_needPlace_14 dX6_needPlace_15 dX6_needPlace_17 dX6_needPlace_20 (by decide) (Nat.le_of_ble_eq_true rfl) (by decide) (by decide)
  · refine lv_iload_n zx zb dX6_needPlace_4 rfl (lv_at hl 0 rfl) ?_
    refine bi_sip (n := 360) zx zb dX6_needPlace_5 (by decide) ?_
    refine bq_lt (tgt := 21) zx zb dX6_needPlace_8 (by decide) ⟨by omega, by omega⟩ ⟨by omega, by omega⟩ (fun zq8 => ?_) (fun zq8 => ?_)
    · refine lv_iload_n zx zb dX6_needPlace_21 rfl (lv_at hl 1 rfl) ?_
      refine bi_bip (n := (-90)) zx zb dX6_needPlace_22 (by decide) ?_
      refine bq_lt (tgt := 33) zx zb dX6_needPlace_24 (by decide) ⟨by omega, by omega⟩ ⟨by omega, by omega⟩ (fun zq24 => ?_) (fun zq24 => ?_)
      · exact thG (text := "up is -90 to 90") (names := ["java/lang/RuntimeException", "java/lang/Exception"]) hfl C0 htab hlk hH rfl (by decide +kernel) (by decide +kernel) (gm 190 (by decide +kernel) rfl) (gm 29 (by decide +kernel) rfl) (List.mem_of_getElem? (i := 258) (by decide +kernel)) (atS_IAE C0.2.2.2.2.1) gdS_IAE hl.1 dX6_needPlace_33 dX6_needPlace_36 dX6_needPlace_37 dX6_needPlace_39 dX6_needPlace_42 (by decide) (Nat.le_of_ble_eq_true rfl) (by decide) (by decide)
      · refine lv_iload_n zx zb dX6_needPlace_27 rfl (lv_at hl 1 rfl) ?_
        refine bi_bip (n := 90) zx zb dX6_needPlace_28 (by decide) ?_
        refine bq_le (tgt := 43) zx zb dX6_needPlace_30 (by decide) ⟨by omega, by omega⟩ ⟨by omega, by omega⟩ (fun zq30 => ?_) (fun zq30 => ?_)
        · exact absurd zq30 (by omega)
        · exact thG (text := "up is -90 to 90") (names := ["java/lang/RuntimeException", "java/lang/Exception"]) hfl C0 htab hlk hH rfl (by decide +kernel) (by decide +kernel) (gm 190 (by decide +kernel) rfl) (gm 29 (by decide +kernel) rfl) (List.mem_of_getElem? (i := 258) (by decide +kernel)) (atS_IAE C0.2.2.2.2.1) gdS_IAE hl.1 dX6_needPlace_33 dX6_needPlace_36 dX6_needPlace_37 dX6_needPlace_39 dX6_needPlace_42 (by decide) (Nat.le_of_ble_eq_true rfl) (by decide) (by decide)
    · exact thG (text := "across is 0 to 359") (names := ["java/lang/RuntimeException", "java/lang/Exception"]) hfl C0 htab hlk hH rfl (by decide +kernel) (by decide +kernel) (gm 190 (by decide +kernel) rfl) (gm 29 (by decide +kernel) rfl) (List.mem_of_getElem? (i := 231) (by decide +kernel)) (atS_IAE C0.2.2.2.2.1) gdS_IAE hl.1 dX6_needPlace_11 dX6_needPlace_14 dX6_needPlace_15 dX6_needPlace_17 dX6_needPlace_20 (by decide) (Nat.le_of_ble_eq_true rfl) (by decide) (by decide)
set_option maxRecDepth 100000 in
set_option maxHeartbeats 4000000 in
theorem c_X6_needName (l : Launch) (g : gT) (S : gSt) (a : Int) (hok : 0 ≤ a ∧ a < 10) : MetG l g yX6_needName cX6_needName 1 none 0 0 [.int (iI a)] S none S := by
  refine bodyG (by decide +kernel) (Nat.le_of_ble_eq_true rfl) ?_
  intro p e s m args below meth c ls C0 hret hlk hl hH
  have zx := C0.1
  have zb := C0.2.1
  have hl : lv_has ls 1 [(0, .int (iI a))] := hl
  obtain ⟨H, hHe⟩ : ∃ H : Heap, H = s.heap := ⟨_, rfl⟩
  rw [show (Hp g S s s.heap []) = Hp g S s H [] by rw [hHe]] at hH
  rw [← hHe]
  refine lv_iload_n zx zb dX6_needName_0 rfl (lv_at hl 0 rfl) ?_
  refine bz_lt (tgt := 10) zx zb dX6_needName_1 (by decide) ⟨by omega, by omega⟩ (fun zq1 => ?_) (fun zq1 => ?_)
  · exact absurd zq1 (by omega)
  · refine lv_iload_n zx zb dX6_needName_4 rfl (lv_at hl 0 rfl) ?_
    refine bi_bip (n := 10) zx zb dX6_needName_5 (by decide) ?_
    refine bq_lt (tgt := 20) zx zb dX6_needName_7 (by decide) ⟨by omega, by omega⟩ ⟨by omega, by omega⟩ (fun zq7 => ?_) (fun zq7 => ?_)
    · exact retV C0 hret hlk hH (rfl) dX6_needName_20
    · exact absurd zq7 (by omega)
set_option maxRecDepth 100000 in
set_option maxHeartbeats 4000000 in
theorem x_X6_needName (l : Launch) (g : gT) (S : gSt) (a : Int) (hr0 : -2147483648 ≤ a ∧ a < 2147483648) (hbad : ¬(0 ≤ a ∧ a < 10)) (hfl : l.stackTraces = false) : ThrG l g yX6_needName cX6_needName 1 none 6 85 [.int (iI a)] S "java/lang/IllegalArgumentException" S := by
  refine bodyX (by decide +kernel) (Nat.le_of_ble_eq_true rfl) ?_
  intro p e s m args below meth c ls C0 htab hlk hl hH
  have zx := C0.1
  have zb := C0.2.1
  have hl : lv_has ls 1 [(0, .int (iI a))] := hl
  obtain ⟨H, hHe⟩ : ∃ H : Heap, H = s.heap := ⟨_, rfl⟩
  rw [show (Hp g S s s.heap []) = Hp g S s H [] by rw [hHe]] at hH
  rw [← hHe]
  refine lv_iload_n zx zb dX6_needName_0 rfl (lv_at hl 0 rfl) ?_
  refine bz_lt (tgt := 10) zx zb dX6_needName_1 (by decide) ⟨by omega, by omega⟩ (fun zq1 => ?_) (fun zq1 => ?_)
  · exact thG (text := "a name is 0 to 9") (names := ["java/lang/RuntimeException", "java/lang/Exception"]) hfl C0 htab hlk hH rfl (by decide +kernel) (by decide +kernel) (gm 190 (by decide +kernel) rfl) (gm 29 (by decide +kernel) rfl) (List.mem_of_getElem? (i := 439) (by decide +kernel)) (atS_IAE C0.2.2.2.2.1) gdS_IAE hl.1 dX6_needName_10 dX6_needName_13 dX6_needName_14 dX6_needName_16 dX6_needName_19 (by decide) (Nat.le_of_ble_eq_true rfl) (by decide) (by decide)
  · refine lv_iload_n zx zb dX6_needName_4 rfl (lv_at hl 0 rfl) ?_
    refine bi_bip (n := 10) zx zb dX6_needName_5 (by decide) ?_
    refine bq_lt (tgt := 20) zx zb dX6_needName_7 (by decide) ⟨by omega, by omega⟩ ⟨by omega, by omega⟩ (fun zq7 => ?_) (fun zq7 => ?_)
    · exact absurd zq7 (by omega)
    · exact thG (text := "a name is 0 to 9") (names := ["java/lang/RuntimeException", "java/lang/Exception"]) hfl C0 htab hlk hH rfl (by decide +kernel) (by decide +kernel) (gm 190 (by decide +kernel) rfl) (gm 29 (by decide +kernel) rfl) (List.mem_of_getElem? (i := 439) (by decide +kernel)) (atS_IAE C0.2.2.2.2.1) gdS_IAE hl.1 dX6_needName_10 dX6_needName_13 dX6_needName_14 dX6_needName_16 dX6_needName_19 (by decide) (Nat.le_of_ble_eq_true rfl) (by decide) (by decide)
set_option maxRecDepth 100000 in
set_option maxHeartbeats 4000000 in
theorem c_X6_needLatitude (l : Launch) (g : gT) (S : gSt) (a : Int) (hok : -90 ≤ a ∧ a ≤ 90) : MetG l g yX6_needLatitude cX6_needLatitude 1 none 0 0 [.int (iI a)] S none S := by
  refine bodyG (by decide +kernel) (Nat.le_of_ble_eq_true rfl) ?_
  intro p e s m args below meth c ls C0 hret hlk hl hH
  have zx := C0.1
  have zb := C0.2.1
  have hl : lv_has ls 1 [(0, .int (iI a))] := hl
  obtain ⟨H, hHe⟩ : ∃ H : Heap, H = s.heap := ⟨_, rfl⟩
  rw [show (Hp g S s s.heap []) = Hp g S s H [] by rw [hHe]] at hH
  rw [← hHe]
  refine lv_iload_n zx zb dX6_needLatitude_0 rfl (lv_at hl 0 rfl) ?_
  refine bi_bip (n := (-90)) zx zb dX6_needLatitude_1 (by decide) ?_
  refine bq_lt (tgt := 12) zx zb dX6_needLatitude_3 (by decide) ⟨by omega, by omega⟩ ⟨by omega, by omega⟩ (fun zq3 => ?_) (fun zq3 => ?_)
  · exact absurd zq3 (by omega)
  · refine lv_iload_n zx zb dX6_needLatitude_6 rfl (lv_at hl 0 rfl) ?_
    refine bi_bip (n := 90) zx zb dX6_needLatitude_7 (by decide) ?_
    refine bq_le (tgt := 22) zx zb dX6_needLatitude_9 (by decide) ⟨by omega, by omega⟩ ⟨by omega, by omega⟩ (fun zq9 => ?_) (fun zq9 => ?_)
    · exact retV C0 hret hlk hH (rfl) dX6_needLatitude_22
    · exact absurd zq9 (by omega)
set_option maxRecDepth 100000 in
set_option maxHeartbeats 4000000 in
theorem x_X6_needLatitude (l : Launch) (g : gT) (S : gSt) (a : Int) (hr0 : -2147483648 ≤ a ∧ a < 2147483648) (hbad : ¬(-90 ≤ a ∧ a ≤ 90)) (hfl : l.stackTraces = false) : ThrG l g yX6_needLatitude cX6_needLatitude 1 none 6 85 [.int (iI a)] S "java/lang/IllegalArgumentException" S := by
  refine bodyX (by decide +kernel) (Nat.le_of_ble_eq_true rfl) ?_
  intro p e s m args below meth c ls C0 htab hlk hl hH
  have zx := C0.1
  have zb := C0.2.1
  have hl : lv_has ls 1 [(0, .int (iI a))] := hl
  obtain ⟨H, hHe⟩ : ∃ H : Heap, H = s.heap := ⟨_, rfl⟩
  rw [show (Hp g S s s.heap []) = Hp g S s H [] by rw [hHe]] at hH
  rw [← hHe]
  refine lv_iload_n zx zb dX6_needLatitude_0 rfl (lv_at hl 0 rfl) ?_
  refine bi_bip (n := (-90)) zx zb dX6_needLatitude_1 (by decide) ?_
  refine bq_lt (tgt := 12) zx zb dX6_needLatitude_3 (by decide) ⟨by omega, by omega⟩ ⟨by omega, by omega⟩ (fun zq3 => ?_) (fun zq3 => ?_)
  · exact thG (text := "a latitude is -90 to 90") (names := ["java/lang/RuntimeException", "java/lang/Exception"]) hfl C0 htab hlk hH rfl (by decide +kernel) (by decide +kernel) (gm 190 (by decide +kernel) rfl) (gm 29 (by decide +kernel) rfl) (List.mem_of_getElem? (i := 471) (by decide +kernel)) (atS_IAE C0.2.2.2.2.1) gdS_IAE hl.1 dX6_needLatitude_12 dX6_needLatitude_15 dX6_needLatitude_16 dX6_needLatitude_18 dX6_needLatitude_21 (by decide) (Nat.le_of_ble_eq_true rfl) (by decide) (by decide)
  · refine lv_iload_n zx zb dX6_needLatitude_6 rfl (lv_at hl 0 rfl) ?_
    refine bi_bip (n := 90) zx zb dX6_needLatitude_7 (by decide) ?_
    refine bq_le (tgt := 22) zx zb dX6_needLatitude_9 (by decide) ⟨by omega, by omega⟩ ⟨by omega, by omega⟩ (fun zq9 => ?_) (fun zq9 => ?_)
    · exact absurd zq9 (by omega)
    · exact thG (text := "a latitude is -90 to 90") (names := ["java/lang/RuntimeException", "java/lang/Exception"]) hfl C0 htab hlk hH rfl (by decide +kernel) (by decide +kernel) (gm 190 (by decide +kernel) rfl) (gm 29 (by decide +kernel) rfl) (List.mem_of_getElem? (i := 471) (by decide +kernel)) (atS_IAE C0.2.2.2.2.1) gdS_IAE hl.1 dX6_needLatitude_12 dX6_needLatitude_15 dX6_needLatitude_16 dX6_needLatitude_18 dX6_needLatitude_21 (by decide) (Nat.le_of_ble_eq_true rfl) (by decide) (by decide)
set_option maxRecDepth 100000 in
set_option maxHeartbeats 4000000 in
theorem c_X6_needDay (l : Launch) (g : gT) (S : gSt) (a : Int) (hok : 0 ≤ a ∧ a < 365) : MetG l g yX6_needDay cX6_needDay 1 none 0 0 [.int (iI a)] S none S := by
  refine bodyG (by decide +kernel) (Nat.le_of_ble_eq_true rfl) ?_
  intro p e s m args below meth c ls C0 hret hlk hl hH
  have zx := C0.1
  have zb := C0.2.1
  have hl : lv_has ls 1 [(0, .int (iI a))] := hl
  obtain ⟨H, hHe⟩ : ∃ H : Heap, H = s.heap := ⟨_, rfl⟩
  rw [show (Hp g S s s.heap []) = Hp g S s H [] by rw [hHe]] at hH
  rw [← hHe]
  refine lv_iload_n zx zb dX6_needDay_0 rfl (lv_at hl 0 rfl) ?_
  refine bz_lt (tgt := 11) zx zb dX6_needDay_1 (by decide) ⟨by omega, by omega⟩ (fun zq1 => ?_) (fun zq1 => ?_)
  · exact absurd zq1 (by omega)
  · refine lv_iload_n zx zb dX6_needDay_4 rfl (lv_at hl 0 rfl) ?_
    refine bi_sip (n := 365) zx zb dX6_needDay_5 (by decide) ?_
    refine bq_lt (tgt := 21) zx zb dX6_needDay_8 (by decide) ⟨by omega, by omega⟩ ⟨by omega, by omega⟩ (fun zq8 => ?_) (fun zq8 => ?_)
    · exact retV C0 hret hlk hH (rfl) dX6_needDay_21
    · exact absurd zq8 (by omega)
set_option maxRecDepth 100000 in
set_option maxHeartbeats 4000000 in
theorem x_X6_needDay (l : Launch) (g : gT) (S : gSt) (a : Int) (hr0 : -2147483648 ≤ a ∧ a < 2147483648) (hbad : ¬(0 ≤ a ∧ a < 365)) (hfl : l.stackTraces = false) : ThrG l g yX6_needDay cX6_needDay 1 none 6 85 [.int (iI a)] S "java/lang/IllegalArgumentException" S := by
  refine bodyX (by decide +kernel) (Nat.le_of_ble_eq_true rfl) ?_
  intro p e s m args below meth c ls C0 htab hlk hl hH
  have zx := C0.1
  have zb := C0.2.1
  have hl : lv_has ls 1 [(0, .int (iI a))] := hl
  obtain ⟨H, hHe⟩ : ∃ H : Heap, H = s.heap := ⟨_, rfl⟩
  rw [show (Hp g S s s.heap []) = Hp g S s H [] by rw [hHe]] at hH
  rw [← hHe]
  refine lv_iload_n zx zb dX6_needDay_0 rfl (lv_at hl 0 rfl) ?_
  refine bz_lt (tgt := 11) zx zb dX6_needDay_1 (by decide) ⟨by omega, by omega⟩ (fun zq1 => ?_) (fun zq1 => ?_)
  · exact thG (text := "a day is 0 to 364") (names := ["java/lang/RuntimeException", "java/lang/Exception"]) hfl C0 htab hlk hH rfl (by decide +kernel) (by decide +kernel) (gm 190 (by decide +kernel) rfl) (gm 29 (by decide +kernel) rfl) (List.mem_of_getElem? (i := 475) (by decide +kernel)) (atS_IAE C0.2.2.2.2.1) gdS_IAE hl.1 dX6_needDay_11 dX6_needDay_14 dX6_needDay_15 dX6_needDay_17 dX6_needDay_20 (by decide) (Nat.le_of_ble_eq_true rfl) (by decide) (by decide)
  · refine lv_iload_n zx zb dX6_needDay_4 rfl (lv_at hl 0 rfl) ?_
    refine bi_sip (n := 365) zx zb dX6_needDay_5 (by decide) ?_
    refine bq_lt (tgt := 21) zx zb dX6_needDay_8 (by decide) ⟨by omega, by omega⟩ ⟨by omega, by omega⟩ (fun zq8 => ?_) (fun zq8 => ?_)
    · exact absurd zq8 (by omega)
    · exact thG (text := "a day is 0 to 364") (names := ["java/lang/RuntimeException", "java/lang/Exception"]) hfl C0 htab hlk hH rfl (by decide +kernel) (by decide +kernel) (gm 190 (by decide +kernel) rfl) (gm 29 (by decide +kernel) rfl) (List.mem_of_getElem? (i := 475) (by decide +kernel)) (atS_IAE C0.2.2.2.2.1) gdS_IAE hl.1 dX6_needDay_11 dX6_needDay_14 dX6_needDay_15 dX6_needDay_17 dX6_needDay_20 (by decide) (Nat.le_of_ble_eq_true rfl) (by decide) (by decide)
set_option maxRecDepth 100000 in
set_option maxHeartbeats 4000000 in
theorem c_X6_needHour (l : Launch) (g : gT) (S : gSt) (a : Int) (hok : 0 ≤ a ∧ a < 24) : MetG l g yX6_needHour cX6_needHour 1 none 0 0 [.int (iI a)] S none S := by
  refine bodyG (by decide +kernel) (Nat.le_of_ble_eq_true rfl) ?_
  intro p e s m args below meth c ls C0 hret hlk hl hH
  have zx := C0.1
  have zb := C0.2.1
  have hl : lv_has ls 1 [(0, .int (iI a))] := hl
  obtain ⟨H, hHe⟩ : ∃ H : Heap, H = s.heap := ⟨_, rfl⟩
  rw [show (Hp g S s s.heap []) = Hp g S s H [] by rw [hHe]] at hH
  rw [← hHe]
  refine lv_iload_n zx zb dX6_needHour_0 rfl (lv_at hl 0 rfl) ?_
  refine bz_lt (tgt := 10) zx zb dX6_needHour_1 (by decide) ⟨by omega, by omega⟩ (fun zq1 => ?_) (fun zq1 => ?_)
  · exact absurd zq1 (by omega)
  · refine lv_iload_n zx zb dX6_needHour_4 rfl (lv_at hl 0 rfl) ?_
    refine bi_bip (n := 24) zx zb dX6_needHour_5 (by decide) ?_
    refine bq_lt (tgt := 20) zx zb dX6_needHour_7 (by decide) ⟨by omega, by omega⟩ ⟨by omega, by omega⟩ (fun zq7 => ?_) (fun zq7 => ?_)
    · exact retV C0 hret hlk hH (rfl) dX6_needHour_20
    · exact absurd zq7 (by omega)
set_option maxRecDepth 100000 in
set_option maxHeartbeats 4000000 in
theorem x_X6_needHour (l : Launch) (g : gT) (S : gSt) (a : Int) (hr0 : -2147483648 ≤ a ∧ a < 2147483648) (hbad : ¬(0 ≤ a ∧ a < 24)) (hfl : l.stackTraces = false) : ThrG l g yX6_needHour cX6_needHour 1 none 6 85 [.int (iI a)] S "java/lang/IllegalArgumentException" S := by
  refine bodyX (by decide +kernel) (Nat.le_of_ble_eq_true rfl) ?_
  intro p e s m args below meth c ls C0 htab hlk hl hH
  have zx := C0.1
  have zb := C0.2.1
  have hl : lv_has ls 1 [(0, .int (iI a))] := hl
  obtain ⟨H, hHe⟩ : ∃ H : Heap, H = s.heap := ⟨_, rfl⟩
  rw [show (Hp g S s s.heap []) = Hp g S s H [] by rw [hHe]] at hH
  rw [← hHe]
  refine lv_iload_n zx zb dX6_needHour_0 rfl (lv_at hl 0 rfl) ?_
  refine bz_lt (tgt := 10) zx zb dX6_needHour_1 (by decide) ⟨by omega, by omega⟩ (fun zq1 => ?_) (fun zq1 => ?_)
  · exact thG (text := "an hour is 0 to 23") (names := ["java/lang/RuntimeException", "java/lang/Exception"]) hfl C0 htab hlk hH rfl (by decide +kernel) (by decide +kernel) (gm 190 (by decide +kernel) rfl) (gm 29 (by decide +kernel) rfl) (List.mem_of_getElem? (i := 479) (by decide +kernel)) (atS_IAE C0.2.2.2.2.1) gdS_IAE hl.1 dX6_needHour_10 dX6_needHour_13 dX6_needHour_14 dX6_needHour_16 dX6_needHour_19 (by decide) (Nat.le_of_ble_eq_true rfl) (by decide) (by decide)
  · refine lv_iload_n zx zb dX6_needHour_4 rfl (lv_at hl 0 rfl) ?_
    refine bi_bip (n := 24) zx zb dX6_needHour_5 (by decide) ?_
    refine bq_lt (tgt := 20) zx zb dX6_needHour_7 (by decide) ⟨by omega, by omega⟩ ⟨by omega, by omega⟩ (fun zq7 => ?_) (fun zq7 => ?_)
    · exact absurd zq7 (by omega)
    · exact thG (text := "an hour is 0 to 23") (names := ["java/lang/RuntimeException", "java/lang/Exception"]) hfl C0 htab hlk hH rfl (by decide +kernel) (by decide +kernel) (gm 190 (by decide +kernel) rfl) (gm 29 (by decide +kernel) rfl) (List.mem_of_getElem? (i := 479) (by decide +kernel)) (atS_IAE C0.2.2.2.2.1) gdS_IAE hl.1 dX6_needHour_10 dX6_needHour_13 dX6_needHour_14 dX6_needHour_16 dX6_needHour_19 (by decide) (Nat.le_of_ble_eq_true rfl) (by decide) (by decide)
