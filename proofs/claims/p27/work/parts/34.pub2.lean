set_option maxRecDepth 100000 in
set_option maxHeartbeats 4000000 in
theorem c_X6_addStar (l : Launch) (g : gT) (S : gSt) (a u : Int) (hpo : (0 ≤ a ∧ a < 360) ∧ (-90 ≤ u ∧ u ≤ 90)) (hn : 0 ≤ S 1 0 ∧ S 1 0 < 24) : MetG l g yX6_addStar cX6_addStar 3 (some .int) 2 46 [.ref (g.1 0), .int (iI a), .int (iI u)] S (some (.int (iI (S 1 0)))) (adS S a u) := by
  refine bodyG (by decide +kernel) (Nat.le_of_ble_eq_true rfl) ?_
  intro p e s m args below meth c ls C0 hret hlk hl hH
  have zx := C0.1
  have zb := C0.2.1
  have hl : lv_has ls 3 [(0, .ref (g.1 0)), (1, .int (iI a)), (2, .int (iI u))] := hl
  obtain ⟨H, hHe⟩ : ∃ H : Heap, H = s.heap := ⟨_, rfl⟩
  rw [show (Hp g S s s.heap []) = Hp g S s H [] by rw [hHe]] at hH
  rw [← hHe]
  refine lv_iload_n zx zb dX6_addStar_0 rfl (lv_at hl 1 rfl) ?_
  refine lv_iload_n zx zb dX6_addStar_1 rfl (lv_at hl 2 rfl) ?_
  refine csN (rest := []) (As := [.int (iI a), .int (iI u)]) C0 hH (c_X6_needPlace l g S a u (by omega)) kw_X6_44 ky_X6_needPlace ⟨Nat.le_of_ble_eq_true rfl, Nat.le_of_ble_eq_true rfl⟩ ⟨Nat.zero_le _, Nat.zero_le _⟩ rfl hl.1 rfl (Nat.le_of_ble_eq_true rfl) dX6_addStar_2 (fun H locs hH => ?_)
  refine lv_aload_n zx zb dX6_addStar_5 rfl (lv_at hl 0 rfl) ?_
  refine gf_X6_12 C0 hH dX6_addStar_6 ?_
  refine gf_X6_48 C0 hH dX6_addStar_9 ?_
  refine bi_bip (n := 24) zx zb dX6_addStar_12 (by decide) ?_
  refine bq_lt (tgt := 27) zx zb dX6_addStar_14 (by decide) ⟨by omega, by omega⟩ ⟨by omega, by omega⟩ (fun zq14 => ?_) (fun zq14 => ?_)
  · refine lv_aload_n zx zb dX6_addStar_27 rfl (lv_at hl 0 rfl) ?_
    refine gf_X6_12 C0 hH dX6_addStar_28 ?_
    refine lv_iload_n zx zb dX6_addStar_31 rfl (lv_at hl 1 rfl) ?_
    refine lv_iload_n zx zb dX6_addStar_32 rfl (lv_at hl 2 rfl) ?_
    refine cvI (rest := []) (As := [.int (iI a), .int (iI u)]) (b := g.1 1) C0 hH (c_X2_append l g S a u (by omega)) kw_X6_59 ky_X2_append ⟨Nat.le_of_ble_eq_true rfl, Nat.le_of_ble_eq_true rfl⟩ ⟨Nat.zero_le _, Nat.zero_le _⟩ 1 rfl rfl rfl hl.1 rfl (Nat.le_of_ble_eq_true rfl) dX6_addStar_33 (fun H locs hH => ?_)
    exact retI C0 hret hlk hH (by rfl) (rfl) dX6_addStar_36
  · exact absurd zq14 (by omega)
set_option maxRecDepth 100000 in
set_option maxHeartbeats 4000000 in
theorem x1_X6_addStar (l : Launch) (g : gT) (S : gSt) (a u : Int) (hr_a : -2147483648 ≤ a ∧ a < 2147483648) (hr_u : -2147483648 ≤ u ∧ u < 2147483648) (hbad : ¬((0 ≤ a ∧ a < 360) ∧ (-90 ≤ u ∧ u ≤ 90))) (hfl : l.stackTraces = false) : ThrG l g yX6_addStar cX6_addStar 3 (some .int) 7 106 [.ref (g.1 0), .int (iI a), .int (iI u)] S "java/lang/IllegalArgumentException" S := by
  refine bodyX (by decide +kernel) (Nat.le_of_ble_eq_true rfl) ?_
  intro p e s m args below meth c ls C0 htab hlk hl hH
  have zx := C0.1
  have zb := C0.2.1
  have hl : lv_has ls 3 [(0, .ref (g.1 0)), (1, .int (iI a)), (2, .int (iI u))] := hl
  obtain ⟨H, hHe⟩ : ∃ H : Heap, H = s.heap := ⟨_, rfl⟩
  rw [show (Hp g S s s.heap []) = Hp g S s H [] by rw [hHe]] at hH
  rw [← hHe]
  refine lv_iload_n zx zb dX6_addStar_0 rfl (lv_at hl 1 rfl) ?_
  refine lv_iload_n zx zb dX6_addStar_1 rfl (lv_at hl 2 rfl) ?_
  exact csX (rest := []) (As := [.int (iI a), .int (iI u)]) C0 htab hlk hH (x_X6_needPlace l g S a u (by omega) (by omega) (by omega) hfl) kw_X6_44 ky_X6_needPlace ⟨Nat.le_of_ble_eq_true rfl, Nat.le_of_ble_eq_true rfl⟩ ⟨Nat.le_of_ble_eq_true rfl, Nat.le_of_ble_eq_true rfl⟩ rfl hl.1 rfl (Nat.le_of_ble_eq_true rfl) dX6_addStar_2
set_option maxRecDepth 100000 in
set_option maxHeartbeats 4000000 in
theorem x2_X6_addStar (l : Launch) (g : gT) (S : gSt) (a u : Int) (hpo : (0 ≤ a ∧ a < 360) ∧ (-90 ≤ u ∧ u ≤ 90)) (hn : S 1 0 = 24) (hfl : l.stackTraces = false) : ThrG l g yX6_addStar cX6_addStar 3 (some .int) 6 85 [.ref (g.1 0), .int (iI a), .int (iI u)] S "java/lang/IllegalStateException" S := by
  refine bodyX (by decide +kernel) (Nat.le_of_ble_eq_true rfl) ?_
  intro p e s m args below meth c ls C0 htab hlk hl hH
  have zx := C0.1
  have zb := C0.2.1
  have hl : lv_has ls 3 [(0, .ref (g.1 0)), (1, .int (iI a)), (2, .int (iI u))] := hl
  obtain ⟨H, hHe⟩ : ∃ H : Heap, H = s.heap := ⟨_, rfl⟩
  rw [show (Hp g S s s.heap []) = Hp g S s H [] by rw [hHe]] at hH
  rw [← hHe]
  refine lv_iload_n zx zb dX6_addStar_0 rfl (lv_at hl 1 rfl) ?_
  refine lv_iload_n zx zb dX6_addStar_1 rfl (lv_at hl 2 rfl) ?_
  refine csN (rest := []) (As := [.int (iI a), .int (iI u)]) C0 hH (c_X6_needPlace l g S a u (by omega)) kw_X6_44 ky_X6_needPlace ⟨Nat.le_of_ble_eq_true rfl, Nat.le_of_ble_eq_true rfl⟩ ⟨Nat.zero_le _, Nat.zero_le _⟩ rfl hl.1 rfl (Nat.le_of_ble_eq_true rfl) dX6_addStar_2 (fun H locs hH => ?_)
  refine lv_aload_n zx zb dX6_addStar_5 rfl (lv_at hl 0 rfl) ?_
  refine gf_X6_12 C0 hH dX6_addStar_6 ?_
  refine gf_X6_48 C0 hH dX6_addStar_9 ?_
  refine bi_bip (n := 24) zx zb dX6_addStar_12 (by decide) ?_
  refine bq_lt (tgt := 27) zx zb dX6_addStar_14 (by decide) ⟨by omega, by omega⟩ ⟨by omega, by omega⟩ (fun zq14 => ?_) (fun zq14 => ?_)
  · exact absurd zq14 (by omega)
  · exact thG (text := "there are 24 stars") (names := ["java/lang/RuntimeException", "java/lang/Exception"]) hfl C0 htab hlk hH rfl (by decide +kernel) (by decide +kernel) (gm 259 (by decide +kernel) rfl) (gm 30 (by decide +kernel) rfl) (List.mem_of_getElem? (i := 268) (by decide +kernel)) (atS_ISE C0.2.2.2.2.1) gdS_ISE hl.1 dX6_addStar_17 dX6_addStar_20 dX6_addStar_21 dX6_addStar_23 dX6_addStar_26 (by decide) (Nat.le_of_ble_eq_true rfl) (by decide) (by decide)
set_option maxRecDepth 100000 in
set_option maxHeartbeats 4000000 in
theorem c_X6_correct (l : Launch) (g : gT) (S : gSt) (z a u : Int) (hn1 : 0 ≤ S 1 0 ∧ S 1 0 ≤ 24) (hzo : 0 ≤ z ∧ z < S 1 0) (hpo : (0 ≤ a ∧ a < 360) ∧ (-90 ≤ u ∧ u ≤ 90)) (hh0 : 0 ≤ S 17 0 ∧ S 17 0 < 30) (hh1 : 0 ≤ S 17 1 ∧ S 17 1 ≤ 30) (hN : okN (S 5)) (hE : okE (S 5) (S 6)) (hO : okE (S 5) (S 7)) (hC : okC (S 2) (S 3)) (hG : okG (S 11)) (hP : okP (S 13) (S 14) (S 15) (S 16)) (hsc : 0 ≤ S 12 0 ∧ S 12 0 ≤ 12) : MetG l g yX6_correct cX6_correct 4 (some .int) 7 164 [.ref (g.1 0), .int (iI z), .int (iI a), .int (iI u)] S (some (.int (iI (wrI (mvS (kpS S 0 z 0 (S 2 z) (S 3 z)) z a u))))) (mvS (kpS S 0 z 0 (S 2 z) (S 3 z)) z a u) := by
  refine bodyG (by decide +kernel) (Nat.le_of_ble_eq_true rfl) ?_
  intro p e s m args below meth c ls C0 hret hlk hl hH
  have zx := C0.1
  have zb := C0.2.1
  have hl : lv_has ls 4 [(0, .ref (g.1 0)), (1, .int (iI z)), (2, .int (iI a)), (3, .int (iI u))] := hl
  obtain ⟨H, hHe⟩ : ∃ H : Heap, H = s.heap := ⟨_, rfl⟩
  rw [show (Hp g S s s.heap []) = Hp g S s H [] by rw [hHe]] at hH
  rw [← hHe]
  refine lv_aload_n zx zb dX6_correct_0 rfl (lv_at hl 0 rfl) ?_
  refine lv_iload_n zx zb dX6_correct_1 rfl (lv_at hl 1 rfl) ?_
  refine cvN (rest := []) (As := [.int (iI z)]) (b := g.1 0) C0 hH (c_X6_needStar l g S z (by omega) (by omega)) kw_X6_63 ky_X6_needStar ⟨Nat.le_of_ble_eq_true rfl, Nat.le_of_ble_eq_true rfl⟩ ⟨Nat.zero_le _, Nat.zero_le _⟩ 0 rfl rfl rfl hl.1 rfl (Nat.le_of_ble_eq_true rfl) dX6_correct_2 (fun H locs hH => ?_)
  refine lv_iload_n zx zb dX6_correct_5 rfl (lv_at hl 2 rfl) ?_
  refine lv_iload_n zx zb dX6_correct_6 rfl (lv_at hl 3 rfl) ?_
  refine csN (rest := []) (As := [.int (iI a), .int (iI u)]) C0 hH (c_X6_needPlace l g S a u (by omega)) kw_X6_44 ky_X6_needPlace ⟨Nat.le_of_ble_eq_true rfl, Nat.le_of_ble_eq_true rfl⟩ ⟨Nat.zero_le _, Nat.zero_le _⟩ rfl hl.1 rfl (Nat.le_of_ble_eq_true rfl) dX6_correct_7 (fun H locs hH => ?_)
  refine lv_aload_n zx zb dX6_correct_10 rfl (lv_at hl 0 rfl) ?_
  refine gf_X6_40 C0 hH dX6_correct_11 ?_
  refine bi_const (n := 0) zx zb dX6_correct_14 ?_
  refine lv_iload_n zx zb dX6_correct_15 rfl (lv_at hl 1 rfl) ?_
  refine bi_const (n := 0) zx zb dX6_correct_16 ?_
  refine lv_aload_n zx zb dX6_correct_17 rfl (lv_at hl 0 rfl) ?_
  refine gf_X6_12 C0 hH dX6_correct_18 ?_
  refine gf_X6_67 C0 hH dX6_correct_21 ?_
  refine lv_iload_n zx zb dX6_correct_24 rfl (lv_at hl 1 rfl) ?_
  refine al_2 C0 hH (by omega) (by omega) dX6_correct_25 ?_
  refine lv_aload_n zx zb dX6_correct_26 rfl (lv_at hl 0 rfl) ?_
  refine gf_X6_12 C0 hH dX6_correct_27 ?_
  refine gf_X6_71 C0 hH dX6_correct_30 ?_
  refine lv_iload_n zx zb dX6_correct_33 rfl (lv_at hl 1 rfl) ?_
  refine al_3 C0 hH (by omega) (by omega) dX6_correct_34 ?_
  refine cvN (rest := []) (As := [.int (iI 0), .int (iI z), .int (iI 0), .int (iI (S 2 z)), .int (iI (S 3 z))]) (b := g.1 17) C0 hH (c_X3_keep l g S 0 z 0 (S 2 z) (S 3 z) (by omega) (by omega)) kw_X6_74 ky_X3_keep ⟨Nat.le_of_ble_eq_true rfl, Nat.le_of_ble_eq_true rfl⟩ ⟨Nat.zero_le _, Nat.zero_le _⟩ 17 rfl rfl rfl hl.1 rfl (Nat.le_of_ble_eq_true rfl) dX6_correct_35 (fun H locs hH => ?_)
  refine lv_aload_n zx zb dX6_correct_38 rfl (lv_at hl 0 rfl) ?_
  refine gf_X6_12 C0 hH dX6_correct_39 ?_
  refine lv_iload_n zx zb dX6_correct_42 rfl (lv_at hl 1 rfl) ?_
  refine lv_iload_n zx zb dX6_correct_43 rfl (lv_at hl 2 rfl) ?_
  refine lv_iload_n zx zb dX6_correct_44 rfl (lv_at hl 3 rfl) ?_
  refine cvN (rest := []) (As := [.int (iI z), .int (iI a), .int (iI u)]) (b := g.1 1) C0 hH (c_X2_move l g (kpS S 0 z 0 (S 2 z) (S 3 z)) z a u (by omega)) kw_X6_78 ky_X2_move ⟨Nat.le_of_ble_eq_true rfl, Nat.le_of_ble_eq_true rfl⟩ ⟨Nat.zero_le _, Nat.zero_le _⟩ 1 rfl rfl rfl hl.1 rfl (Nat.le_of_ble_eq_true rfl) dX6_correct_45 (fun H locs hH => ?_)
  refine lv_aload_n zx zb dX6_correct_48 rfl (lv_at hl 0 rfl) ?_
  refine cvI (rest := []) (As := []) (b := g.1 0) C0 hH (c_X6_countWrongShows l g (mvS (kpS S 0 z 0 (S 2 z) (S 3 z)) z a u) (hN) (hE) (hO) (okC_mv (z := z) hC hpo.1 hpo.2) (hG) (hP) (hsc)) kw_X6_82 ky_X6_countWrongShows ⟨Nat.le_of_ble_eq_true rfl, Nat.le_of_ble_eq_true rfl⟩ ⟨Nat.zero_le _, Nat.zero_le _⟩ 0 rfl rfl rfl hl.1 rfl (Nat.le_of_ble_eq_true rfl) dX6_correct_49 (fun H locs hH => ?_)
  exact retI C0 hret hlk hH (by rfl) (rfl) dX6_correct_52
set_option maxRecDepth 100000 in
set_option maxHeartbeats 4000000 in
theorem x1_X6_correct (l : Launch) (g : gT) (S : gSt) (z a u : Int) (hn1 : 0 ≤ S 1 0 ∧ S 1 0 ≤ 24) (hr_z : -2147483648 ≤ z ∧ z < 2147483648) (hr_a : -2147483648 ≤ a ∧ a < 2147483648) (hr_u : -2147483648 ≤ u ∧ u < 2147483648) (hzb : ¬(0 ≤ z ∧ z < S 1 0)) (hfl : l.stackTraces = false) : ThrG l g yX6_correct cX6_correct 4 (some .int) 7 106 [.ref (g.1 0), .int (iI z), .int (iI a), .int (iI u)] S "java/lang/IndexOutOfBoundsException" S := by
  refine bodyX (by decide +kernel) (Nat.le_of_ble_eq_true rfl) ?_
  intro p e s m args below meth c ls C0 htab hlk hl hH
  have zx := C0.1
  have zb := C0.2.1
  have hl : lv_has ls 4 [(0, .ref (g.1 0)), (1, .int (iI z)), (2, .int (iI a)), (3, .int (iI u))] := hl
  obtain ⟨H, hHe⟩ : ∃ H : Heap, H = s.heap := ⟨_, rfl⟩
  rw [show (Hp g S s s.heap []) = Hp g S s H [] by rw [hHe]] at hH
  rw [← hHe]
  refine lv_aload_n zx zb dX6_correct_0 rfl (lv_at hl 0 rfl) ?_
  refine lv_iload_n zx zb dX6_correct_1 rfl (lv_at hl 1 rfl) ?_
  exact cvX (rest := []) (As := [.int (iI z)]) (b := g.1 0) C0 htab hlk hH (x_X6_needStar l g S z (by omega) (by omega) (by omega) hfl) kw_X6_63 ky_X6_needStar ⟨Nat.le_of_ble_eq_true rfl, Nat.le_of_ble_eq_true rfl⟩ ⟨Nat.le_of_ble_eq_true rfl, Nat.le_of_ble_eq_true rfl⟩ 0 rfl rfl rfl hl.1 rfl (Nat.le_of_ble_eq_true rfl) dX6_correct_2
set_option maxRecDepth 100000 in
set_option maxHeartbeats 4000000 in
theorem x2_X6_correct (l : Launch) (g : gT) (S : gSt) (z a u : Int) (hn1 : 0 ≤ S 1 0 ∧ S 1 0 ≤ 24) (hzo : 0 ≤ z ∧ z < S 1 0) (hr_a : -2147483648 ≤ a ∧ a < 2147483648) (hr_u : -2147483648 ≤ u ∧ u < 2147483648) (hbad : ¬((0 ≤ a ∧ a < 360) ∧ (-90 ≤ u ∧ u ≤ 90))) (hfl : l.stackTraces = false) : ThrG l g yX6_correct cX6_correct 4 (some .int) 7 106 [.ref (g.1 0), .int (iI z), .int (iI a), .int (iI u)] S "java/lang/IllegalArgumentException" S := by
  refine bodyX (by decide +kernel) (Nat.le_of_ble_eq_true rfl) ?_
  intro p e s m args below meth c ls C0 htab hlk hl hH
  have zx := C0.1
  have zb := C0.2.1
  have hl : lv_has ls 4 [(0, .ref (g.1 0)), (1, .int (iI z)), (2, .int (iI a)), (3, .int (iI u))] := hl
  obtain ⟨H, hHe⟩ : ∃ H : Heap, H = s.heap := ⟨_, rfl⟩
  rw [show (Hp g S s s.heap []) = Hp g S s H [] by rw [hHe]] at hH
  rw [← hHe]
  refine lv_aload_n zx zb dX6_correct_0 rfl (lv_at hl 0 rfl) ?_
  refine lv_iload_n zx zb dX6_correct_1 rfl (lv_at hl 1 rfl) ?_
  refine cvN (rest := []) (As := [.int (iI z)]) (b := g.1 0) C0 hH (c_X6_needStar l g S z (by omega) (by omega)) kw_X6_63 ky_X6_needStar ⟨Nat.le_of_ble_eq_true rfl, Nat.le_of_ble_eq_true rfl⟩ ⟨Nat.zero_le _, Nat.zero_le _⟩ 0 rfl rfl rfl hl.1 rfl (Nat.le_of_ble_eq_true rfl) dX6_correct_2 (fun H locs hH => ?_)
  refine lv_iload_n zx zb dX6_correct_5 rfl (lv_at hl 2 rfl) ?_
  refine lv_iload_n zx zb dX6_correct_6 rfl (lv_at hl 3 rfl) ?_
  exact csX (rest := []) (As := [.int (iI a), .int (iI u)]) C0 htab hlk hH (x_X6_needPlace l g S a u (by omega) (by omega) (by omega) hfl) kw_X6_44 ky_X6_needPlace ⟨Nat.le_of_ble_eq_true rfl, Nat.le_of_ble_eq_true rfl⟩ ⟨Nat.le_of_ble_eq_true rfl, Nat.le_of_ble_eq_true rfl⟩ rfl hl.1 rfl (Nat.le_of_ble_eq_true rfl) dX6_correct_7
set_option maxRecDepth 100000 in
set_option maxHeartbeats 4000000 in
theorem c_X6_addFigure (l : Launch) (g : gT) (S : gSt) (hn : 0 ≤ S 4 0 ∧ S 4 0 < 8) : MetG l g yX6_addFigure cX6_addFigure 1 (some .int) 1 21 [.ref (g.1 0)] S (some (.int (iI (S 4 0)))) (st S 4 0 (S 4 0 + 1)) := by
  refine bodyG (by decide +kernel) (Nat.le_of_ble_eq_true rfl) ?_
  intro p e s m args below meth c ls C0 hret hlk hl hH
  have zx := C0.1
  have zb := C0.2.1
  have hl : lv_has ls 1 [(0, .ref (g.1 0))] := hl
  obtain ⟨H, hHe⟩ : ∃ H : Heap, H = s.heap := ⟨_, rfl⟩
  rw [show (Hp g S s s.heap []) = Hp g S s H [] by rw [hHe]] at hH
  rw [← hHe]
  refine lv_aload_n zx zb dX6_addFigure_0 rfl (lv_at hl 0 rfl) ?_
  refine gf_X6_19 C0 hH dX6_addFigure_1 ?_
  refine gf_X6_86 C0 hH dX6_addFigure_4 ?_
  refine bi_bip (n := 8) zx zb dX6_addFigure_7 (by decide) ?_
  refine bq_lt (tgt := 22) zx zb dX6_addFigure_9 (by decide) ⟨by omega, by omega⟩ ⟨by omega, by omega⟩ (fun zq9 => ?_) (fun zq9 => ?_)
  · refine lv_aload_n zx zb dX6_addFigure_22 rfl (lv_at hl 0 rfl) ?_
    refine gf_X6_19 C0 hH dX6_addFigure_23 ?_
    refine cvI (rest := []) (As := []) (b := g.1 4) C0 hH (c_X5_appendFigure l g S (by omega)) kw_X6_91 ky_X5_appendFigure ⟨Nat.le_of_ble_eq_true rfl, Nat.le_of_ble_eq_true rfl⟩ ⟨Nat.zero_le _, Nat.zero_le _⟩ 4 rfl rfl rfl hl.1 rfl (Nat.le_of_ble_eq_true rfl) dX6_addFigure_26 (fun H locs hH => ?_)
    exact retI C0 hret hlk hH (by rfl) (rfl) dX6_addFigure_29
  · exact absurd zq9 (by omega)
set_option maxRecDepth 100000 in
set_option maxHeartbeats 4000000 in
theorem x1_X6_addFigure (l : Launch) (g : gT) (S : gSt) (hn : S 4 0 = 8) (hfl : l.stackTraces = false) : ThrG l g yX6_addFigure cX6_addFigure 1 (some .int) 6 85 [.ref (g.1 0)] S "java/lang/IllegalStateException" S := by
  refine bodyX (by decide +kernel) (Nat.le_of_ble_eq_true rfl) ?_
  intro p e s m args below meth c ls C0 htab hlk hl hH
  have zx := C0.1
  have zb := C0.2.1
  have hl : lv_has ls 1 [(0, .ref (g.1 0))] := hl
  obtain ⟨H, hHe⟩ : ∃ H : Heap, H = s.heap := ⟨_, rfl⟩
  rw [show (Hp g S s s.heap []) = Hp g S s H [] by rw [hHe]] at hH
  rw [← hHe]
  refine lv_aload_n zx zb dX6_addFigure_0 rfl (lv_at hl 0 rfl) ?_
  refine gf_X6_19 C0 hH dX6_addFigure_1 ?_
  refine gf_X6_86 C0 hH dX6_addFigure_4 ?_
  refine bi_bip (n := 8) zx zb dX6_addFigure_7 (by decide) ?_
  refine bq_lt (tgt := 22) zx zb dX6_addFigure_9 (by decide) ⟨by omega, by omega⟩ ⟨by omega, by omega⟩ (fun zq9 => ?_) (fun zq9 => ?_)
  · exact absurd zq9 (by omega)
  · exact thG (text := "there are 8 figures") (names := ["java/lang/RuntimeException", "java/lang/Exception"]) hfl C0 htab hlk hH rfl (by decide +kernel) (by decide +kernel) (gm 259 (by decide +kernel) rfl) (gm 30 (by decide +kernel) rfl) (List.mem_of_getElem? (i := 353) (by decide +kernel)) (atS_ISE C0.2.2.2.2.1) gdS_ISE hl.1 dX6_addFigure_12 dX6_addFigure_15 dX6_addFigure_16 dX6_addFigure_18 dX6_addFigure_21 (by decide) (Nat.le_of_ble_eq_true rfl) (by decide) (by decide)
set_option maxRecDepth 100000 in
set_option maxHeartbeats 4000000 in
theorem c_X6_draw (l : Launch) (g : gT) (S : gSt) (f a b : Int) (hn1 : 0 ≤ S 1 0 ∧ S 1 0 ≤ 24) (hnf : 0 ≤ S 4 0 ∧ S 4 0 ≤ 8) (hfo : 0 ≤ f ∧ f < S 4 0) (hao : 0 ≤ a ∧ a < S 1 0) (hbo : 0 ≤ b ∧ b < S 1 0) (hN : okN (S 5)) (hE : okE (S 5) (S 6)) (hO : okE (S 5) (S 7)) (hh0 : 0 ≤ S 17 0 ∧ S 17 0 < 30) (hh1 : 0 ≤ S 17 1 ∧ S 17 1 ≤ 30) (hab : a ≠ b) (h10 : S 5 f < 10) (hj : jnB (S 5) (S 6) (S 7) f a b = false) (hoa : ¬(owI (S 4 0) (S 5) (S 6) (S 7) a ≠ -1 ∧ owI (S 4 0) (S 5) (S 6) (S 7) a ≠ f)) (hob : ¬(owI (S 4 0) (S 5) (S 6) (S 7) b ≠ -1 ∧ owI (S 4 0) (S 5) (S 6) (S 7) b ≠ f)) : MetG l g yX6_draw cX6_draw 5 (some .int) 4 90 [.ref (g.1 0), .int (iI f), .int (iI a), .int (iI b)] S (some (.int (iI (S 5 f)))) (lnIn (kpS S 1 f (S 5 f) a b) 5 6 7 f (S 5 f) a b) := by
  refine bodyG (by decide +kernel) (Nat.le_of_ble_eq_true rfl) ?_
  intro p e s m args below meth c ls C0 hret hlk hl hH
  have zx := C0.1
  have zb := C0.2.1
  have hl : lv_has ls 5 [(0, .ref (g.1 0)), (1, .int (iI f)), (2, .int (iI a)), (3, .int (iI b))] := hl
  obtain ⟨H, hHe⟩ : ∃ H : Heap, H = s.heap := ⟨_, rfl⟩
  rw [show (Hp g S s s.heap []) = Hp g S s H [] by rw [hHe]] at hH
  rw [← hHe]
  refine lv_aload_n zx zb dX6_draw_0 rfl (lv_at hl 0 rfl) ?_
  refine lv_iload_n zx zb dX6_draw_1 rfl (lv_at hl 1 rfl) ?_
  refine cvN (rest := []) (As := [.int (iI f)]) (b := g.1 0) C0 hH (c_X6_needFigure l g S f (by omega) (by omega)) kw_X6_94 ky_X6_needFigure ⟨Nat.le_of_ble_eq_true rfl, Nat.le_of_ble_eq_true rfl⟩ ⟨Nat.zero_le _, Nat.zero_le _⟩ 0 rfl rfl rfl hl.1 rfl (Nat.le_of_ble_eq_true rfl) dX6_draw_2 (fun H locs hH => ?_)
  refine lv_aload_n zx zb dX6_draw_5 rfl (lv_at hl 0 rfl) ?_
  refine lv_iload_n zx zb dX6_draw_6 rfl (lv_at hl 2 rfl) ?_
  refine cvN (rest := []) (As := [.int (iI a)]) (b := g.1 0) C0 hH (c_X6_needStar l g S a (by omega) (by omega)) kw_X6_63 ky_X6_needStar ⟨Nat.le_of_ble_eq_true rfl, Nat.le_of_ble_eq_true rfl⟩ ⟨Nat.zero_le _, Nat.zero_le _⟩ 0 rfl rfl rfl hl.1 rfl (Nat.le_of_ble_eq_true rfl) dX6_draw_7 (fun H locs hH => ?_)
  refine lv_aload_n zx zb dX6_draw_10 rfl (lv_at hl 0 rfl) ?_
  refine lv_iload_n zx zb dX6_draw_11 rfl (lv_at hl 3 rfl) ?_
  refine cvN (rest := []) (As := [.int (iI b)]) (b := g.1 0) C0 hH (c_X6_needStar l g S b (by omega) (by omega)) kw_X6_63 ky_X6_needStar ⟨Nat.le_of_ble_eq_true rfl, Nat.le_of_ble_eq_true rfl⟩ ⟨Nat.zero_le _, Nat.zero_le _⟩ 0 rfl rfl rfl hl.1 rfl (Nat.le_of_ble_eq_true rfl) dX6_draw_12 (fun H locs hH => ?_)
  refine lv_iload_n zx zb dX6_draw_15 rfl (lv_at hl 2 rfl) ?_
  refine lv_iload_n zx zb dX6_draw_16 rfl (lv_at hl 3 rfl) ?_
  refine bq_ne (tgt := 30) zx zb dX6_draw_17 (by decide) ⟨by omega, by omega⟩ ⟨by omega, by omega⟩ (fun zq17 => ?_) (fun zq17 => ?_)
  · refine lv_aload_n zx zb dX6_draw_30 rfl (lv_at hl 0 rfl) ?_
    refine gf_X6_19 C0 hH dX6_draw_31 ?_
    have hn := hN f (by omega) (by omega)
    refine gf_X6_102 C0 hH dX6_draw_34 ?_
    refine lv_iload_n zx zb dX6_draw_37 rfl (lv_at hl 1 rfl) ?_
    refine al_5 C0 hH (by omega) (by omega) dX6_draw_38 ?_
    refine lv_istore (lv' := [(4, .int (iI (S 5 f))), (0, .ref (g.1 0)), (1, .int (iI f)), (2, .int (iI a)), (3, .int (iI b))]) zx zb dX6_draw_39 hl (by decide) rfl (fun ls hl => ?_)
    refine lv_iload zx zb dX6_draw_41 (lv_at hl 0 rfl) ?_
    refine bi_bip (n := 10) zx zb dX6_draw_43 (by decide) ?_
    refine bq_lt (tgt := 58) zx zb dX6_draw_45 (by decide) ⟨by omega, by omega⟩ ⟨by omega, by omega⟩ (fun zq45 => ?_) (fun zq45 => ?_)
    · refine lv_aload_n zx zb dX6_draw_58 rfl (lv_at hl 1 rfl) ?_
      refine gf_X6_19 C0 hH dX6_draw_59 ?_
      refine lv_iload_n zx zb dX6_draw_62 rfl (lv_at hl 2 rfl) ?_
      refine lv_iload_n zx zb dX6_draw_63 rfl (lv_at hl 3 rfl) ?_
      refine lv_iload_n zx zb dX6_draw_64 rfl (lv_at hl 4 rfl) ?_
      refine cvI (rest := []) (As := [.int (iI f), .int (iI a), .int (iI b)]) (b := g.1 4) C0 hH (c_X5_joins l g S f a b (by omega) (by omega) (by omega) (hN) (hE) (hO)) kw_X6_107 ky_X5_joins ⟨Nat.le_of_ble_eq_true rfl, Nat.le_of_ble_eq_true rfl⟩ ⟨Nat.zero_le _, Nat.zero_le _⟩ 4 rfl rfl rfl hl.1 rfl (Nat.le_of_ble_eq_true rfl) dX6_draw_65 (fun H locs hH => ?_)
      rw [hj]
      refine bz_eq (tgt := 81) zx zb dX6_draw_68 (by decide) ⟨by omega, by omega⟩ (fun zq68 => ?_) (fun zq68 => ?_)
      · refine lv_aload_n zx zb dX6_draw_81 rfl (lv_at hl 1 rfl) ?_
        refine gf_X6_19 C0 hH dX6_draw_82 ?_
        refine lv_iload_n zx zb dX6_draw_85 rfl (lv_at hl 2 rfl) ?_
        refine lv_iload_n zx zb dX6_draw_86 rfl (lv_at hl 3 rfl) ?_
        refine cvI (rest := []) (As := [.int (iI f), .int (iI a)]) (b := g.1 4) C0 hH (c_X5_isOfAnother l g S f a (by omega) (by omega) (by omega) (hN) (hE) (hO)) kw_X6_113 ky_X5_isOfAnother ⟨Nat.le_of_ble_eq_true rfl, Nat.le_of_ble_eq_true rfl⟩ ⟨Nat.zero_le _, Nat.zero_le _⟩ 4 rfl rfl rfl hl.1 rfl (Nat.le_of_ble_eq_true rfl) dX6_draw_87 (fun H locs hH => ?_)
        rw [if_neg hoa]
        refine bz_ne (tgt := 105) zx zb dX6_draw_90 (by decide) ⟨by omega, by omega⟩ (fun zq90 => ?_) (fun zq90 => ?_)
        · exact absurd zq90 (by decide)
        · refine lv_aload_n zx zb dX6_draw_93 rfl (lv_at hl 1 rfl) ?_
          refine gf_X6_19 C0 hH dX6_draw_94 ?_
          refine lv_iload_n zx zb dX6_draw_97 rfl (lv_at hl 2 rfl) ?_
          refine lv_iload_n zx zb dX6_draw_98 rfl (lv_at hl 4 rfl) ?_
          refine cvI (rest := []) (As := [.int (iI f), .int (iI b)]) (b := g.1 4) C0 hH (c_X5_isOfAnother l g S f b (by omega) (by omega) (by omega) (hN) (hE) (hO)) kw_X6_113 ky_X5_isOfAnother ⟨Nat.le_of_ble_eq_true rfl, Nat.le_of_ble_eq_true rfl⟩ ⟨Nat.zero_le _, Nat.zero_le _⟩ 4 rfl rfl rfl hl.1 rfl (Nat.le_of_ble_eq_true rfl) dX6_draw_99 (fun H locs hH => ?_)
          rw [if_neg hob]
          refine bz_eq (tgt := 115) zx zb dX6_draw_102 (by decide) ⟨by omega, by omega⟩ (fun zq102 => ?_) (fun zq102 => ?_)
          · refine lv_aload_n zx zb dX6_draw_115 rfl (lv_at hl 1 rfl) ?_
            refine gf_X6_40 C0 hH dX6_draw_116 ?_
            refine bi_const (n := 1) zx zb dX6_draw_119 ?_
            refine lv_iload_n zx zb dX6_draw_120 rfl (lv_at hl 2 rfl) ?_
            refine lv_iload zx zb dX6_draw_121 (lv_at hl 0 rfl) ?_
            refine lv_iload_n zx zb dX6_draw_123 rfl (lv_at hl 3 rfl) ?_
            refine lv_iload_n zx zb dX6_draw_124 rfl (lv_at hl 4 rfl) ?_
            refine cvN (rest := []) (As := [.int (iI 1), .int (iI f), .int (iI (S 5 f)), .int (iI a), .int (iI b)]) (b := g.1 17) C0 hH (c_X3_keep l g S 1 f (S 5 f) a b (by omega) (by omega)) kw_X6_74 ky_X3_keep ⟨Nat.le_of_ble_eq_true rfl, Nat.le_of_ble_eq_true rfl⟩ ⟨Nat.zero_le _, Nat.zero_le _⟩ 17 rfl rfl rfl hl.1 rfl (Nat.le_of_ble_eq_true rfl) dX6_draw_125 (fun H locs hH => ?_)
            refine lv_aload_n zx zb dX6_draw_128 rfl (lv_at hl 1 rfl) ?_
            refine gf_X6_19 C0 hH dX6_draw_129 ?_
            refine lv_iload_n zx zb dX6_draw_132 rfl (lv_at hl 2 rfl) ?_
            refine lv_iload zx zb dX6_draw_133 (lv_at hl 0 rfl) ?_
            refine lv_iload_n zx zb dX6_draw_135 rfl (lv_at hl 3 rfl) ?_
            refine lv_iload_n zx zb dX6_draw_136 rfl (lv_at hl 4 rfl) ?_
            refine cvN (rest := []) (As := [.int (iI f), .int (iI (S 5 f)), .int (iI a), .int (iI b)]) (b := g.1 4) C0 hH (c_X5_insert l g (kpS S 1 f (S 5 f) a b) f (S 5 f) a b (by omega) (by exact ⟨hn.1, Int.le_refl _⟩) (by exact h10)) kw_X6_119 ky_X5_insert ⟨Nat.le_of_ble_eq_true rfl, Nat.le_of_ble_eq_true rfl⟩ ⟨Nat.zero_le _, Nat.zero_le _⟩ 4 rfl rfl rfl hl.1 rfl (Nat.le_of_ble_eq_true rfl) dX6_draw_137 (fun H locs hH => ?_)
            refine lv_iload zx zb dX6_draw_140 (lv_at hl 0 rfl) ?_
            exact retI C0 hret hlk hH (by rfl) (rfl) dX6_draw_142
          · exact absurd zq102 (by decide)
      · exact absurd zq68 (by decide)
    · exact absurd zq45 (by omega)
  · exact absurd zq17 hab
set_option maxRecDepth 100000 in
set_option maxHeartbeats 4000000 in
theorem x1_X6_draw (l : Launch) (g : gT) (S : gSt) (f a b : Int) (hn1 : 0 ≤ S 1 0 ∧ S 1 0 ≤ 24) (hnf : 0 ≤ S 4 0 ∧ S 4 0 ≤ 8) (hr_f : -2147483648 ≤ f ∧ f < 2147483648) (hr_a : -2147483648 ≤ a ∧ a < 2147483648) (hr_b : -2147483648 ≤ b ∧ b < 2147483648) (hbad : ¬((0 ≤ f ∧ f < S 4 0) ∧ (0 ≤ a ∧ a < S 1 0) ∧ (0 ≤ b ∧ b < S 1 0))) (hfl : l.stackTraces = false) : ThrG l g yX6_draw cX6_draw 5 (some .int) 7 106 [.ref (g.1 0), .int (iI f), .int (iI a), .int (iI b)] S "java/lang/IndexOutOfBoundsException" S := by
  refine bodyX (by decide +kernel) (Nat.le_of_ble_eq_true rfl) ?_
  intro p e s m args below meth c ls C0 htab hlk hl hH
  have zx := C0.1
  have zb := C0.2.1
  have hl : lv_has ls 5 [(0, .ref (g.1 0)), (1, .int (iI f)), (2, .int (iI a)), (3, .int (iI b))] := hl
  obtain ⟨H, hHe⟩ : ∃ H : Heap, H = s.heap := ⟨_, rfl⟩
  rw [show (Hp g S s s.heap []) = Hp g S s H [] by rw [hHe]] at hH
  rw [← hHe]
  refine lv_aload_n zx zb dX6_draw_0 rfl (lv_at hl 0 rfl) ?_
  refine lv_iload_n zx zb dX6_draw_1 rfl (lv_at hl 1 rfl) ?_
  by_cases hc2 : 0 ≤ f ∧ f < S 4 0
  · refine cvN (rest := []) (As := [.int (iI f)]) (b := g.1 0) C0 hH (c_X6_needFigure l g S f (by omega) (by omega)) kw_X6_94 ky_X6_needFigure ⟨Nat.le_of_ble_eq_true rfl, Nat.le_of_ble_eq_true rfl⟩ ⟨Nat.zero_le _, Nat.zero_le _⟩ 0 rfl rfl rfl hl.1 rfl (Nat.le_of_ble_eq_true rfl) dX6_draw_2 (fun H locs hH => ?_)
    refine lv_aload_n zx zb dX6_draw_5 rfl (lv_at hl 0 rfl) ?_
    refine lv_iload_n zx zb dX6_draw_6 rfl (lv_at hl 2 rfl) ?_
    by_cases hc7 : 0 ≤ a ∧ a < S 1 0
    · refine cvN (rest := []) (As := [.int (iI a)]) (b := g.1 0) C0 hH (c_X6_needStar l g S a (by omega) (by omega)) kw_X6_63 ky_X6_needStar ⟨Nat.le_of_ble_eq_true rfl, Nat.le_of_ble_eq_true rfl⟩ ⟨Nat.zero_le _, Nat.zero_le _⟩ 0 rfl rfl rfl hl.1 rfl (Nat.le_of_ble_eq_true rfl) dX6_draw_7 (fun H locs hH => ?_)
      refine lv_aload_n zx zb dX6_draw_10 rfl (lv_at hl 0 rfl) ?_
      refine lv_iload_n zx zb dX6_draw_11 rfl (lv_at hl 3 rfl) ?_
      exact cvX (rest := []) (As := [.int (iI b)]) (b := g.1 0) C0 htab hlk hH (x_X6_needStar l g S b (by omega) (by omega) (by omega) hfl) kw_X6_63 ky_X6_needStar ⟨Nat.le_of_ble_eq_true rfl, Nat.le_of_ble_eq_true rfl⟩ ⟨Nat.le_of_ble_eq_true rfl, Nat.le_of_ble_eq_true rfl⟩ 0 rfl rfl rfl hl.1 rfl (Nat.le_of_ble_eq_true rfl) dX6_draw_12
    · exact cvX (rest := []) (As := [.int (iI a)]) (b := g.1 0) C0 htab hlk hH (x_X6_needStar l g S a (by omega) (by omega) (by omega) hfl) kw_X6_63 ky_X6_needStar ⟨Nat.le_of_ble_eq_true rfl, Nat.le_of_ble_eq_true rfl⟩ ⟨Nat.le_of_ble_eq_true rfl, Nat.le_of_ble_eq_true rfl⟩ 0 rfl rfl rfl hl.1 rfl (Nat.le_of_ble_eq_true rfl) dX6_draw_7
  · exact cvX (rest := []) (As := [.int (iI f)]) (b := g.1 0) C0 htab hlk hH (x_X6_needFigure l g S f (by omega) (by omega) (by omega) hfl) kw_X6_94 ky_X6_needFigure ⟨Nat.le_of_ble_eq_true rfl, Nat.le_of_ble_eq_true rfl⟩ ⟨Nat.le_of_ble_eq_true rfl, Nat.le_of_ble_eq_true rfl⟩ 0 rfl rfl rfl hl.1 rfl (Nat.le_of_ble_eq_true rfl) dX6_draw_2
set_option maxRecDepth 100000 in
set_option maxHeartbeats 4000000 in
theorem x2_X6_draw (l : Launch) (g : gT) (S : gSt) (f a b : Int) (hn1 : 0 ≤ S 1 0 ∧ S 1 0 ≤ 24) (hnf : 0 ≤ S 4 0 ∧ S 4 0 ≤ 8) (hfo : 0 ≤ f ∧ f < S 4 0) (hao : 0 ≤ a ∧ a < S 1 0) (hbo : 0 ≤ b ∧ b < S 1 0) (hab : a = b) (hfl : l.stackTraces = false) : ThrG l g yX6_draw cX6_draw 5 (some .int) 6 85 [.ref (g.1 0), .int (iI f), .int (iI a), .int (iI b)] S "java/lang/IllegalArgumentException" S := by
  refine bodyX (by decide +kernel) (Nat.le_of_ble_eq_true rfl) ?_
  intro p e s m args below meth c ls C0 htab hlk hl hH
  have zx := C0.1
  have zb := C0.2.1
  have hl : lv_has ls 5 [(0, .ref (g.1 0)), (1, .int (iI f)), (2, .int (iI a)), (3, .int (iI b))] := hl
  obtain ⟨H, hHe⟩ : ∃ H : Heap, H = s.heap := ⟨_, rfl⟩
  rw [show (Hp g S s s.heap []) = Hp g S s H [] by rw [hHe]] at hH
  rw [← hHe]
  refine lv_aload_n zx zb dX6_draw_0 rfl (lv_at hl 0 rfl) ?_
  refine lv_iload_n zx zb dX6_draw_1 rfl (lv_at hl 1 rfl) ?_
  refine cvN (rest := []) (As := [.int (iI f)]) (b := g.1 0) C0 hH (c_X6_needFigure l g S f (by omega) (by omega)) kw_X6_94 ky_X6_needFigure ⟨Nat.le_of_ble_eq_true rfl, Nat.le_of_ble_eq_true rfl⟩ ⟨Nat.zero_le _, Nat.zero_le _⟩ 0 rfl rfl rfl hl.1 rfl (Nat.le_of_ble_eq_true rfl) dX6_draw_2 (fun H locs hH => ?_)
  refine lv_aload_n zx zb dX6_draw_5 rfl (lv_at hl 0 rfl) ?_
  refine lv_iload_n zx zb dX6_draw_6 rfl (lv_at hl 2 rfl) ?_
  refine cvN (rest := []) (As := [.int (iI a)]) (b := g.1 0) C0 hH (c_X6_needStar l g S a (by omega) (by omega)) kw_X6_63 ky_X6_needStar ⟨Nat.le_of_ble_eq_true rfl, Nat.le_of_ble_eq_true rfl⟩ ⟨Nat.zero_le _, Nat.zero_le _⟩ 0 rfl rfl rfl hl.1 rfl (Nat.le_of_ble_eq_true rfl) dX6_draw_7 (fun H locs hH => ?_)
  refine lv_aload_n zx zb dX6_draw_10 rfl (lv_at hl 0 rfl) ?_
  refine lv_iload_n zx zb dX6_draw_11 rfl (lv_at hl 3 rfl) ?_
  refine cvN (rest := []) (As := [.int (iI b)]) (b := g.1 0) C0 hH (c_X6_needStar l g S b (by omega) (by omega)) kw_X6_63 ky_X6_needStar ⟨Nat.le_of_ble_eq_true rfl, Nat.le_of_ble_eq_true rfl⟩ ⟨Nat.zero_le _, Nat.zero_le _⟩ 0 rfl rfl rfl hl.1 rfl (Nat.le_of_ble_eq_true rfl) dX6_draw_12 (fun H locs hH => ?_)
  refine lv_iload_n zx zb dX6_draw_15 rfl (lv_at hl 2 rfl) ?_
  refine lv_iload_n zx zb dX6_draw_16 rfl (lv_at hl 3 rfl) ?_
  refine bq_ne (tgt := 30) zx zb dX6_draw_17 (by decide) ⟨by omega, by omega⟩ ⟨by omega, by omega⟩ (fun zq17 => ?_) (fun zq17 => ?_)
  · exact absurd hab zq17
  · exact thG (text := "a line joins two stars") (names := ["java/lang/RuntimeException", "java/lang/Exception"]) hfl C0 htab hlk hH rfl (by decide +kernel) (by decide +kernel) (gm 190 (by decide +kernel) rfl) (gm 29 (by decide +kernel) rfl) (List.mem_of_getElem? (i := 509) (by decide +kernel)) (atS_IAE C0.2.2.2.2.1) gdS_IAE hl.1 dX6_draw_20 dX6_draw_23 dX6_draw_24 dX6_draw_26 dX6_draw_29 (by decide) (Nat.le_of_ble_eq_true rfl) (by decide) (by decide)
set_option maxRecDepth 100000 in
set_option maxHeartbeats 4000000 in
theorem x3_X6_draw (l : Launch) (g : gT) (S : gSt) (f a b : Int) (hn1 : 0 ≤ S 1 0 ∧ S 1 0 ≤ 24) (hnf : 0 ≤ S 4 0 ∧ S 4 0 ≤ 8) (hfo : 0 ≤ f ∧ f < S 4 0) (hao : 0 ≤ a ∧ a < S 1 0) (hbo : 0 ≤ b ∧ b < S 1 0) (hN : okN (S 5)) (hE : okE (S 5) (S 6)) (hO : okE (S 5) (S 7)) (hab : a ≠ b) (hbad : ¬(S 5 f < 10 ∧ jnB (S 5) (S 6) (S 7) f a b = false ∧ ¬(owI (S 4 0) (S 5) (S 6) (S 7) a ≠ -1 ∧ owI (S 4 0) (S 5) (S 6) (S 7) a ≠ f) ∧ ¬(owI (S 4 0) (S 5) (S 6) (S 7) b ≠ -1 ∧ owI (S 4 0) (S 5) (S 6) (S 7) b ≠ f))) (hfl : l.stackTraces = false) : ThrG l g yX6_draw cX6_draw 5 (some .int) 6 90 [.ref (g.1 0), .int (iI f), .int (iI a), .int (iI b)] S "java/lang/IllegalStateException" S := by
  refine bodyX (by decide +kernel) (Nat.le_of_ble_eq_true rfl) ?_
  intro p e s m args below meth c ls C0 htab hlk hl hH
  have zx := C0.1
  have zb := C0.2.1
  have hl : lv_has ls 5 [(0, .ref (g.1 0)), (1, .int (iI f)), (2, .int (iI a)), (3, .int (iI b))] := hl
  obtain ⟨H, hHe⟩ : ∃ H : Heap, H = s.heap := ⟨_, rfl⟩
  rw [show (Hp g S s s.heap []) = Hp g S s H [] by rw [hHe]] at hH
  rw [← hHe]
  refine lv_aload_n zx zb dX6_draw_0 rfl (lv_at hl 0 rfl) ?_
  refine lv_iload_n zx zb dX6_draw_1 rfl (lv_at hl 1 rfl) ?_
  refine cvN (rest := []) (As := [.int (iI f)]) (b := g.1 0) C0 hH (c_X6_needFigure l g S f (by omega) (by omega)) kw_X6_94 ky_X6_needFigure ⟨Nat.le_of_ble_eq_true rfl, Nat.le_of_ble_eq_true rfl⟩ ⟨Nat.zero_le _, Nat.zero_le _⟩ 0 rfl rfl rfl hl.1 rfl (Nat.le_of_ble_eq_true rfl) dX6_draw_2 (fun H locs hH => ?_)
  refine lv_aload_n zx zb dX6_draw_5 rfl (lv_at hl 0 rfl) ?_
  refine lv_iload_n zx zb dX6_draw_6 rfl (lv_at hl 2 rfl) ?_
  refine cvN (rest := []) (As := [.int (iI a)]) (b := g.1 0) C0 hH (c_X6_needStar l g S a (by omega) (by omega)) kw_X6_63 ky_X6_needStar ⟨Nat.le_of_ble_eq_true rfl, Nat.le_of_ble_eq_true rfl⟩ ⟨Nat.zero_le _, Nat.zero_le _⟩ 0 rfl rfl rfl hl.1 rfl (Nat.le_of_ble_eq_true rfl) dX6_draw_7 (fun H locs hH => ?_)
  refine lv_aload_n zx zb dX6_draw_10 rfl (lv_at hl 0 rfl) ?_
  refine lv_iload_n zx zb dX6_draw_11 rfl (lv_at hl 3 rfl) ?_
  refine cvN (rest := []) (As := [.int (iI b)]) (b := g.1 0) C0 hH (c_X6_needStar l g S b (by omega) (by omega)) kw_X6_63 ky_X6_needStar ⟨Nat.le_of_ble_eq_true rfl, Nat.le_of_ble_eq_true rfl⟩ ⟨Nat.zero_le _, Nat.zero_le _⟩ 0 rfl rfl rfl hl.1 rfl (Nat.le_of_ble_eq_true rfl) dX6_draw_12 (fun H locs hH => ?_)
  refine lv_iload_n zx zb dX6_draw_15 rfl (lv_at hl 2 rfl) ?_
  refine lv_iload_n zx zb dX6_draw_16 rfl (lv_at hl 3 rfl) ?_
  refine bq_ne (tgt := 30) zx zb dX6_draw_17 (by decide) ⟨by omega, by omega⟩ ⟨by omega, by omega⟩ (fun zq17 => ?_) (fun zq17 => ?_)
  · refine lv_aload_n zx zb dX6_draw_30 rfl (lv_at hl 0 rfl) ?_
    refine gf_X6_19 C0 hH dX6_draw_31 ?_
    have hn := hN f (by omega) (by omega)
    refine gf_X6_102 C0 hH dX6_draw_34 ?_
    refine lv_iload_n zx zb dX6_draw_37 rfl (lv_at hl 1 rfl) ?_
    refine al_5 C0 hH (by omega) (by omega) dX6_draw_38 ?_
    refine lv_istore (lv' := [(4, .int (iI (S 5 f))), (0, .ref (g.1 0)), (1, .int (iI f)), (2, .int (iI a)), (3, .int (iI b))]) zx zb dX6_draw_39 hl (by decide) rfl (fun ls hl => ?_)
    refine lv_iload zx zb dX6_draw_41 (lv_at hl 0 rfl) ?_
    refine bi_bip (n := 10) zx zb dX6_draw_43 (by decide) ?_
    refine bq_lt (tgt := 58) zx zb dX6_draw_45 (by decide) ⟨by omega, by omega⟩ ⟨by omega, by omega⟩ (fun zq45 => ?_) (fun zq45 => ?_)
    · refine lv_aload_n zx zb dX6_draw_58 rfl (lv_at hl 1 rfl) ?_
      refine gf_X6_19 C0 hH dX6_draw_59 ?_
      refine lv_iload_n zx zb dX6_draw_62 rfl (lv_at hl 2 rfl) ?_
      refine lv_iload_n zx zb dX6_draw_63 rfl (lv_at hl 3 rfl) ?_
      refine lv_iload_n zx zb dX6_draw_64 rfl (lv_at hl 4 rfl) ?_
      refine cvI (rest := []) (As := [.int (iI f), .int (iI a), .int (iI b)]) (b := g.1 4) C0 hH (c_X5_joins l g S f a b (by omega) (by omega) (by omega) (hN) (hE) (hO)) kw_X6_107 ky_X5_joins ⟨Nat.le_of_ble_eq_true rfl, Nat.le_of_ble_eq_true rfl⟩ ⟨Nat.zero_le _, Nat.zero_le _⟩ 4 rfl rfl rfl hl.1 rfl (Nat.le_of_ble_eq_true rfl) dX6_draw_65 (fun H locs hH => ?_)
      have hb68 := brg (jnB (S 5) (S 6) (S 7) f a b)
      refine bz_eq (tgt := 81) zx zb dX6_draw_68 (by decide) ⟨by omega, by omega⟩ (fun zq68 => ?_) (fun zq68 => ?_)
      · refine lv_aload_n zx zb dX6_draw_81 rfl (lv_at hl 1 rfl) ?_
        refine gf_X6_19 C0 hH dX6_draw_82 ?_
        refine lv_iload_n zx zb dX6_draw_85 rfl (lv_at hl 2 rfl) ?_
        refine lv_iload_n zx zb dX6_draw_86 rfl (lv_at hl 3 rfl) ?_
        refine cvI (rest := []) (As := [.int (iI f), .int (iI a)]) (b := g.1 4) C0 hH (c_X5_isOfAnother l g S f a (by omega) (by omega) (by omega) (hN) (hE) (hO)) kw_X6_113 ky_X5_isOfAnother ⟨Nat.le_of_ble_eq_true rfl, Nat.le_of_ble_eq_true rfl⟩ ⟨Nat.zero_le _, Nat.zero_le _⟩ 4 rfl rfl rfl hl.1 rfl (Nat.le_of_ble_eq_true rfl) dX6_draw_87 (fun H locs hH => ?_)
        have hb90 := prg (owI (S 4 0) (S 5) (S 6) (S 7) a ≠ -1 ∧ owI (S 4 0) (S 5) (S 6) (S 7) a ≠ f)
        refine bz_ne (tgt := 105) zx zb dX6_draw_90 (by decide) ⟨by omega, by omega⟩ (fun zq90 => ?_) (fun zq90 => ?_)
        · exact thG (text := "one of them is a star of another figure") (names := ["java/lang/RuntimeException", "java/lang/Exception"]) hfl C0 htab hlk hH rfl (by decide +kernel) (by decide +kernel) (gm 259 (by decide +kernel) rfl) (gm 30 (by decide +kernel) rfl) (List.mem_of_getElem? (i := 521) (by decide +kernel)) (atS_ISE C0.2.2.2.2.1) gdS_ISE hl.1 dX6_draw_105 dX6_draw_108 dX6_draw_109 dX6_draw_111 dX6_draw_114 (by decide) (Nat.le_of_ble_eq_true rfl) (by decide) (by decide)
        · refine lv_aload_n zx zb dX6_draw_93 rfl (lv_at hl 1 rfl) ?_
          refine gf_X6_19 C0 hH dX6_draw_94 ?_
          refine lv_iload_n zx zb dX6_draw_97 rfl (lv_at hl 2 rfl) ?_
          refine lv_iload_n zx zb dX6_draw_98 rfl (lv_at hl 4 rfl) ?_
          refine cvI (rest := []) (As := [.int (iI f), .int (iI b)]) (b := g.1 4) C0 hH (c_X5_isOfAnother l g S f b (by omega) (by omega) (by omega) (hN) (hE) (hO)) kw_X6_113 ky_X5_isOfAnother ⟨Nat.le_of_ble_eq_true rfl, Nat.le_of_ble_eq_true rfl⟩ ⟨Nat.zero_le _, Nat.zero_le _⟩ 4 rfl rfl rfl hl.1 rfl (Nat.le_of_ble_eq_true rfl) dX6_draw_99 (fun H locs hH => ?_)
          have hb102 := prg (owI (S 4 0) (S 5) (S 6) (S 7) b ≠ -1 ∧ owI (S 4 0) (S 5) (S 6) (S 7) b ≠ f)
          refine bz_eq (tgt := 115) zx zb dX6_draw_102 (by decide) ⟨by omega, by omega⟩ (fun zq102 => ?_) (fun zq102 => ?_)
          · exact absurd ⟨zq45, b0 zq68, p0 zq90, p0 zq102⟩ hbad
          · exact thG (text := "one of them is a star of another figure") (names := ["java/lang/RuntimeException", "java/lang/Exception"]) hfl C0 htab hlk hH rfl (by decide +kernel) (by decide +kernel) (gm 259 (by decide +kernel) rfl) (gm 30 (by decide +kernel) rfl) (List.mem_of_getElem? (i := 521) (by decide +kernel)) (atS_ISE C0.2.2.2.2.1) gdS_ISE hl.1 dX6_draw_105 dX6_draw_108 dX6_draw_109 dX6_draw_111 dX6_draw_114 (by decide) (Nat.le_of_ble_eq_true rfl) (by decide) (by decide)
      · exact thG (text := "the figure has a line that joins these stars") (names := ["java/lang/RuntimeException", "java/lang/Exception"]) hfl C0 htab hlk hH rfl (by decide +kernel) (by decide +kernel) (gm 259 (by decide +kernel) rfl) (gm 30 (by decide +kernel) rfl) (List.mem_of_getElem? (i := 515) (by decide +kernel)) (atS_ISE C0.2.2.2.2.1) gdS_ISE hl.1 dX6_draw_71 dX6_draw_74 dX6_draw_75 dX6_draw_77 dX6_draw_80 (by decide) (Nat.le_of_ble_eq_true rfl) (by decide) (by decide)
    · exact thG (text := "the figure has 10 lines") (names := ["java/lang/RuntimeException", "java/lang/Exception"]) hfl C0 htab hlk hH rfl (by decide +kernel) (by decide +kernel) (gm 259 (by decide +kernel) rfl) (gm 30 (by decide +kernel) rfl) (List.mem_of_getElem? (i := 510) (by decide +kernel)) (atS_ISE C0.2.2.2.2.1) gdS_ISE hl.1 dX6_draw_48 dX6_draw_51 dX6_draw_52 dX6_draw_54 dX6_draw_57 (by decide) (Nat.le_of_ble_eq_true rfl) (by decide) (by decide)
  · exact absurd zq17 hab
set_option maxRecDepth 100000 in
set_option maxHeartbeats 4000000 in
theorem c_X6_erase (l : Launch) (g : gT) (S : gSt) (f k : Int) (hnf : 0 ≤ S 4 0 ∧ S 4 0 ≤ 8) (hfo : 0 ≤ f ∧ f < S 4 0) (hko : 0 ≤ k ∧ k < S 5 f) (hh0 : 0 ≤ S 17 0 ∧ S 17 0 < 30) (hh1 : 0 ≤ S 17 1 ∧ S 17 1 ≤ 30) (hN : okN (S 5)) : MetG l g yX6_erase cX6_erase 4 (some .int) 2 46 [.ref (g.1 0), .int (iI f), .int (iI k)] S (some (.int (iI (S 5 f - 1)))) (lnOut (kpS S 2 f k (S 6 (10 * f + k)) (S 7 (10 * f + k))) 5 6 7 f k) := by
  refine bodyG (by decide +kernel) (Nat.le_of_ble_eq_true rfl) ?_
  intro p e s m args below meth c ls C0 hret hlk hl hH
  have zx := C0.1
  have zb := C0.2.1
  have hl : lv_has ls 4 [(0, .ref (g.1 0)), (1, .int (iI f)), (2, .int (iI k))] := hl
  obtain ⟨H, hHe⟩ : ∃ H : Heap, H = s.heap := ⟨_, rfl⟩
  rw [show (Hp g S s s.heap []) = Hp g S s H [] by rw [hHe]] at hH
  rw [← hHe]
  have hn := hN f (by omega) (by omega)
  refine lv_aload_n zx zb dX6_erase_0 rfl (lv_at hl 0 rfl) ?_
  refine lv_iload_n zx zb dX6_erase_1 rfl (lv_at hl 1 rfl) ?_
  refine cvN (rest := []) (As := [.int (iI f)]) (b := g.1 0) C0 hH (c_X6_needFigure l g S f (by omega) (by omega)) kw_X6_94 ky_X6_needFigure ⟨Nat.le_of_ble_eq_true rfl, Nat.le_of_ble_eq_true rfl⟩ ⟨Nat.zero_le _, Nat.zero_le _⟩ 0 rfl rfl rfl hl.1 rfl (Nat.le_of_ble_eq_true rfl) dX6_erase_2 (fun H locs hH => ?_)
  refine lv_iload_n zx zb dX6_erase_5 rfl (lv_at hl 2 rfl) ?_
  refine bz_lt (tgt := 22) zx zb dX6_erase_6 (by decide) ⟨by omega, by omega⟩ (fun zq6 => ?_) (fun zq6 => ?_)
  · exact absurd zq6 (by omega)
  · refine lv_iload_n zx zb dX6_erase_9 rfl (lv_at hl 2 rfl) ?_
    refine lv_aload_n zx zb dX6_erase_10 rfl (lv_at hl 0 rfl) ?_
    refine gf_X6_19 C0 hH dX6_erase_11 ?_
    refine gf_X6_102 C0 hH dX6_erase_14 ?_
    refine lv_iload_n zx zb dX6_erase_17 rfl (lv_at hl 1 rfl) ?_
    refine al_5 C0 hH (by omega) (by omega) dX6_erase_18 ?_
    refine bq_lt (tgt := 32) zx zb dX6_erase_19 (by decide) ⟨by omega, by omega⟩ ⟨by omega, by omega⟩ (fun zq19 => ?_) (fun zq19 => ?_)
    · refine lv_iload_n zx zb dX6_erase_32 rfl (lv_at hl 1 rfl) ?_
      refine lv_iload_n zx zb dX6_erase_33 rfl (lv_at hl 2 rfl) ?_
      refine csI (rest := []) (As := [.int (iI f), .int (iI k)]) C0 hH (c_X5_place l g S f k) kw_X6_128 ky_X5_place ⟨Nat.le_of_ble_eq_true rfl, Nat.le_of_ble_eq_true rfl⟩ ⟨Nat.zero_le _, Nat.zero_le _⟩ rfl hl.1 rfl (Nat.le_of_ble_eq_true rfl) dX6_erase_34 (fun H locs hH => ?_)
      refine lv_istore_n (lv' := [(3, .int (iI (10 * f + k))), (0, .ref (g.1 0)), (1, .int (iI f)), (2, .int (iI k))]) zx zb dX6_erase_37 rfl hl (by decide) rfl (fun ls hl => ?_)
      refine lv_aload_n zx zb dX6_erase_38 rfl (lv_at hl 1 rfl) ?_
      refine gf_X6_40 C0 hH dX6_erase_39 ?_
      refine bi_const (n := 2) zx zb dX6_erase_42 ?_
      refine lv_iload_n zx zb dX6_erase_43 rfl (lv_at hl 2 rfl) ?_
      refine lv_iload_n zx zb dX6_erase_44 rfl (lv_at hl 3 rfl) ?_
      refine lv_aload_n zx zb dX6_erase_45 rfl (lv_at hl 1 rfl) ?_
      refine gf_X6_19 C0 hH dX6_erase_46 ?_
      refine gf_X6_131 C0 hH dX6_erase_49 ?_
      refine lv_iload_n zx zb dX6_erase_52 rfl (lv_at hl 0 rfl) ?_
      refine al_6 C0 hH (by omega) (by omega) dX6_erase_53 ?_
      refine lv_aload_n zx zb dX6_erase_54 rfl (lv_at hl 1 rfl) ?_
      refine gf_X6_19 C0 hH dX6_erase_55 ?_
      refine gf_X6_134 C0 hH dX6_erase_58 ?_
      refine lv_iload_n zx zb dX6_erase_61 rfl (lv_at hl 0 rfl) ?_
      refine al_7 C0 hH (by omega) (by omega) dX6_erase_62 ?_
      refine cvN (rest := []) (As := [.int (iI 2), .int (iI f), .int (iI k), .int (iI (S 6 (10 * f + k))), .int (iI (S 7 (10 * f + k)))]) (b := g.1 17) C0 hH (c_X3_keep l g S 2 f k (S 6 (10 * f + k)) (S 7 (10 * f + k)) (by omega) (by omega)) kw_X6_74 ky_X3_keep ⟨Nat.le_of_ble_eq_true rfl, Nat.le_of_ble_eq_true rfl⟩ ⟨Nat.zero_le _, Nat.zero_le _⟩ 17 rfl rfl rfl hl.1 rfl (Nat.le_of_ble_eq_true rfl) dX6_erase_63 (fun H locs hH => ?_)
      refine lv_aload_n zx zb dX6_erase_66 rfl (lv_at hl 1 rfl) ?_
      refine gf_X6_19 C0 hH dX6_erase_67 ?_
      refine lv_iload_n zx zb dX6_erase_70 rfl (lv_at hl 2 rfl) ?_
      refine lv_iload_n zx zb dX6_erase_71 rfl (lv_at hl 3 rfl) ?_
      refine cvN (rest := []) (As := [.int (iI f), .int (iI k)]) (b := g.1 4) C0 hH (c_X5_remove l g (kpS S 2 f k (S 6 (10 * f + k)) (S 7 (10 * f + k))) f k (by omega) (by exact hko) (by exact hn.2)) kw_X6_137 ky_X5_remove ⟨Nat.le_of_ble_eq_true rfl, Nat.le_of_ble_eq_true rfl⟩ ⟨Nat.zero_le _, Nat.zero_le _⟩ 4 rfl rfl rfl hl.1 rfl (Nat.le_of_ble_eq_true rfl) dX6_erase_72 (fun H locs hH => ?_)
      refine lv_aload_n zx zb dX6_erase_75 rfl (lv_at hl 1 rfl) ?_
      refine gf_X6_19 C0 hH dX6_erase_76 ?_
      refine gf_X6_102 C0 hH dX6_erase_79 ?_
      refine lv_iload_n zx zb dX6_erase_82 rfl (lv_at hl 2 rfl) ?_
      refine al_5 C0 hH (by omega) (by omega) dX6_erase_83 ?_
      show W p l e _ s m args below meth c H _ _ _ _ (F0 m 84 ls [.int (iI ((lnOut (kpS S 2 f k (S 6 (10 * f + k)) (S 7 (10 * f + k))) 5 6 7 f k) 5 f))])
      exact retI C0 hret hlk hH (by unfold lnOut; exact ud_s _ _ _) (rfl) dX6_erase_84
    · exact absurd zq19 (by omega)
set_option maxRecDepth 100000 in
set_option maxHeartbeats 4000000 in
theorem x1_X6_erase (l : Launch) (g : gT) (S : gSt) (f k : Int) (hnf : 0 ≤ S 4 0 ∧ S 4 0 ≤ 8) (hr_f : -2147483648 ≤ f ∧ f < 2147483648) (hr_k : -2147483648 ≤ k ∧ k < 2147483648) (hbad : ¬((0 ≤ f ∧ f < S 4 0) ∧ (0 ≤ k ∧ k < S 5 f))) (hN : okN (S 5)) (hfl : l.stackTraces = false) : ThrG l g yX6_erase cX6_erase 4 (some .int) 7 106 [.ref (g.1 0), .int (iI f), .int (iI k)] S "java/lang/IndexOutOfBoundsException" S := by
  refine bodyX (by decide +kernel) (Nat.le_of_ble_eq_true rfl) ?_
  intro p e s m args below meth c ls C0 htab hlk hl hH
  have zx := C0.1
  have zb := C0.2.1
  have hl : lv_has ls 4 [(0, .ref (g.1 0)), (1, .int (iI f)), (2, .int (iI k))] := hl
  obtain ⟨H, hHe⟩ : ∃ H : Heap, H = s.heap := ⟨_, rfl⟩
  rw [show (Hp g S s s.heap []) = Hp g S s H [] by rw [hHe]] at hH
  rw [← hHe]
  refine lv_aload_n zx zb dX6_erase_0 rfl (lv_at hl 0 rfl) ?_
  refine lv_iload_n zx zb dX6_erase_1 rfl (lv_at hl 1 rfl) ?_
  by_cases hc2 : 0 ≤ f ∧ f < S 4 0
  · refine cvN (rest := []) (As := [.int (iI f)]) (b := g.1 0) C0 hH (c_X6_needFigure l g S f (by omega) (by omega)) kw_X6_94 ky_X6_needFigure ⟨Nat.le_of_ble_eq_true rfl, Nat.le_of_ble_eq_true rfl⟩ ⟨Nat.zero_le _, Nat.zero_le _⟩ 0 rfl rfl rfl hl.1 rfl (Nat.le_of_ble_eq_true rfl) dX6_erase_2 (fun H locs hH => ?_)
    have hn := hN f (by omega) (by omega)
    refine lv_iload_n zx zb dX6_erase_5 rfl (lv_at hl 2 rfl) ?_
    refine bz_lt (tgt := 22) zx zb dX6_erase_6 (by decide) ⟨by omega, by omega⟩ (fun zq6 => ?_) (fun zq6 => ?_)
    · exact thG (text := "no such line") (names := ["java/lang/RuntimeException", "java/lang/Exception"]) hfl C0 htab hlk hH rfl (by decide +kernel) (by decide +kernel) (gm 291 (by decide +kernel) rfl) (gm 31 (by decide +kernel) rfl) (List.mem_of_getElem? (i := 367) (by decide +kernel)) (atS_IOE C0.2.2.2.2.1) gdS_IOE hl.1 dX6_erase_22 dX6_erase_25 dX6_erase_26 dX6_erase_28 dX6_erase_31 (by decide) (Nat.le_of_ble_eq_true rfl) (by decide) (by decide)
    · refine lv_iload_n zx zb dX6_erase_9 rfl (lv_at hl 2 rfl) ?_
      refine lv_aload_n zx zb dX6_erase_10 rfl (lv_at hl 0 rfl) ?_
      refine gf_X6_19 C0 hH dX6_erase_11 ?_
      refine gf_X6_102 C0 hH dX6_erase_14 ?_
      refine lv_iload_n zx zb dX6_erase_17 rfl (lv_at hl 1 rfl) ?_
      refine al_5 C0 hH (by omega) (by omega) dX6_erase_18 ?_
      refine bq_lt (tgt := 32) zx zb dX6_erase_19 (by decide) ⟨by omega, by omega⟩ ⟨by omega, by omega⟩ (fun zq19 => ?_) (fun zq19 => ?_)
      · exact absurd zq19 (by omega)
      · exact thG (text := "no such line") (names := ["java/lang/RuntimeException", "java/lang/Exception"]) hfl C0 htab hlk hH rfl (by decide +kernel) (by decide +kernel) (gm 291 (by decide +kernel) rfl) (gm 31 (by decide +kernel) rfl) (List.mem_of_getElem? (i := 367) (by decide +kernel)) (atS_IOE C0.2.2.2.2.1) gdS_IOE hl.1 dX6_erase_22 dX6_erase_25 dX6_erase_26 dX6_erase_28 dX6_erase_31 (by decide) (Nat.le_of_ble_eq_true rfl) (by decide) (by decide)
  · exact cvX (rest := []) (As := [.int (iI f)]) (b := g.1 0) C0 htab hlk hH (x_X6_needFigure l g S f (by omega) (by omega) (by omega) hfl) kw_X6_94 ky_X6_needFigure ⟨Nat.le_of_ble_eq_true rfl, Nat.le_of_ble_eq_true rfl⟩ ⟨Nat.le_of_ble_eq_true rfl, Nat.le_of_ble_eq_true rfl⟩ 0 rfl rfl rfl hl.1 rfl (Nat.le_of_ble_eq_true rfl) dX6_erase_2
set_option maxRecDepth 100000 in
set_option maxHeartbeats 4000000 in
theorem c0_X6_takeBack (l : Launch) (g : gT) (S : gSt) (i : Int) (hi : 0 ≤ i ∧ i < 30) (hk : S 18 i = 0) (hz : 0 ≤ S 19 i ∧ S 19 i < 24) : MetG l g yX6_takeBack cX6_takeBack 6 none 1 23 [.ref (g.1 0), .int (iI i)] S none (mvS S (S 19 i) (S 21 i) (S 22 i)) := by
  refine bodyG (by decide +kernel) (Nat.le_of_ble_eq_true rfl) ?_
  intro p e s m args below meth c ls C0 hret hlk hl hH
  have zx := C0.1
  have zb := C0.2.1
  have hl : lv_has ls 6 [(0, .ref (g.1 0)), (1, .int (iI i))] := hl
  obtain ⟨H, hHe⟩ : ∃ H : Heap, H = s.heap := ⟨_, rfl⟩
  rw [show (Hp g S s s.heap []) = Hp g S s H [] by rw [hHe]] at hH
  rw [← hHe]
  refine lv_aload_n zx zb dX6_takeBack_0 rfl (lv_at hl 0 rfl) ?_
  refine gf_X6_40 C0 hH dX6_takeBack_1 ?_
  refine gf_X6_235 C0 hH dX6_takeBack_4 ?_
  refine lv_iload_n zx zb dX6_takeBack_7 rfl (lv_at hl 1 rfl) ?_
  refine al_19 C0 hH (by omega) (by omega) dX6_takeBack_8 ?_
  refine lv_istore_n (lv' := [(2, .int (iI (S 19 i))), (0, .ref (g.1 0)), (1, .int (iI i))]) zx zb dX6_takeBack_9 rfl hl (by decide) rfl (fun ls hl => ?_)
  refine lv_aload_n zx zb dX6_takeBack_10 rfl (lv_at hl 1 rfl) ?_
  refine gf_X6_40 C0 hH dX6_takeBack_11 ?_
  refine gf_X6_238 C0 hH dX6_takeBack_14 ?_
  refine lv_iload_n zx zb dX6_takeBack_17 rfl (lv_at hl 2 rfl) ?_
  refine al_20 C0 hH (by omega) (by omega) dX6_takeBack_18 ?_
  refine lv_istore_n (lv' := [(3, .int (iI (S 20 i))), (2, .int (iI (S 19 i))), (0, .ref (g.1 0)), (1, .int (iI i))]) zx zb dX6_takeBack_19 rfl hl (by decide) rfl (fun ls hl => ?_)
  refine lv_aload_n zx zb dX6_takeBack_20 rfl (lv_at hl 2 rfl) ?_
  refine gf_X6_40 C0 hH dX6_takeBack_21 ?_
  refine gf_X6_241 C0 hH dX6_takeBack_24 ?_
  refine lv_iload_n zx zb dX6_takeBack_27 rfl (lv_at hl 3 rfl) ?_
  refine al_21 C0 hH (by omega) (by omega) dX6_takeBack_28 ?_
  refine lv_istore (lv' := [(4, .int (iI (S 21 i))), (3, .int (iI (S 20 i))), (2, .int (iI (S 19 i))), (0, .ref (g.1 0)), (1, .int (iI i))]) zx zb dX6_takeBack_29 hl (by decide) rfl (fun ls hl => ?_)
  refine lv_aload_n zx zb dX6_takeBack_31 rfl (lv_at hl 3 rfl) ?_
  refine gf_X6_40 C0 hH dX6_takeBack_32 ?_
  refine gf_X6_244 C0 hH dX6_takeBack_35 ?_
  refine lv_iload_n zx zb dX6_takeBack_38 rfl (lv_at hl 4 rfl) ?_
  refine al_22 C0 hH (by omega) (by omega) dX6_takeBack_39 ?_
  refine lv_istore (lv' := [(5, .int (iI (S 22 i))), (4, .int (iI (S 21 i))), (3, .int (iI (S 20 i))), (2, .int (iI (S 19 i))), (0, .ref (g.1 0)), (1, .int (iI i))]) zx zb dX6_takeBack_40 hl (by decide) rfl (fun ls hl => ?_)
  refine lv_aload_n zx zb dX6_takeBack_42 rfl (lv_at hl 4 rfl) ?_
  refine gf_X6_40 C0 hH dX6_takeBack_43 ?_
  refine gf_X6_247 C0 hH dX6_takeBack_46 ?_
  refine lv_iload_n zx zb dX6_takeBack_49 rfl (lv_at hl 5 rfl) ?_
  refine al_18 C0 hH (by omega) (by omega) dX6_takeBack_50 ?_
  refine lv_tableIn (off := 25) (tgt := 76) zx zb dX6_takeBack_51 (by rw [hk, iI_t ⟨by decide, by decide⟩]; decide) (by rw [hk, iI_t ⟨by decide, by decide⟩]; decide) (by rw [hk, iI_t ⟨by decide, by decide⟩]; rfl) (by decide) ?_
  refine lv_aload_n zx zb dX6_takeBack_76 rfl (lv_at hl 4 rfl) ?_
  refine gf_X6_12 C0 hH dX6_takeBack_77 ?_
  refine lv_iload_n zx zb dX6_takeBack_80 rfl (lv_at hl 3 rfl) ?_
  refine lv_iload zx zb dX6_takeBack_81 (lv_at hl 1 rfl) ?_
  refine lv_iload zx zb dX6_takeBack_83 (lv_at hl 0 rfl) ?_
  refine cvN (rest := []) (As := [.int (iI (S 19 i)), .int (iI (S 21 i)), .int (iI (S 22 i))]) (b := g.1 1) C0 hH (c_X2_move l g S (S 19 i) (S 21 i) (S 22 i) (by omega)) kw_X6_78 ky_X2_move ⟨Nat.le_of_ble_eq_true rfl, Nat.le_of_ble_eq_true rfl⟩ ⟨Nat.zero_le _, Nat.zero_le _⟩ 1 rfl rfl rfl hl.1 rfl (Nat.le_of_ble_eq_true rfl) dX6_takeBack_85 (fun H locs hH => ?_)
  refine lv_goto (tgt := 119) zx zb dX6_takeBack_88 (by decide) ?_
  exact retV C0 hret hlk hH (rfl) dX6_takeBack_119
set_option maxRecDepth 100000 in
set_option maxHeartbeats 4000000 in
theorem c1_X6_takeBack (l : Launch) (g : gT) (S : gSt) (i : Int) (hi : 0 ≤ i ∧ i < 30) (hk : S 18 i = 1) (hz : 0 ≤ S 19 i ∧ S 19 i < 8) (hl0 : 0 ≤ S 20 i ∧ S 20 i < S 5 (S 19 i)) (hc : S 5 (S 19 i) ≤ 10) : MetG l g yX6_takeBack cX6_takeBack 6 none 2 45 [.ref (g.1 0), .int (iI i)] S none (lnOut S 5 6 7 (S 19 i) (S 20 i)) := by
  refine bodyG (by decide +kernel) (Nat.le_of_ble_eq_true rfl) ?_
  intro p e s m args below meth c ls C0 hret hlk hl hH
  have zx := C0.1
  have zb := C0.2.1
  have hl : lv_has ls 6 [(0, .ref (g.1 0)), (1, .int (iI i))] := hl
  obtain ⟨H, hHe⟩ : ∃ H : Heap, H = s.heap := ⟨_, rfl⟩
  rw [show (Hp g S s s.heap []) = Hp g S s H [] by rw [hHe]] at hH
  rw [← hHe]
  refine lv_aload_n zx zb dX6_takeBack_0 rfl (lv_at hl 0 rfl) ?_
  refine gf_X6_40 C0 hH dX6_takeBack_1 ?_
  refine gf_X6_235 C0 hH dX6_takeBack_4 ?_
  refine lv_iload_n zx zb dX6_takeBack_7 rfl (lv_at hl 1 rfl) ?_
  refine al_19 C0 hH (by omega) (by omega) dX6_takeBack_8 ?_
  refine lv_istore_n (lv' := [(2, .int (iI (S 19 i))), (0, .ref (g.1 0)), (1, .int (iI i))]) zx zb dX6_takeBack_9 rfl hl (by decide) rfl (fun ls hl => ?_)
  refine lv_aload_n zx zb dX6_takeBack_10 rfl (lv_at hl 1 rfl) ?_
  refine gf_X6_40 C0 hH dX6_takeBack_11 ?_
  refine gf_X6_238 C0 hH dX6_takeBack_14 ?_
  refine lv_iload_n zx zb dX6_takeBack_17 rfl (lv_at hl 2 rfl) ?_
  refine al_20 C0 hH (by omega) (by omega) dX6_takeBack_18 ?_
  refine lv_istore_n (lv' := [(3, .int (iI (S 20 i))), (2, .int (iI (S 19 i))), (0, .ref (g.1 0)), (1, .int (iI i))]) zx zb dX6_takeBack_19 rfl hl (by decide) rfl (fun ls hl => ?_)
  refine lv_aload_n zx zb dX6_takeBack_20 rfl (lv_at hl 2 rfl) ?_
  refine gf_X6_40 C0 hH dX6_takeBack_21 ?_
  refine gf_X6_241 C0 hH dX6_takeBack_24 ?_
  refine lv_iload_n zx zb dX6_takeBack_27 rfl (lv_at hl 3 rfl) ?_
  refine al_21 C0 hH (by omega) (by omega) dX6_takeBack_28 ?_
  refine lv_istore (lv' := [(4, .int (iI (S 21 i))), (3, .int (iI (S 20 i))), (2, .int (iI (S 19 i))), (0, .ref (g.1 0)), (1, .int (iI i))]) zx zb dX6_takeBack_29 hl (by decide) rfl (fun ls hl => ?_)
  refine lv_aload_n zx zb dX6_takeBack_31 rfl (lv_at hl 3 rfl) ?_
  refine gf_X6_40 C0 hH dX6_takeBack_32 ?_
  refine gf_X6_244 C0 hH dX6_takeBack_35 ?_
  refine lv_iload_n zx zb dX6_takeBack_38 rfl (lv_at hl 4 rfl) ?_
  refine al_22 C0 hH (by omega) (by omega) dX6_takeBack_39 ?_
  refine lv_istore (lv' := [(5, .int (iI (S 22 i))), (4, .int (iI (S 21 i))), (3, .int (iI (S 20 i))), (2, .int (iI (S 19 i))), (0, .ref (g.1 0)), (1, .int (iI i))]) zx zb dX6_takeBack_40 hl (by decide) rfl (fun ls hl => ?_)
  refine lv_aload_n zx zb dX6_takeBack_42 rfl (lv_at hl 4 rfl) ?_
  refine gf_X6_40 C0 hH dX6_takeBack_43 ?_
  refine gf_X6_247 C0 hH dX6_takeBack_46 ?_
  refine lv_iload_n zx zb dX6_takeBack_49 rfl (lv_at hl 5 rfl) ?_
  refine al_18 C0 hH (by omega) (by omega) dX6_takeBack_50 ?_
  refine lv_tableIn (off := 40) (tgt := 91) zx zb dX6_takeBack_51 (by rw [hk, iI_t ⟨by decide, by decide⟩]; decide) (by rw [hk, iI_t ⟨by decide, by decide⟩]; decide) (by rw [hk, iI_t ⟨by decide, by decide⟩]; rfl) (by decide) ?_
  refine lv_aload_n zx zb dX6_takeBack_91 rfl (lv_at hl 4 rfl) ?_
  refine gf_X6_19 C0 hH dX6_takeBack_92 ?_
  refine lv_iload_n zx zb dX6_takeBack_95 rfl (lv_at hl 3 rfl) ?_
  refine lv_iload_n zx zb dX6_takeBack_96 rfl (lv_at hl 2 rfl) ?_
  refine cvN (rest := []) (As := [.int (iI (S 19 i)), .int (iI (S 20 i))]) (b := g.1 4) C0 hH (c_X5_remove l g S (S 19 i) (S 20 i) (by omega) (by omega) (by omega)) kw_X6_137 ky_X5_remove ⟨Nat.le_of_ble_eq_true rfl, Nat.le_of_ble_eq_true rfl⟩ ⟨Nat.zero_le _, Nat.zero_le _⟩ 4 rfl rfl rfl hl.1 rfl (Nat.le_of_ble_eq_true rfl) dX6_takeBack_97 (fun H locs hH => ?_)
  refine lv_goto (tgt := 119) zx zb dX6_takeBack_100 (by decide) ?_
  exact retV C0 hret hlk hH (rfl) dX6_takeBack_119
set_option maxRecDepth 100000 in
set_option maxHeartbeats 4000000 in
theorem c2_X6_takeBack (l : Launch) (g : gT) (S : gSt) (i : Int) (hi : 0 ≤ i ∧ i < 30) (hk : S 18 i = 2) (hz : 0 ≤ S 19 i ∧ S 19 i < 8) (hl0 : 0 ≤ S 20 i ∧ S 20 i ≤ S 5 (S 19 i)) (hc : S 5 (S 19 i) < 10) : MetG l g yX6_takeBack cX6_takeBack 6 none 2 47 [.ref (g.1 0), .int (iI i)] S none (lnIn S 5 6 7 (S 19 i) (S 20 i) (S 21 i) (S 22 i)) := by
  refine bodyG (by decide +kernel) (Nat.le_of_ble_eq_true rfl) ?_
  intro p e s m args below meth c ls C0 hret hlk hl hH
  have zx := C0.1
  have zb := C0.2.1
  have hl : lv_has ls 6 [(0, .ref (g.1 0)), (1, .int (iI i))] := hl
  obtain ⟨H, hHe⟩ : ∃ H : Heap, H = s.heap := ⟨_, rfl⟩
  rw [show (Hp g S s s.heap []) = Hp g S s H [] by rw [hHe]] at hH
  rw [← hHe]
  refine lv_aload_n zx zb dX6_takeBack_0 rfl (lv_at hl 0 rfl) ?_
  refine gf_X6_40 C0 hH dX6_takeBack_1 ?_
  refine gf_X6_235 C0 hH dX6_takeBack_4 ?_
  refine lv_iload_n zx zb dX6_takeBack_7 rfl (lv_at hl 1 rfl) ?_
  refine al_19 C0 hH (by omega) (by omega) dX6_takeBack_8 ?_
  refine lv_istore_n (lv' := [(2, .int (iI (S 19 i))), (0, .ref (g.1 0)), (1, .int (iI i))]) zx zb dX6_takeBack_9 rfl hl (by decide) rfl (fun ls hl => ?_)
  refine lv_aload_n zx zb dX6_takeBack_10 rfl (lv_at hl 1 rfl) ?_
  refine gf_X6_40 C0 hH dX6_takeBack_11 ?_
  refine gf_X6_238 C0 hH dX6_takeBack_14 ?_
  refine lv_iload_n zx zb dX6_takeBack_17 rfl (lv_at hl 2 rfl) ?_
  refine al_20 C0 hH (by omega) (by omega) dX6_takeBack_18 ?_
  refine lv_istore_n (lv' := [(3, .int (iI (S 20 i))), (2, .int (iI (S 19 i))), (0, .ref (g.1 0)), (1, .int (iI i))]) zx zb dX6_takeBack_19 rfl hl (by decide) rfl (fun ls hl => ?_)
  refine lv_aload_n zx zb dX6_takeBack_20 rfl (lv_at hl 2 rfl) ?_
  refine gf_X6_40 C0 hH dX6_takeBack_21 ?_
  refine gf_X6_241 C0 hH dX6_takeBack_24 ?_
  refine lv_iload_n zx zb dX6_takeBack_27 rfl (lv_at hl 3 rfl) ?_
  refine al_21 C0 hH (by omega) (by omega) dX6_takeBack_28 ?_
  refine lv_istore (lv' := [(4, .int (iI (S 21 i))), (3, .int (iI (S 20 i))), (2, .int (iI (S 19 i))), (0, .ref (g.1 0)), (1, .int (iI i))]) zx zb dX6_takeBack_29 hl (by decide) rfl (fun ls hl => ?_)
  refine lv_aload_n zx zb dX6_takeBack_31 rfl (lv_at hl 3 rfl) ?_
  refine gf_X6_40 C0 hH dX6_takeBack_32 ?_
  refine gf_X6_244 C0 hH dX6_takeBack_35 ?_
  refine lv_iload_n zx zb dX6_takeBack_38 rfl (lv_at hl 4 rfl) ?_
  refine al_22 C0 hH (by omega) (by omega) dX6_takeBack_39 ?_
  refine lv_istore (lv' := [(5, .int (iI (S 22 i))), (4, .int (iI (S 21 i))), (3, .int (iI (S 20 i))), (2, .int (iI (S 19 i))), (0, .ref (g.1 0)), (1, .int (iI i))]) zx zb dX6_takeBack_40 hl (by decide) rfl (fun ls hl => ?_)
  refine lv_aload_n zx zb dX6_takeBack_42 rfl (lv_at hl 4 rfl) ?_
  refine gf_X6_40 C0 hH dX6_takeBack_43 ?_
  refine gf_X6_247 C0 hH dX6_takeBack_46 ?_
  refine lv_iload_n zx zb dX6_takeBack_49 rfl (lv_at hl 5 rfl) ?_
  refine al_18 C0 hH (by omega) (by omega) dX6_takeBack_50 ?_
  refine lv_tableIn (off := 52) (tgt := 103) zx zb dX6_takeBack_51 (by rw [hk, iI_t ⟨by decide, by decide⟩]; decide) (by rw [hk, iI_t ⟨by decide, by decide⟩]; decide) (by rw [hk, iI_t ⟨by decide, by decide⟩]; rfl) (by decide) ?_
  refine lv_aload_n zx zb dX6_takeBack_103 rfl (lv_at hl 4 rfl) ?_
  refine gf_X6_19 C0 hH dX6_takeBack_104 ?_
  refine lv_iload_n zx zb dX6_takeBack_107 rfl (lv_at hl 3 rfl) ?_
  refine lv_iload_n zx zb dX6_takeBack_108 rfl (lv_at hl 2 rfl) ?_
  refine lv_iload zx zb dX6_takeBack_109 (lv_at hl 1 rfl) ?_
  refine lv_iload zx zb dX6_takeBack_111 (lv_at hl 0 rfl) ?_
  refine cvN (rest := []) (As := [.int (iI (S 19 i)), .int (iI (S 20 i)), .int (iI (S 21 i)), .int (iI (S 22 i))]) (b := g.1 4) C0 hH (c_X5_insert l g S (S 19 i) (S 20 i) (S 21 i) (S 22 i) (by omega) (by omega) (by omega)) kw_X6_119 ky_X5_insert ⟨Nat.le_of_ble_eq_true rfl, Nat.le_of_ble_eq_true rfl⟩ ⟨Nat.zero_le _, Nat.zero_le _⟩ 4 rfl rfl rfl hl.1 rfl (Nat.le_of_ble_eq_true rfl) dX6_takeBack_113 (fun H locs hH => ?_)
  refine lv_goto (tgt := 119) zx zb dX6_takeBack_116 (by decide) ?_
  exact retV C0 hret hlk hH (rfl) dX6_takeBack_119
set_option maxRecDepth 100000 in
set_option maxHeartbeats 4000000 in
theorem c0_X6_undo (l : Launch) (g : gT) (S : gSt) (hh0 : 0 ≤ S 17 0 ∧ S 17 0 < 30) (hh1 : 0 ≤ S 17 1 ∧ S 17 1 ≤ 30) (hkp : 0 < S 17 1) (hk : S 18 ((S 17 0 + 29) % 30) = 0) (hz : 0 ≤ S 19 ((S 17 0 + 29) % 30) ∧ S 19 ((S 17 0 + 29) % 30) < 24) : MetG l g yX6_undo cX6_undo 1 (some .int) 2 48 [.ref (g.1 0)] S (some (.int (iI (S 17 1 - 1)))) (mvS (sbS S) (S 19 ((S 17 0 + 29) % 30)) (S 21 ((S 17 0 + 29) % 30)) (S 22 ((S 17 0 + 29) % 30))) := by
  refine bodyG (by decide +kernel) (Nat.le_of_ble_eq_true rfl) ?_
  intro p e s m args below meth c ls C0 hret hlk hl hH
  have zx := C0.1
  have zb := C0.2.1
  have hl : lv_has ls 1 [(0, .ref (g.1 0))] := hl
  obtain ⟨H, hHe⟩ : ∃ H : Heap, H = s.heap := ⟨_, rfl⟩
  rw [show (Hp g S s s.heap []) = Hp g S s H [] by rw [hHe]] at hH
  rw [← hHe]
  refine lv_aload_n zx zb dX6_undo_0 rfl (lv_at hl 0 rfl) ?_
  refine gf_X6_40 C0 hH dX6_undo_1 ?_
  refine gf_X6_140 C0 hH dX6_undo_4 ?_
  refine bz_gt (tgt := 20) zx zb dX6_undo_7 (by decide) ⟨by omega, by omega⟩ (fun zq7 => ?_) (fun zq7 => ?_)
  · refine lv_aload_n zx zb dX6_undo_20 rfl (lv_at hl 0 rfl) ?_
    refine gf_X6_40 C0 hH dX6_undo_21 ?_
    refine cvN (rest := []) (As := []) (b := g.1 17) C0 hH (c_X3_stepBack l g S (by omega) (by omega)) kw_X6_145 ky_X3_stepBack ⟨Nat.le_of_ble_eq_true rfl, Nat.le_of_ble_eq_true rfl⟩ ⟨Nat.zero_le _, Nat.zero_le _⟩ 17 rfl rfl rfl hl.1 rfl (Nat.le_of_ble_eq_true rfl) dX6_undo_24 (fun H locs hH => ?_)
    refine lv_aload_n zx zb dX6_undo_27 rfl (lv_at hl 0 rfl) ?_
    refine lv_aload_n zx zb dX6_undo_28 rfl (lv_at hl 0 rfl) ?_
    refine gf_X6_40 C0 hH dX6_undo_29 ?_
    refine gf_X6_148 C0 hH dX6_undo_32 ?_
    show W p l e _ s m args below meth c H _ _ _ _ (F0 m 35 ls [.int (iI ((sbS S) 17 0)), .ref (g.1 0)])
    refine cvN (rest := []) (As := [.int (iI ((sbS S) 17 0))]) (b := g.1 0) C0 hH (c0_X6_takeBack l g (sbS S) ((sbS S) 17 0) (by show 0 ≤ (S 17 0 + 29) % 30 ∧ (S 17 0 + 29) % 30 < 30; omega) (by exact hk) (by exact hz)) kw_X6_151 ky_X6_takeBack ⟨Nat.le_of_ble_eq_true rfl, Nat.le_of_ble_eq_true rfl⟩ ⟨Nat.zero_le _, Nat.zero_le _⟩ 0 rfl rfl rfl hl.1 rfl (Nat.le_of_ble_eq_true rfl) dX6_undo_35 (fun H locs hH => ?_)
    refine lv_aload_n zx zb dX6_undo_38 rfl (lv_at hl 0 rfl) ?_
    refine gf_X6_40 C0 hH dX6_undo_39 ?_
    refine gf_X6_140 C0 hH dX6_undo_42 ?_
    show W p l e _ s m args below meth c H _ _ _ _ (F0 m 45 ls [.int (iI ((sbS S) 17 1))])
    exact retI C0 hret hlk hH (by rfl) (rfl) dX6_undo_45
  · exact absurd zq7 (by omega)
set_option maxRecDepth 100000 in
set_option maxHeartbeats 4000000 in
theorem c1_X6_undo (l : Launch) (g : gT) (S : gSt) (hh0 : 0 ≤ S 17 0 ∧ S 17 0 < 30) (hh1 : 0 ≤ S 17 1 ∧ S 17 1 ≤ 30) (hkp : 0 < S 17 1) (hk : S 18 ((S 17 0 + 29) % 30) = 1) (hz : 0 ≤ S 19 ((S 17 0 + 29) % 30) ∧ S 19 ((S 17 0 + 29) % 30) < 8) (hl0 : 0 ≤ S 20 ((S 17 0 + 29) % 30) ∧ S 20 ((S 17 0 + 29) % 30) < S 5 (S 19 ((S 17 0 + 29) % 30))) (hc : S 5 (S 19 ((S 17 0 + 29) % 30)) ≤ 10) : MetG l g yX6_undo cX6_undo 1 (some .int) 3 70 [.ref (g.1 0)] S (some (.int (iI (S 17 1 - 1)))) (lnOut (sbS S) 5 6 7 (S 19 ((S 17 0 + 29) % 30)) (S 20 ((S 17 0 + 29) % 30))) := by
  refine bodyG (by decide +kernel) (Nat.le_of_ble_eq_true rfl) ?_
  intro p e s m args below meth c ls C0 hret hlk hl hH
  have zx := C0.1
  have zb := C0.2.1
  have hl : lv_has ls 1 [(0, .ref (g.1 0))] := hl
  obtain ⟨H, hHe⟩ : ∃ H : Heap, H = s.heap := ⟨_, rfl⟩
  rw [show (Hp g S s s.heap []) = Hp g S s H [] by rw [hHe]] at hH
  rw [← hHe]
  refine lv_aload_n zx zb dX6_undo_0 rfl (lv_at hl 0 rfl) ?_
  refine gf_X6_40 C0 hH dX6_undo_1 ?_
  refine gf_X6_140 C0 hH dX6_undo_4 ?_
  refine bz_gt (tgt := 20) zx zb dX6_undo_7 (by decide) ⟨by omega, by omega⟩ (fun zq7 => ?_) (fun zq7 => ?_)
  · refine lv_aload_n zx zb dX6_undo_20 rfl (lv_at hl 0 rfl) ?_
    refine gf_X6_40 C0 hH dX6_undo_21 ?_
    refine cvN (rest := []) (As := []) (b := g.1 17) C0 hH (c_X3_stepBack l g S (by omega) (by omega)) kw_X6_145 ky_X3_stepBack ⟨Nat.le_of_ble_eq_true rfl, Nat.le_of_ble_eq_true rfl⟩ ⟨Nat.zero_le _, Nat.zero_le _⟩ 17 rfl rfl rfl hl.1 rfl (Nat.le_of_ble_eq_true rfl) dX6_undo_24 (fun H locs hH => ?_)
    refine lv_aload_n zx zb dX6_undo_27 rfl (lv_at hl 0 rfl) ?_
    refine lv_aload_n zx zb dX6_undo_28 rfl (lv_at hl 0 rfl) ?_
    refine gf_X6_40 C0 hH dX6_undo_29 ?_
    refine gf_X6_148 C0 hH dX6_undo_32 ?_
    show W p l e _ s m args below meth c H _ _ _ _ (F0 m 35 ls [.int (iI ((sbS S) 17 0)), .ref (g.1 0)])
    refine cvN (rest := []) (As := [.int (iI ((sbS S) 17 0))]) (b := g.1 0) C0 hH (c1_X6_takeBack l g (sbS S) ((sbS S) 17 0) (by show 0 ≤ (S 17 0 + 29) % 30 ∧ (S 17 0 + 29) % 30 < 30; omega) (by exact hk) (by exact hz) (by exact hl0) (by exact hc)) kw_X6_151 ky_X6_takeBack ⟨Nat.le_of_ble_eq_true rfl, Nat.le_of_ble_eq_true rfl⟩ ⟨Nat.zero_le _, Nat.zero_le _⟩ 0 rfl rfl rfl hl.1 rfl (Nat.le_of_ble_eq_true rfl) dX6_undo_35 (fun H locs hH => ?_)
    refine lv_aload_n zx zb dX6_undo_38 rfl (lv_at hl 0 rfl) ?_
    refine gf_X6_40 C0 hH dX6_undo_39 ?_
    refine gf_X6_140 C0 hH dX6_undo_42 ?_
    show W p l e _ s m args below meth c H _ _ _ _ (F0 m 45 ls [.int (iI ((sbS S) 17 1))])
    exact retI C0 hret hlk hH (by rfl) (rfl) dX6_undo_45
  · exact absurd zq7 (by omega)
set_option maxRecDepth 100000 in
set_option maxHeartbeats 4000000 in
theorem c2_X6_undo (l : Launch) (g : gT) (S : gSt) (hh0 : 0 ≤ S 17 0 ∧ S 17 0 < 30) (hh1 : 0 ≤ S 17 1 ∧ S 17 1 ≤ 30) (hkp : 0 < S 17 1) (hk : S 18 ((S 17 0 + 29) % 30) = 2) (hz : 0 ≤ S 19 ((S 17 0 + 29) % 30) ∧ S 19 ((S 17 0 + 29) % 30) < 8) (hl0 : 0 ≤ S 20 ((S 17 0 + 29) % 30) ∧ S 20 ((S 17 0 + 29) % 30) ≤ S 5 (S 19 ((S 17 0 + 29) % 30))) (hc : S 5 (S 19 ((S 17 0 + 29) % 30)) < 10) : MetG l g yX6_undo cX6_undo 1 (some .int) 3 72 [.ref (g.1 0)] S (some (.int (iI (S 17 1 - 1)))) (lnIn (sbS S) 5 6 7 (S 19 ((S 17 0 + 29) % 30)) (S 20 ((S 17 0 + 29) % 30)) (S 21 ((S 17 0 + 29) % 30)) (S 22 ((S 17 0 + 29) % 30))) := by
  refine bodyG (by decide +kernel) (Nat.le_of_ble_eq_true rfl) ?_
  intro p e s m args below meth c ls C0 hret hlk hl hH
  have zx := C0.1
  have zb := C0.2.1
  have hl : lv_has ls 1 [(0, .ref (g.1 0))] := hl
  obtain ⟨H, hHe⟩ : ∃ H : Heap, H = s.heap := ⟨_, rfl⟩
  rw [show (Hp g S s s.heap []) = Hp g S s H [] by rw [hHe]] at hH
  rw [← hHe]
  refine lv_aload_n zx zb dX6_undo_0 rfl (lv_at hl 0 rfl) ?_
  refine gf_X6_40 C0 hH dX6_undo_1 ?_
  refine gf_X6_140 C0 hH dX6_undo_4 ?_
  refine bz_gt (tgt := 20) zx zb dX6_undo_7 (by decide) ⟨by omega, by omega⟩ (fun zq7 => ?_) (fun zq7 => ?_)
  · refine lv_aload_n zx zb dX6_undo_20 rfl (lv_at hl 0 rfl) ?_
    refine gf_X6_40 C0 hH dX6_undo_21 ?_
    refine cvN (rest := []) (As := []) (b := g.1 17) C0 hH (c_X3_stepBack l g S (by omega) (by omega)) kw_X6_145 ky_X3_stepBack ⟨Nat.le_of_ble_eq_true rfl, Nat.le_of_ble_eq_true rfl⟩ ⟨Nat.zero_le _, Nat.zero_le _⟩ 17 rfl rfl rfl hl.1 rfl (Nat.le_of_ble_eq_true rfl) dX6_undo_24 (fun H locs hH => ?_)
    refine lv_aload_n zx zb dX6_undo_27 rfl (lv_at hl 0 rfl) ?_
    refine lv_aload_n zx zb dX6_undo_28 rfl (lv_at hl 0 rfl) ?_
    refine gf_X6_40 C0 hH dX6_undo_29 ?_
    refine gf_X6_148 C0 hH dX6_undo_32 ?_
    show W p l e _ s m args below meth c H _ _ _ _ (F0 m 35 ls [.int (iI ((sbS S) 17 0)), .ref (g.1 0)])
    refine cvN (rest := []) (As := [.int (iI ((sbS S) 17 0))]) (b := g.1 0) C0 hH (c2_X6_takeBack l g (sbS S) ((sbS S) 17 0) (by show 0 ≤ (S 17 0 + 29) % 30 ∧ (S 17 0 + 29) % 30 < 30; omega) (by exact hk) (by exact hz) (by exact hl0) (by exact hc)) kw_X6_151 ky_X6_takeBack ⟨Nat.le_of_ble_eq_true rfl, Nat.le_of_ble_eq_true rfl⟩ ⟨Nat.zero_le _, Nat.zero_le _⟩ 0 rfl rfl rfl hl.1 rfl (Nat.le_of_ble_eq_true rfl) dX6_undo_35 (fun H locs hH => ?_)
    refine lv_aload_n zx zb dX6_undo_38 rfl (lv_at hl 0 rfl) ?_
    refine gf_X6_40 C0 hH dX6_undo_39 ?_
    refine gf_X6_140 C0 hH dX6_undo_42 ?_
    show W p l e _ s m args below meth c H _ _ _ _ (F0 m 45 ls [.int (iI ((sbS S) 17 1))])
    exact retI C0 hret hlk hH (by rfl) (rfl) dX6_undo_45
  · exact absurd zq7 (by omega)
set_option maxRecDepth 100000 in
set_option maxHeartbeats 4000000 in
theorem x1_X6_undo (l : Launch) (g : gT) (S : gSt) (hh0 : 0 ≤ S 17 0 ∧ S 17 0 < 30) (hh1 : 0 ≤ S 17 1 ∧ S 17 1 ≤ 30) (hkp : S 17 1 = 0) (hfl : l.stackTraces = false) : ThrG l g yX6_undo cX6_undo 1 (some .int) 6 85 [.ref (g.1 0)] S "java/lang/IllegalStateException" S := by
  refine bodyX (by decide +kernel) (Nat.le_of_ble_eq_true rfl) ?_
  intro p e s m args below meth c ls C0 htab hlk hl hH
  have zx := C0.1
  have zb := C0.2.1
  have hl : lv_has ls 1 [(0, .ref (g.1 0))] := hl
  obtain ⟨H, hHe⟩ : ∃ H : Heap, H = s.heap := ⟨_, rfl⟩
  rw [show (Hp g S s s.heap []) = Hp g S s H [] by rw [hHe]] at hH
  rw [← hHe]
  refine lv_aload_n zx zb dX6_undo_0 rfl (lv_at hl 0 rfl) ?_
  refine gf_X6_40 C0 hH dX6_undo_1 ?_
  refine gf_X6_140 C0 hH dX6_undo_4 ?_
  refine bz_gt (tgt := 20) zx zb dX6_undo_7 (by decide) ⟨by omega, by omega⟩ (fun zq7 => ?_) (fun zq7 => ?_)
  · exact absurd zq7 (by omega)
  · exact thG (text := "nothing is left to undo") (names := ["java/lang/RuntimeException", "java/lang/Exception"]) hfl C0 htab hlk hH rfl (by decide +kernel) (by decide +kernel) (gm 259 (by decide +kernel) rfl) (gm 30 (by decide +kernel) rfl) (List.mem_of_getElem? (i := 533) (by decide +kernel)) (atS_ISE C0.2.2.2.2.1) gdS_ISE hl.1 dX6_undo_10 dX6_undo_13 dX6_undo_14 dX6_undo_16 dX6_undo_19 (by decide) (Nat.le_of_ble_eq_true rfl) (by decide) (by decide)
