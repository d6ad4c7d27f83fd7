set_option maxRecDepth 100000 in
set_option maxHeartbeats 4000000 in
theorem wc_X6_addStar (l : Launch) (g : gT) (S : gSt) (a u : Int) (hpo : (0 ≤ a ∧ a < 360) ∧ (-90 ≤ u ∧ u ≤ 90)) (hn : 0 ≤ S 1 0 ∧ S 1 0 < 24) : LwM l g yL_addStar cL_addStar 5 [(0, 10, 13, 13), (0, 10, 17, 15)] [.ref (g.1 0), .int (iI a), .int (iI u), .ref (g.1 33)] S 0 (st (adS S a u) 33 0 (S 1 0)) := by
  refine bodyW (by decide +kernel) (Nat.le_of_ble_eq_true rfl) ?_
  intro p e s m args below meth c ls C0 hret htab hlk hl hH
  have zx := C0.1
  have zb := C0.2.1
  have hl : lv_has ls 5 [(0, .ref (g.1 0)), (1, .int (iI a)), (2, .int (iI u)), (3, .ref (g.1 33))] := hl
  obtain ⟨H, hHe⟩ : ∃ H : Heap, H = s.heap := ⟨_, rfl⟩
  rw [show (Hp g S s s.heap []) = Hp g S s H [] by rw [hHe]] at hH
  rw [← hHe]
  refine lv_aload_n zx zb dL_addStar_0 rfl (lv_at hl 3 rfl) ?_
  refine bi_const (n := 0) zx zb dL_addStar_1 ?_
  refine lv_aload_n zx zb dL_addStar_2 rfl (lv_at hl 0 rfl) ?_
  refine lv_iload_n zx zb dL_addStar_3 rfl (lv_at hl 1 rfl) ?_
  refine lv_iload_n zx zb dL_addStar_4 rfl (lv_at hl 2 rfl) ?_
  refine cvI (rest := [.int (iI 0), .ref (g.1 33)]) (As := [.int (iI a), .int (iI u)]) (b := g.1 0) C0 hH (c_X6_addStar l g S a u hpo hn) kw_L_7 ky_X6_addStar ⟨Nat.le_of_ble_eq_true rfl, Nat.le_of_ble_eq_true rfl⟩ ⟨Nat.zero_le _, Nat.zero_le _⟩ 0 rfl rfl rfl hl.1 rfl (Nat.le_of_ble_eq_true rfl) dL_addStar_5 (fun H locs hH => ?_)
  refine lv_i2l zx zb dL_addStar_8 rfl ?_
  refine lsG C0 hH dL_addStar_9 (fun H locs hH => ?_)
  refine lv_goto (tgt := 21) zx zb dL_addStar_10 (by decide) ?_
  refine bi_const (n := 0) zx zb dL_addStar_21 ?_
  exact retW0 C0 hret hlk hH dL_addStar_22
set_option maxRecDepth 100000 in
set_option maxHeartbeats 4000000 in
theorem wx1_X6_addStar (l : Launch) (g : gT) (S : gSt) (a u : Int) (hr_a : -2147483648 ≤ a ∧ a < 2147483648) (hr_u : -2147483648 ≤ u ∧ u < 2147483648) (hbad : ¬((0 ≤ a ∧ a < 360) ∧ (-90 ≤ u ∧ u ≤ 90))) (hfl : l.stackTraces = false) : LwM l g yL_addStar cL_addStar 5 [(0, 10, 13, 13), (0, 10, 17, 15)] [.ref (g.1 0), .int (iI a), .int (iI u), .ref (g.1 33)] S 1 S := by
  refine bodyW (by decide +kernel) (Nat.le_of_ble_eq_true rfl) ?_
  intro p e s m args below meth c ls C0 hret htab hlk hl hH
  have zx := C0.1
  have zb := C0.2.1
  have hl : lv_has ls 5 [(0, .ref (g.1 0)), (1, .int (iI a)), (2, .int (iI u)), (3, .ref (g.1 33))] := hl
  obtain ⟨H, hHe⟩ : ∃ H : Heap, H = s.heap := ⟨_, rfl⟩
  rw [show (Hp g S s s.heap []) = Hp g S s H [] by rw [hHe]] at hH
  rw [← hHe]
  refine lv_aload_n zx zb dL_addStar_0 rfl (lv_at hl 3 rfl) ?_
  refine bi_const (n := 0) zx zb dL_addStar_1 ?_
  refine lv_aload_n zx zb dL_addStar_2 rfl (lv_at hl 0 rfl) ?_
  refine lv_iload_n zx zb dL_addStar_3 rfl (lv_at hl 1 rfl) ?_
  refine lv_iload_n zx zb dL_addStar_4 rfl (lv_at hl 2 rfl) ?_
  refine ctG (E := "java/lang/IllegalArgumentException") (name := "java/lang/IllegalArgumentException") (rest := [.int (iI 0), .ref (g.1 33)]) (As := [.int (iI a), .int (iI u)]) (b := g.1 0) C0 hH (x1_X6_addStar l g S a u hr_a hr_u hbad hfl) kw_L_7 ky_X6_addStar ⟨Nat.le_of_ble_eq_true rfl, Nat.le_of_ble_eq_true rfl⟩ ⟨Nat.le_of_ble_eq_true rfl, Nat.le_of_ble_eq_true rfl⟩ 0 rfl rfl rfl hl.1 rfl (Nat.le_of_ble_eq_true rfl) dL_addStar_5 [] (⟨0, 10, 13, 13⟩ : ExceptionTableEntry) [(⟨0, 10, 17, 15⟩ : ExceptionTableEntry)] htab (fun _ h => absurd h List.not_mem_nil) (by decide) (by decide) (C0.2.2.2.2.1.w (gm 256 (by decide +kernel) rfl)) (C0.2.2.2.2.1.n (nmm 267 (by decide +kernel) rfl)) (fun q H locs hH => ?_)
  refine lv_astore zx zb dL_addStar_13 hl (by decide) rfl (fun ls hl => ?_)
  refine bi_const (n := 1) zx zb dL_addStar_15 ?_
  exact retW C0 hret hlk hH dL_addStar_16
set_option maxRecDepth 100000 in
set_option maxHeartbeats 4000000 in
theorem wx2_X6_addStar (l : Launch) (g : gT) (S : gSt) (a u : Int) (hpo : (0 ≤ a ∧ a < 360) ∧ (-90 ≤ u ∧ u ≤ 90)) (hn : S 1 0 = 24) (hfl : l.stackTraces = false) : LwM l g yL_addStar cL_addStar 5 [(0, 10, 13, 13), (0, 10, 17, 15)] [.ref (g.1 0), .int (iI a), .int (iI u), .ref (g.1 33)] S 2 S := by
  refine bodyW (by decide +kernel) (Nat.le_of_ble_eq_true rfl) ?_
  intro p e s m args below meth c ls C0 hret htab hlk hl hH
  have zx := C0.1
  have zb := C0.2.1
  have hl : lv_has ls 5 [(0, .ref (g.1 0)), (1, .int (iI a)), (2, .int (iI u)), (3, .ref (g.1 33))] := hl
  obtain ⟨H, hHe⟩ : ∃ H : Heap, H = s.heap := ⟨_, rfl⟩
  rw [show (Hp g S s s.heap []) = Hp g S s H [] by rw [hHe]] at hH
  rw [← hHe]
  refine lv_aload_n zx zb dL_addStar_0 rfl (lv_at hl 3 rfl) ?_
  refine bi_const (n := 0) zx zb dL_addStar_1 ?_
  refine lv_aload_n zx zb dL_addStar_2 rfl (lv_at hl 0 rfl) ?_
  refine lv_iload_n zx zb dL_addStar_3 rfl (lv_at hl 1 rfl) ?_
  refine lv_iload_n zx zb dL_addStar_4 rfl (lv_at hl 2 rfl) ?_
  refine ctG (E := "java/lang/IllegalStateException") (name := "java/lang/IllegalStateException") (rest := [.int (iI 0), .ref (g.1 33)]) (As := [.int (iI a), .int (iI u)]) (b := g.1 0) C0 hH (x2_X6_addStar l g S a u hpo hn hfl) kw_L_7 ky_X6_addStar ⟨Nat.le_of_ble_eq_true rfl, Nat.le_of_ble_eq_true rfl⟩ ⟨Nat.le_of_ble_eq_true rfl, Nat.le_of_ble_eq_true rfl⟩ 0 rfl rfl rfl hl.1 rfl (Nat.le_of_ble_eq_true rfl) dL_addStar_5 [(⟨0, 10, 13, 13⟩ : ExceptionTableEntry)] (⟨0, 10, 17, 15⟩ : ExceptionTableEntry) [] htab (List.forall_mem_cons.mpr ⟨Or.inr ⟨by decide, "java/lang/IllegalArgumentException", C0.2.2.2.2.1.w (gm 256 (by decide +kernel) rfl), C0.2.2.2.2.1.2.2.2.2.2 ("java/lang/IllegalStateException", "java/lang/IllegalArgumentException") (by simp [NCL])⟩, (fun _ h => absurd h List.not_mem_nil)⟩) (by decide) (by decide) (C0.2.2.2.2.1.w (gm 257 (by decide +kernel) rfl)) (C0.2.2.2.2.1.n (nmm 336 (by decide +kernel) rfl)) (fun q H locs hH => ?_)
  refine lv_astore zx zb dL_addStar_17 hl (by decide) rfl (fun ls hl => ?_)
  refine bi_const (n := 2) zx zb dL_addStar_19 ?_
  exact retW C0 hret hlk hH dL_addStar_20
set_option maxRecDepth 100000 in
set_option maxHeartbeats 4000000 in
theorem wc_X6_correct (l : Launch) (g : gT) (S : gSt) (z a u : Int) (hn1 : 0 ≤ S 1 0 ∧ S 1 0 ≤ 24) (hzo : 0 ≤ z ∧ z < S 1 0) (hpo : (0 ≤ a ∧ a < 360) ∧ (-90 ≤ u ∧ u ≤ 90)) (hh0 : 0 ≤ S 17 0 ∧ S 17 0 < 30) (hh1 : 0 ≤ S 17 1 ∧ S 17 1 ≤ 30) (hN : okN (S 5)) (hE : okE (S 5) (S 6)) (hO : okE (S 5) (S 7)) (hC : okC (S 2) (S 3)) (hG : okG (S 11)) (hP : okP (S 13) (S 14) (S 15) (S 16)) (hsc : 0 ≤ S 12 0 ∧ S 12 0 ≤ 12) : LwM l g yL_correct cL_correct 6 [(0, 12, 15, 21), (0, 12, 19, 13)] [.ref (g.1 0), .int (iI z), .int (iI a), .int (iI u), .ref (g.1 33)] S 0 (st (mvS (kpS S 0 z 0 (S 2 z) (S 3 z)) z a u) 33 0 (wrI (mvS (kpS S 0 z 0 (S 2 z) (S 3 z)) z a u))) := by
  refine bodyW (by decide +kernel) (Nat.le_of_ble_eq_true rfl) ?_
  intro p e s m args below meth c ls C0 hret htab hlk hl hH
  have zx := C0.1
  have zb := C0.2.1
  have hl : lv_has ls 6 [(0, .ref (g.1 0)), (1, .int (iI z)), (2, .int (iI a)), (3, .int (iI u)), (4, .ref (g.1 33))] := hl
  obtain ⟨H, hHe⟩ : ∃ H : Heap, H = s.heap := ⟨_, rfl⟩
  rw [show (Hp g S s s.heap []) = Hp g S s H [] by rw [hHe]] at hH
  rw [← hHe]
  refine lv_aload zx zb dL_correct_0 (lv_at hl 4 rfl) ?_
  refine bi_const (n := 0) zx zb dL_correct_2 ?_
  refine lv_aload_n zx zb dL_correct_3 rfl (lv_at hl 0 rfl) ?_
  refine lv_iload_n zx zb dL_correct_4 rfl (lv_at hl 1 rfl) ?_
  refine lv_iload_n zx zb dL_correct_5 rfl (lv_at hl 2 rfl) ?_
  refine lv_iload_n zx zb dL_correct_6 rfl (lv_at hl 3 rfl) ?_
  refine cvI (rest := [.int (iI 0), .ref (g.1 33)]) (As := [.int (iI z), .int (iI a), .int (iI u)]) (b := g.1 0) C0 hH (c_X6_correct l g S z a u hn1 hzo hpo hh0 hh1 hN hE hO hC hG hP hsc) kw_L_17 ky_X6_correct ⟨Nat.le_of_ble_eq_true rfl, Nat.le_of_ble_eq_true rfl⟩ ⟨Nat.zero_le _, Nat.zero_le _⟩ 0 rfl rfl rfl hl.1 rfl (Nat.le_of_ble_eq_true rfl) dL_correct_7 (fun H locs hH => ?_)
  refine lv_i2l zx zb dL_correct_10 rfl ?_
  refine lsG C0 hH dL_correct_11 (fun H locs hH => ?_)
  refine lv_goto (tgt := 23) zx zb dL_correct_12 (by decide) ?_
  refine bi_const (n := 0) zx zb dL_correct_23 ?_
  exact retW0 C0 hret hlk hH dL_correct_24
set_option maxRecDepth 100000 in
set_option maxHeartbeats 4000000 in
theorem wx1_X6_correct (l : Launch) (g : gT) (S : gSt) (z a u : Int) (hn1 : 0 ≤ S 1 0 ∧ S 1 0 ≤ 24) (hr_z : -2147483648 ≤ z ∧ z < 2147483648) (hr_a : -2147483648 ≤ a ∧ a < 2147483648) (hr_u : -2147483648 ≤ u ∧ u < 2147483648) (hzb : ¬(0 ≤ z ∧ z < S 1 0)) (hfl : l.stackTraces = false) : LwM l g yL_correct cL_correct 6 [(0, 12, 15, 21), (0, 12, 19, 13)] [.ref (g.1 0), .int (iI z), .int (iI a), .int (iI u), .ref (g.1 33)] S 1 S := by
  refine bodyW (by decide +kernel) (Nat.le_of_ble_eq_true rfl) ?_
  intro p e s m args below meth c ls C0 hret htab hlk hl hH
  have zx := C0.1
  have zb := C0.2.1
  have hl : lv_has ls 6 [(0, .ref (g.1 0)), (1, .int (iI z)), (2, .int (iI a)), (3, .int (iI u)), (4, .ref (g.1 33))] := hl
  obtain ⟨H, hHe⟩ : ∃ H : Heap, H = s.heap := ⟨_, rfl⟩
  rw [show (Hp g S s s.heap []) = Hp g S s H [] by rw [hHe]] at hH
  rw [← hHe]
  refine lv_aload zx zb dL_correct_0 (lv_at hl 4 rfl) ?_
  refine bi_const (n := 0) zx zb dL_correct_2 ?_
  refine lv_aload_n zx zb dL_correct_3 rfl (lv_at hl 0 rfl) ?_
  refine lv_iload_n zx zb dL_correct_4 rfl (lv_at hl 1 rfl) ?_
  refine lv_iload_n zx zb dL_correct_5 rfl (lv_at hl 2 rfl) ?_
  refine lv_iload_n zx zb dL_correct_6 rfl (lv_at hl 3 rfl) ?_
  refine ctG (E := "java/lang/IndexOutOfBoundsException") (name := "java/lang/IndexOutOfBoundsException") (rest := [.int (iI 0), .ref (g.1 33)]) (As := [.int (iI z), .int (iI a), .int (iI u)]) (b := g.1 0) C0 hH (x1_X6_correct l g S z a u hn1 hr_z hr_a hr_u hzb hfl) kw_L_17 ky_X6_correct ⟨Nat.le_of_ble_eq_true rfl, Nat.le_of_ble_eq_true rfl⟩ ⟨Nat.le_of_ble_eq_true rfl, Nat.le_of_ble_eq_true rfl⟩ 0 rfl rfl rfl hl.1 rfl (Nat.le_of_ble_eq_true rfl) dL_correct_7 [] (⟨0, 12, 15, 21⟩ : ExceptionTableEntry) [(⟨0, 12, 19, 13⟩ : ExceptionTableEntry)] htab (fun _ h => absurd h List.not_mem_nil) (by decide) (by decide) (C0.2.2.2.2.1.w (gm 361 (by decide +kernel) rfl)) (C0.2.2.2.2.1.n (nmm 372 (by decide +kernel) rfl)) (fun q H locs hH => ?_)
  refine lv_astore zx zb dL_correct_15 hl (by decide) rfl (fun ls hl => ?_)
  refine bi_const (n := 1) zx zb dL_correct_17 ?_
  exact retW C0 hret hlk hH dL_correct_18
set_option maxRecDepth 100000 in
set_option maxHeartbeats 4000000 in
theorem wx2_X6_correct (l : Launch) (g : gT) (S : gSt) (z a u : Int) (hn1 : 0 ≤ S 1 0 ∧ S 1 0 ≤ 24) (hzo : 0 ≤ z ∧ z < S 1 0) (hr_a : -2147483648 ≤ a ∧ a < 2147483648) (hr_u : -2147483648 ≤ u ∧ u < 2147483648) (hbad : ¬((0 ≤ a ∧ a < 360) ∧ (-90 ≤ u ∧ u ≤ 90))) (hfl : l.stackTraces = false) : LwM l g yL_correct cL_correct 6 [(0, 12, 15, 21), (0, 12, 19, 13)] [.ref (g.1 0), .int (iI z), .int (iI a), .int (iI u), .ref (g.1 33)] S 2 S := by
  refine bodyW (by decide +kernel) (Nat.le_of_ble_eq_true rfl) ?_
  intro p e s m args below meth c ls C0 hret htab hlk hl hH
  have zx := C0.1
  have zb := C0.2.1
  have hl : lv_has ls 6 [(0, .ref (g.1 0)), (1, .int (iI z)), (2, .int (iI a)), (3, .int (iI u)), (4, .ref (g.1 33))] := hl
  obtain ⟨H, hHe⟩ : ∃ H : Heap, H = s.heap := ⟨_, rfl⟩
  rw [show (Hp g S s s.heap []) = Hp g S s H [] by rw [hHe]] at hH
  rw [← hHe]
  refine lv_aload zx zb dL_correct_0 (lv_at hl 4 rfl) ?_
  refine bi_const (n := 0) zx zb dL_correct_2 ?_
  refine lv_aload_n zx zb dL_correct_3 rfl (lv_at hl 0 rfl) ?_
  refine lv_iload_n zx zb dL_correct_4 rfl (lv_at hl 1 rfl) ?_
  refine lv_iload_n zx zb dL_correct_5 rfl (lv_at hl 2 rfl) ?_
  refine lv_iload_n zx zb dL_correct_6 rfl (lv_at hl 3 rfl) ?_
  refine ctG (E := "java/lang/IllegalArgumentException") (name := "java/lang/IllegalArgumentException") (rest := [.int (iI 0), .ref (g.1 33)]) (As := [.int (iI z), .int (iI a), .int (iI u)]) (b := g.1 0) C0 hH (x2_X6_correct l g S z a u hn1 hzo hr_a hr_u hbad hfl) kw_L_17 ky_X6_correct ⟨Nat.le_of_ble_eq_true rfl, Nat.le_of_ble_eq_true rfl⟩ ⟨Nat.le_of_ble_eq_true rfl, Nat.le_of_ble_eq_true rfl⟩ 0 rfl rfl rfl hl.1 rfl (Nat.le_of_ble_eq_true rfl) dL_correct_7 [(⟨0, 12, 15, 21⟩ : ExceptionTableEntry)] (⟨0, 12, 19, 13⟩ : ExceptionTableEntry) [] htab (List.forall_mem_cons.mpr ⟨Or.inr ⟨by decide, "java/lang/IndexOutOfBoundsException", C0.2.2.2.2.1.w (gm 361 (by decide +kernel) rfl), C0.2.2.2.2.1.2.2.2.2.2 ("java/lang/IllegalArgumentException", "java/lang/IndexOutOfBoundsException") (by simp [NCL])⟩, (fun _ h => absurd h List.not_mem_nil)⟩) (by decide) (by decide) (C0.2.2.2.2.1.w (gm 256 (by decide +kernel) rfl)) (C0.2.2.2.2.1.n (nmm 267 (by decide +kernel) rfl)) (fun q H locs hH => ?_)
  refine lv_astore zx zb dL_correct_19 hl (by decide) rfl (fun ls hl => ?_)
  refine bi_const (n := 2) zx zb dL_correct_21 ?_
  exact retW C0 hret hlk hH dL_correct_22
set_option maxRecDepth 100000 in
set_option maxHeartbeats 4000000 in
theorem wc_X6_addFigure (l : Launch) (g : gT) (S : gSt) (hn : 0 ≤ S 4 0 ∧ S 4 0 < 8) : LwM l g yL_addFigure cL_addFigure 3 [(0, 8, 11, 15)] [.ref (g.1 0), .ref (g.1 33)] S 0 (st (st S 4 0 (S 4 0 + 1)) 33 0 (S 4 0)) := by
  refine bodyW (by decide +kernel) (Nat.le_of_ble_eq_true rfl) ?_
  intro p e s m args below meth c ls C0 hret htab hlk hl hH
  have zx := C0.1
  have zb := C0.2.1
  have hl : lv_has ls 3 [(0, .ref (g.1 0)), (1, .ref (g.1 33))] := hl
  obtain ⟨H, hHe⟩ : ∃ H : Heap, H = s.heap := ⟨_, rfl⟩
  rw [show (Hp g S s s.heap []) = Hp g S s H [] by rw [hHe]] at hH
  rw [← hHe]
  refine lv_aload_n zx zb dL_addFigure_0 rfl (lv_at hl 1 rfl) ?_
  refine bi_const (n := 0) zx zb dL_addFigure_1 ?_
  refine lv_aload_n zx zb dL_addFigure_2 rfl (lv_at hl 0 rfl) ?_
  refine cvI (rest := [.int (iI 0), .ref (g.1 33)]) (As := []) (b := g.1 0) C0 hH (c_X6_addFigure l g S hn) kw_L_23 ky_X6_addFigure ⟨Nat.le_of_ble_eq_true rfl, Nat.le_of_ble_eq_true rfl⟩ ⟨Nat.zero_le _, Nat.zero_le _⟩ 0 rfl rfl rfl hl.1 rfl (Nat.le_of_ble_eq_true rfl) dL_addFigure_3 (fun H locs hH => ?_)
  refine lv_i2l zx zb dL_addFigure_6 rfl ?_
  refine lsG C0 hH dL_addFigure_7 (fun H locs hH => ?_)
  refine lv_goto (tgt := 14) zx zb dL_addFigure_8 (by decide) ?_
  refine bi_const (n := 0) zx zb dL_addFigure_14 ?_
  exact retW0 C0 hret hlk hH dL_addFigure_15
set_option maxRecDepth 100000 in
set_option maxHeartbeats 4000000 in
theorem wx1_X6_addFigure (l : Launch) (g : gT) (S : gSt) (hn : S 4 0 = 8) (hfl : l.stackTraces = false) : LwM l g yL_addFigure cL_addFigure 3 [(0, 8, 11, 15)] [.ref (g.1 0), .ref (g.1 33)] S 1 S := by
  refine bodyW (by decide +kernel) (Nat.le_of_ble_eq_true rfl) ?_
  intro p e s m args below meth c ls C0 hret htab hlk hl hH
  have zx := C0.1
  have zb := C0.2.1
  have hl : lv_has ls 3 [(0, .ref (g.1 0)), (1, .ref (g.1 33))] := hl
  obtain ⟨H, hHe⟩ : ∃ H : Heap, H = s.heap := ⟨_, rfl⟩
  rw [show (Hp g S s s.heap []) = Hp g S s H [] by rw [hHe]] at hH
  rw [← hHe]
  refine lv_aload_n zx zb dL_addFigure_0 rfl (lv_at hl 1 rfl) ?_
  refine bi_const (n := 0) zx zb dL_addFigure_1 ?_
  refine lv_aload_n zx zb dL_addFigure_2 rfl (lv_at hl 0 rfl) ?_
  refine ctG (E := "java/lang/IllegalStateException") (name := "java/lang/IllegalStateException") (rest := [.int (iI 0), .ref (g.1 33)]) (As := []) (b := g.1 0) C0 hH (x1_X6_addFigure l g S hn hfl) kw_L_23 ky_X6_addFigure ⟨Nat.le_of_ble_eq_true rfl, Nat.le_of_ble_eq_true rfl⟩ ⟨Nat.le_of_ble_eq_true rfl, Nat.le_of_ble_eq_true rfl⟩ 0 rfl rfl rfl hl.1 rfl (Nat.le_of_ble_eq_true rfl) dL_addFigure_3 [] (⟨0, 8, 11, 15⟩ : ExceptionTableEntry) [] htab (fun _ h => absurd h List.not_mem_nil) (by decide) (by decide) (C0.2.2.2.2.1.w (gm 257 (by decide +kernel) rfl)) (C0.2.2.2.2.1.n (nmm 336 (by decide +kernel) rfl)) (fun q H locs hH => ?_)
  refine lv_astore_n zx zb dL_addFigure_11 rfl hl (by decide) rfl (fun ls hl => ?_)
  refine bi_const (n := 1) zx zb dL_addFigure_12 ?_
  exact retW C0 hret hlk hH dL_addFigure_13
set_option maxRecDepth 100000 in
set_option maxHeartbeats 4000000 in
theorem wc_X6_draw (l : Launch) (g : gT) (S : gSt) (f a b : Int) (hn1 : 0 ≤ S 1 0 ∧ S 1 0 ≤ 24) (hnf : 0 ≤ S 4 0 ∧ S 4 0 ≤ 8) (hfo : 0 ≤ f ∧ f < S 4 0) (hao : 0 ≤ a ∧ a < S 1 0) (hbo : 0 ≤ b ∧ b < S 1 0) (hN : okN (S 5)) (hE : okE (S 5) (S 6)) (hO : okE (S 5) (S 7)) (hh0 : 0 ≤ S 17 0 ∧ S 17 0 < 30) (hh1 : 0 ≤ S 17 1 ∧ S 17 1 ≤ 30) (hab : a ≠ b) (h10 : S 5 f < 10) (hj : jnB (S 5) (S 6) (S 7) f a b = false) (hoa : ¬(owI (S 4 0) (S 5) (S 6) (S 7) a ≠ -1 ∧ owI (S 4 0) (S 5) (S 6) (S 7) a ≠ f)) (hob : ¬(owI (S 4 0) (S 5) (S 6) (S 7) b ≠ -1 ∧ owI (S 4 0) (S 5) (S 6) (S 7) b ≠ f)) : LwM l g yL_draw cL_draw 6 [(0, 12, 15, 21), (0, 12, 19, 13), (0, 12, 23, 15)] [.ref (g.1 0), .int (iI f), .int (iI a), .int (iI b), .ref (g.1 33)] S 0 (st (lnIn (kpS S 1 f (S 5 f) a b) 5 6 7 f (S 5 f) a b) 33 0 (S 5 f)) := by
  refine bodyW (by decide +kernel) (Nat.le_of_ble_eq_true rfl) ?_
  intro p e s m args below meth c ls C0 hret htab hlk hl hH
  have zx := C0.1
  have zb := C0.2.1
  have hl : lv_has ls 6 [(0, .ref (g.1 0)), (1, .int (iI f)), (2, .int (iI a)), (3, .int (iI b)), (4, .ref (g.1 33))] := hl
  obtain ⟨H, hHe⟩ : ∃ H : Heap, H = s.heap := ⟨_, rfl⟩
  rw [show (Hp g S s s.heap []) = Hp g S s H [] by rw [hHe]] at hH
  rw [← hHe]
  refine lv_aload zx zb dL_draw_0 (lv_at hl 4 rfl) ?_
  refine bi_const (n := 0) zx zb dL_draw_2 ?_
  refine lv_aload_n zx zb dL_draw_3 rfl (lv_at hl 0 rfl) ?_
  refine lv_iload_n zx zb dL_draw_4 rfl (lv_at hl 1 rfl) ?_
  refine lv_iload_n zx zb dL_draw_5 rfl (lv_at hl 2 rfl) ?_
  refine lv_iload_n zx zb dL_draw_6 rfl (lv_at hl 3 rfl) ?_
  refine cvI (rest := [.int (iI 0), .ref (g.1 33)]) (As := [.int (iI f), .int (iI a), .int (iI b)]) (b := g.1 0) C0 hH (c_X6_draw l g S f a b hn1 hnf hfo hao hbo hN hE hO hh0 hh1 hab h10 hj hoa hob) kw_L_27 ky_X6_draw ⟨Nat.le_of_ble_eq_true rfl, Nat.le_of_ble_eq_true rfl⟩ ⟨Nat.zero_le _, Nat.zero_le _⟩ 0 rfl rfl rfl hl.1 rfl (Nat.le_of_ble_eq_true rfl) dL_draw_7 (fun H locs hH => ?_)
  refine lv_i2l zx zb dL_draw_10 rfl ?_
  refine lsG C0 hH dL_draw_11 (fun H locs hH => ?_)
  refine lv_goto (tgt := 27) zx zb dL_draw_12 (by decide) ?_
  refine bi_const (n := 0) zx zb dL_draw_27 ?_
  exact retW0 C0 hret hlk hH dL_draw_28
set_option maxRecDepth 100000 in
set_option maxHeartbeats 4000000 in
theorem wx1_X6_draw (l : Launch) (g : gT) (S : gSt) (f a b : Int) (hn1 : 0 ≤ S 1 0 ∧ S 1 0 ≤ 24) (hnf : 0 ≤ S 4 0 ∧ S 4 0 ≤ 8) (hr_f : -2147483648 ≤ f ∧ f < 2147483648) (hr_a : -2147483648 ≤ a ∧ a < 2147483648) (hr_b : -2147483648 ≤ b ∧ b < 2147483648) (hbad : ¬((0 ≤ f ∧ f < S 4 0) ∧ (0 ≤ a ∧ a < S 1 0) ∧ (0 ≤ b ∧ b < S 1 0))) (hfl : l.stackTraces = false) : LwM l g yL_draw cL_draw 6 [(0, 12, 15, 21), (0, 12, 19, 13), (0, 12, 23, 15)] [.ref (g.1 0), .int (iI f), .int (iI a), .int (iI b), .ref (g.1 33)] S 1 S := by
  refine bodyW (by decide +kernel) (Nat.le_of_ble_eq_true rfl) ?_
  intro p e s m args below meth c ls C0 hret htab hlk hl hH
  have zx := C0.1
  have zb := C0.2.1
  have hl : lv_has ls 6 [(0, .ref (g.1 0)), (1, .int (iI f)), (2, .int (iI a)), (3, .int (iI b)), (4, .ref (g.1 33))] := hl
  obtain ⟨H, hHe⟩ : ∃ H : Heap, H = s.heap := ⟨_, rfl⟩
  rw [show (Hp g S s s.heap []) = Hp g S s H [] by rw [hHe]] at hH
  rw [← hHe]
  refine lv_aload zx zb dL_draw_0 (lv_at hl 4 rfl) ?_
  refine bi_const (n := 0) zx zb dL_draw_2 ?_
  refine lv_aload_n zx zb dL_draw_3 rfl (lv_at hl 0 rfl) ?_
  refine lv_iload_n zx zb dL_draw_4 rfl (lv_at hl 1 rfl) ?_
  refine lv_iload_n zx zb dL_draw_5 rfl (lv_at hl 2 rfl) ?_
  refine lv_iload_n zx zb dL_draw_6 rfl (lv_at hl 3 rfl) ?_
  refine ctG (E := "java/lang/IndexOutOfBoundsException") (name := "java/lang/IndexOutOfBoundsException") (rest := [.int (iI 0), .ref (g.1 33)]) (As := [.int (iI f), .int (iI a), .int (iI b)]) (b := g.1 0) C0 hH (x1_X6_draw l g S f a b hn1 hnf hr_f hr_a hr_b hbad hfl) kw_L_27 ky_X6_draw ⟨Nat.le_of_ble_eq_true rfl, Nat.le_of_ble_eq_true rfl⟩ ⟨Nat.le_of_ble_eq_true rfl, Nat.le_of_ble_eq_true rfl⟩ 0 rfl rfl rfl hl.1 rfl (Nat.le_of_ble_eq_true rfl) dL_draw_7 [] (⟨0, 12, 15, 21⟩ : ExceptionTableEntry) [(⟨0, 12, 19, 13⟩ : ExceptionTableEntry), (⟨0, 12, 23, 15⟩ : ExceptionTableEntry)] htab (fun _ h => absurd h List.not_mem_nil) (by decide) (by decide) (C0.2.2.2.2.1.w (gm 361 (by decide +kernel) rfl)) (C0.2.2.2.2.1.n (nmm 372 (by decide +kernel) rfl)) (fun q H locs hH => ?_)
  refine lv_astore zx zb dL_draw_15 hl (by decide) rfl (fun ls hl => ?_)
  refine bi_const (n := 1) zx zb dL_draw_17 ?_
  exact retW C0 hret hlk hH dL_draw_18
set_option maxRecDepth 100000 in
set_option maxHeartbeats 4000000 in
theorem wx2_X6_draw (l : Launch) (g : gT) (S : gSt) (f a b : Int) (hn1 : 0 ≤ S 1 0 ∧ S 1 0 ≤ 24) (hnf : 0 ≤ S 4 0 ∧ S 4 0 ≤ 8) (hfo : 0 ≤ f ∧ f < S 4 0) (hao : 0 ≤ a ∧ a < S 1 0) (hbo : 0 ≤ b ∧ b < S 1 0) (hab : a = b) (hfl : l.stackTraces = false) : LwM l g yL_draw cL_draw 6 [(0, 12, 15, 21), (0, 12, 19, 13), (0, 12, 23, 15)] [.ref (g.1 0), .int (iI f), .int (iI a), .int (iI b), .ref (g.1 33)] S 2 S := by
  refine bodyW (by decide +kernel) (Nat.le_of_ble_eq_true rfl) ?_
  intro p e s m args below meth c ls C0 hret htab hlk hl hH
  have zx := C0.1
  have zb := C0.2.1
  have hl : lv_has ls 6 [(0, .ref (g.1 0)), (1, .int (iI f)), (2, .int (iI a)), (3, .int (iI b)), (4, .ref (g.1 33))] := hl
  obtain ⟨H, hHe⟩ : ∃ H : Heap, H = s.heap := ⟨_, rfl⟩
  rw [show (Hp g S s s.heap []) = Hp g S s H [] by rw [hHe]] at hH
  rw [← hHe]
  refine lv_aload zx zb dL_draw_0 (lv_at hl 4 rfl) ?_
  refine bi_const (n := 0) zx zb dL_draw_2 ?_
  refine lv_aload_n zx zb dL_draw_3 rfl (lv_at hl 0 rfl) ?_
  refine lv_iload_n zx zb dL_draw_4 rfl (lv_at hl 1 rfl) ?_
  refine lv_iload_n zx zb dL_draw_5 rfl (lv_at hl 2 rfl) ?_
  refine lv_iload_n zx zb dL_draw_6 rfl (lv_at hl 3 rfl) ?_
  refine ctG (E := "java/lang/IllegalArgumentException") (name := "java/lang/IllegalArgumentException") (rest := [.int (iI 0), .ref (g.1 33)]) (As := [.int (iI f), .int (iI a), .int (iI b)]) (b := g.1 0) C0 hH (x2_X6_draw l g S f a b hn1 hnf hfo hao hbo hab hfl) kw_L_27 ky_X6_draw ⟨Nat.le_of_ble_eq_true rfl, Nat.le_of_ble_eq_true rfl⟩ ⟨Nat.le_of_ble_eq_true rfl, Nat.le_of_ble_eq_true rfl⟩ 0 rfl rfl rfl hl.1 rfl (Nat.le_of_ble_eq_true rfl) dL_draw_7 [(⟨0, 12, 15, 21⟩ : ExceptionTableEntry)] (⟨0, 12, 19, 13⟩ : ExceptionTableEntry) [(⟨0, 12, 23, 15⟩ : ExceptionTableEntry)] htab (List.forall_mem_cons.mpr ⟨Or.inr ⟨by decide, "java/lang/IndexOutOfBoundsException", C0.2.2.2.2.1.w (gm 361 (by decide +kernel) rfl), C0.2.2.2.2.1.2.2.2.2.2 ("java/lang/IllegalArgumentException", "java/lang/IndexOutOfBoundsException") (by simp [NCL])⟩, (fun _ h => absurd h List.not_mem_nil)⟩) (by decide) (by decide) (C0.2.2.2.2.1.w (gm 256 (by decide +kernel) rfl)) (C0.2.2.2.2.1.n (nmm 267 (by decide +kernel) rfl)) (fun q H locs hH => ?_)
  refine lv_astore zx zb dL_draw_19 hl (by decide) rfl (fun ls hl => ?_)
  refine bi_const (n := 2) zx zb dL_draw_21 ?_
  exact retW C0 hret hlk hH dL_draw_22
set_option maxRecDepth 100000 in
set_option maxHeartbeats 4000000 in
theorem wx3_X6_draw (l : Launch) (g : gT) (S : gSt) (f a b : Int) (hn1 : 0 ≤ S 1 0 ∧ S 1 0 ≤ 24) (hnf : 0 ≤ S 4 0 ∧ S 4 0 ≤ 8) (hfo : 0 ≤ f ∧ f < S 4 0) (hao : 0 ≤ a ∧ a < S 1 0) (hbo : 0 ≤ b ∧ b < S 1 0) (hN : okN (S 5)) (hE : okE (S 5) (S 6)) (hO : okE (S 5) (S 7)) (hab : a ≠ b) (hbad : ¬(S 5 f < 10 ∧ jnB (S 5) (S 6) (S 7) f a b = false ∧ ¬(owI (S 4 0) (S 5) (S 6) (S 7) a ≠ -1 ∧ owI (S 4 0) (S 5) (S 6) (S 7) a ≠ f) ∧ ¬(owI (S 4 0) (S 5) (S 6) (S 7) b ≠ -1 ∧ owI (S 4 0) (S 5) (S 6) (S 7) b ≠ f))) (hfl : l.stackTraces = false) : LwM l g yL_draw cL_draw 6 [(0, 12, 15, 21), (0, 12, 19, 13), (0, 12, 23, 15)] [.ref (g.1 0), .int (iI f), .int (iI a), .int (iI b), .ref (g.1 33)] S 3 S := by
  refine bodyW (by decide +kernel) (Nat.le_of_ble_eq_true rfl) ?_
  intro p e s m args below meth c ls C0 hret htab hlk hl hH
  have zx := C0.1
  have zb := C0.2.1
  have hl : lv_has ls 6 [(0, .ref (g.1 0)), (1, .int (iI f)), (2, .int (iI a)), (3, .int (iI b)), (4, .ref (g.1 33))] := hl
  obtain ⟨H, hHe⟩ : ∃ H : Heap, H = s.heap := ⟨_, rfl⟩
  rw [show (Hp g S s s.heap []) = Hp g S s H [] by rw [hHe]] at hH
  rw [← hHe]
  refine lv_aload zx zb dL_draw_0 (lv_at hl 4 rfl) ?_
  refine bi_const (n := 0) zx zb dL_draw_2 ?_
  refine lv_aload_n zx zb dL_draw_3 rfl (lv_at hl 0 rfl) ?_
  refine lv_iload_n zx zb dL_draw_4 rfl (lv_at hl 1 rfl) ?_
  refine lv_iload_n zx zb dL_draw_5 rfl (lv_at hl 2 rfl) ?_
  refine lv_iload_n zx zb dL_draw_6 rfl (lv_at hl 3 rfl) ?_
  refine ctG (E := "java/lang/IllegalStateException") (name := "java/lang/IllegalStateException") (rest := [.int (iI 0), .ref (g.1 33)]) (As := [.int (iI f), .int (iI a), .int (iI b)]) (b := g.1 0) C0 hH (x3_X6_draw l g S f a b hn1 hnf hfo hao hbo hN hE hO hab hbad hfl) kw_L_27 ky_X6_draw ⟨Nat.le_of_ble_eq_true rfl, Nat.le_of_ble_eq_true rfl⟩ ⟨Nat.le_of_ble_eq_true rfl, Nat.le_of_ble_eq_true rfl⟩ 0 rfl rfl rfl hl.1 rfl (Nat.le_of_ble_eq_true rfl) dL_draw_7 [(⟨0, 12, 15, 21⟩ : ExceptionTableEntry), (⟨0, 12, 19, 13⟩ : ExceptionTableEntry)] (⟨0, 12, 23, 15⟩ : ExceptionTableEntry) [] htab (List.forall_mem_cons.mpr ⟨Or.inr ⟨by decide, "java/lang/IndexOutOfBoundsException", C0.2.2.2.2.1.w (gm 361 (by decide +kernel) rfl), C0.2.2.2.2.1.2.2.2.2.2 ("java/lang/IllegalStateException", "java/lang/IndexOutOfBoundsException") (by simp [NCL])⟩, (List.forall_mem_cons.mpr ⟨Or.inr ⟨by decide, "java/lang/IllegalArgumentException", C0.2.2.2.2.1.w (gm 256 (by decide +kernel) rfl), C0.2.2.2.2.1.2.2.2.2.2 ("java/lang/IllegalStateException", "java/lang/IllegalArgumentException") (by simp [NCL])⟩, (fun _ h => absurd h List.not_mem_nil)⟩)⟩) (by decide) (by decide) (C0.2.2.2.2.1.w (gm 257 (by decide +kernel) rfl)) (C0.2.2.2.2.1.n (nmm 336 (by decide +kernel) rfl)) (fun q H locs hH => ?_)
  refine lv_astore zx zb dL_draw_23 hl (by decide) rfl (fun ls hl => ?_)
  refine bi_const (n := 3) zx zb dL_draw_25 ?_
  exact retW C0 hret hlk hH dL_draw_26
set_option maxRecDepth 100000 in
set_option maxHeartbeats 4000000 in
theorem wc_X6_erase (l : Launch) (g : gT) (S : gSt) (f k : Int) (hnf : 0 ≤ S 4 0 ∧ S 4 0 ≤ 8) (hfo : 0 ≤ f ∧ f < S 4 0) (hko : 0 ≤ k ∧ k < S 5 f) (hh0 : 0 ≤ S 17 0 ∧ S 17 0 < 30) (hh1 : 0 ≤ S 17 1 ∧ S 17 1 ≤ 30) (hN : okN (S 5)) : LwM l g yL_erase cL_erase 5 [(0, 10, 13, 21)] [.ref (g.1 0), .int (iI f), .int (iI k), .ref (g.1 33)] S 0 (st (lnOut (kpS S 2 f k (S 6 (10 * f + k)) (S 7 (10 * f + k))) 5 6 7 f k) 33 0 (S 5 f - 1)) := by
  refine bodyW (by decide +kernel) (Nat.le_of_ble_eq_true rfl) ?_
  intro p e s m args below meth c ls C0 hret htab hlk hl hH
  have zx := C0.1
  have zb := C0.2.1
  have hl : lv_has ls 5 [(0, .ref (g.1 0)), (1, .int (iI f)), (2, .int (iI k)), (3, .ref (g.1 33))] := hl
  obtain ⟨H, hHe⟩ : ∃ H : Heap, H = s.heap := ⟨_, rfl⟩
  rw [show (Hp g S s s.heap []) = Hp g S s H [] by rw [hHe]] at hH
  rw [← hHe]
  refine lv_aload_n zx zb dL_erase_0 rfl (lv_at hl 3 rfl) ?_
  refine bi_const (n := 0) zx zb dL_erase_1 ?_
  refine lv_aload_n zx zb dL_erase_2 rfl (lv_at hl 0 rfl) ?_
  refine lv_iload_n zx zb dL_erase_3 rfl (lv_at hl 1 rfl) ?_
  refine lv_iload_n zx zb dL_erase_4 rfl (lv_at hl 2 rfl) ?_
  refine cvI (rest := [.int (iI 0), .ref (g.1 33)]) (As := [.int (iI f), .int (iI k)]) (b := g.1 0) C0 hH (c_X6_erase l g S f k hnf hfo hko hh0 hh1 hN) kw_L_30 ky_X6_erase ⟨Nat.le_of_ble_eq_true rfl, Nat.le_of_ble_eq_true rfl⟩ ⟨Nat.zero_le _, Nat.zero_le _⟩ 0 rfl rfl rfl hl.1 rfl (Nat.le_of_ble_eq_true rfl) dL_erase_5 (fun H locs hH => ?_)
  refine lv_i2l zx zb dL_erase_8 rfl ?_
  refine lsG C0 hH dL_erase_9 (fun H locs hH => ?_)
  refine lv_goto (tgt := 17) zx zb dL_erase_10 (by decide) ?_
  refine bi_const (n := 0) zx zb dL_erase_17 ?_
  exact retW0 C0 hret hlk hH dL_erase_18
set_option maxRecDepth 100000 in
set_option maxHeartbeats 4000000 in
theorem wx1_X6_erase (l : Launch) (g : gT) (S : gSt) (f k : Int) (hnf : 0 ≤ S 4 0 ∧ S 4 0 ≤ 8) (hr_f : -2147483648 ≤ f ∧ f < 2147483648) (hr_k : -2147483648 ≤ k ∧ k < 2147483648) (hbad : ¬((0 ≤ f ∧ f < S 4 0) ∧ (0 ≤ k ∧ k < S 5 f))) (hN : okN (S 5)) (hfl : l.stackTraces = false) : LwM l g yL_erase cL_erase 5 [(0, 10, 13, 21)] [.ref (g.1 0), .int (iI f), .int (iI k), .ref (g.1 33)] S 1 S := by
  refine bodyW (by decide +kernel) (Nat.le_of_ble_eq_true rfl) ?_
  intro p e s m args below meth c ls C0 hret htab hlk hl hH
  have zx := C0.1
  have zb := C0.2.1
  have hl : lv_has ls 5 [(0, .ref (g.1 0)), (1, .int (iI f)), (2, .int (iI k)), (3, .ref (g.1 33))] := hl
  obtain ⟨H, hHe⟩ : ∃ H : Heap, H = s.heap := ⟨_, rfl⟩
  rw [show (Hp g S s s.heap []) = Hp g S s H [] by rw [hHe]] at hH
  rw [← hHe]
  refine lv_aload_n zx zb dL_erase_0 rfl (lv_at hl 3 rfl) ?_
  refine bi_const (n := 0) zx zb dL_erase_1 ?_
  refine lv_aload_n zx zb dL_erase_2 rfl (lv_at hl 0 rfl) ?_
  refine lv_iload_n zx zb dL_erase_3 rfl (lv_at hl 1 rfl) ?_
  refine lv_iload_n zx zb dL_erase_4 rfl (lv_at hl 2 rfl) ?_
  refine ctG (E := "java/lang/IndexOutOfBoundsException") (name := "java/lang/IndexOutOfBoundsException") (rest := [.int (iI 0), .ref (g.1 33)]) (As := [.int (iI f), .int (iI k)]) (b := g.1 0) C0 hH (x1_X6_erase l g S f k hnf hr_f hr_k hbad hN hfl) kw_L_30 ky_X6_erase ⟨Nat.le_of_ble_eq_true rfl, Nat.le_of_ble_eq_true rfl⟩ ⟨Nat.le_of_ble_eq_true rfl, Nat.le_of_ble_eq_true rfl⟩ 0 rfl rfl rfl hl.1 rfl (Nat.le_of_ble_eq_true rfl) dL_erase_5 [] (⟨0, 10, 13, 21⟩ : ExceptionTableEntry) [] htab (fun _ h => absurd h List.not_mem_nil) (by decide) (by decide) (C0.2.2.2.2.1.w (gm 361 (by decide +kernel) rfl)) (C0.2.2.2.2.1.n (nmm 372 (by decide +kernel) rfl)) (fun q H locs hH => ?_)
  refine lv_astore zx zb dL_erase_13 hl (by decide) rfl (fun ls hl => ?_)
  refine bi_const (n := 1) zx zb dL_erase_15 ?_
  exact retW C0 hret hlk hH dL_erase_16
set_option maxRecDepth 100000 in
set_option maxHeartbeats 4000000 in
theorem wc0_X6_undo (l : Launch) (g : gT) (S : gSt) (hh0 : 0 ≤ S 17 0 ∧ S 17 0 < 30) (hh1 : 0 ≤ S 17 1 ∧ S 17 1 ≤ 30) (hkp : 0 < S 17 1) (hk : S 18 ((S 17 0 + 29) % 30) = 0) (hz : 0 ≤ S 19 ((S 17 0 + 29) % 30) ∧ S 19 ((S 17 0 + 29) % 30) < 24) : LwM l g yL_undo cL_undo 3 [(0, 8, 11, 15)] [.ref (g.1 0), .ref (g.1 33)] S 0 (st (mvS (sbS S) (S 19 ((S 17 0 + 29) % 30)) (S 21 ((S 17 0 + 29) % 30)) (S 22 ((S 17 0 + 29) % 30))) 33 0 (S 17 1 - 1)) := by
  refine bodyW (by decide +kernel) (Nat.le_of_ble_eq_true rfl) ?_
  intro p e s m args below meth c ls C0 hret htab hlk hl hH
  have zx := C0.1
  have zb := C0.2.1
  have hl : lv_has ls 3 [(0, .ref (g.1 0)), (1, .ref (g.1 33))] := hl
  obtain ⟨H, hHe⟩ : ∃ H : Heap, H = s.heap := ⟨_, rfl⟩
  rw [show (Hp g S s s.heap []) = Hp g S s H [] by rw [hHe]] at hH
  rw [← hHe]
  refine lv_aload_n zx zb dL_undo_0 rfl (lv_at hl 1 rfl) ?_
  refine bi_const (n := 0) zx zb dL_undo_1 ?_
  refine lv_aload_n zx zb dL_undo_2 rfl (lv_at hl 0 rfl) ?_
  refine cvI (rest := [.int (iI 0), .ref (g.1 33)]) (As := []) (b := g.1 0) C0 hH (c0_X6_undo l g S hh0 hh1 hkp hk hz) kw_L_33 ky_X6_undo ⟨Nat.le_of_ble_eq_true rfl, Nat.le_of_ble_eq_true rfl⟩ ⟨Nat.zero_le _, Nat.zero_le _⟩ 0 rfl rfl rfl hl.1 rfl (Nat.le_of_ble_eq_true rfl) dL_undo_3 (fun H locs hH => ?_)
  refine lv_i2l zx zb dL_undo_6 rfl ?_
  refine lsG C0 hH dL_undo_7 (fun H locs hH => ?_)
  refine lv_goto (tgt := 14) zx zb dL_undo_8 (by decide) ?_
  refine bi_const (n := 0) zx zb dL_undo_14 ?_
  exact retW0 C0 hret hlk hH dL_undo_15
set_option maxRecDepth 100000 in
set_option maxHeartbeats 4000000 in
theorem wc1_X6_undo (l : Launch) (g : gT) (S : gSt) (hh0 : 0 ≤ S 17 0 ∧ S 17 0 < 30) (hh1 : 0 ≤ S 17 1 ∧ S 17 1 ≤ 30) (hkp : 0 < S 17 1) (hk : S 18 ((S 17 0 + 29) % 30) = 1) (hz : 0 ≤ S 19 ((S 17 0 + 29) % 30) ∧ S 19 ((S 17 0 + 29) % 30) < 8) (hl0 : 0 ≤ S 20 ((S 17 0 + 29) % 30) ∧ S 20 ((S 17 0 + 29) % 30) < S 5 (S 19 ((S 17 0 + 29) % 30))) (hc : S 5 (S 19 ((S 17 0 + 29) % 30)) ≤ 10) : LwM l g yL_undo cL_undo 3 [(0, 8, 11, 15)] [.ref (g.1 0), .ref (g.1 33)] S 0 (st (lnOut (sbS S) 5 6 7 (S 19 ((S 17 0 + 29) % 30)) (S 20 ((S 17 0 + 29) % 30))) 33 0 (S 17 1 - 1)) := by
  refine bodyW (by decide +kernel) (Nat.le_of_ble_eq_true rfl) ?_
  intro p e s m args below meth c ls C0 hret htab hlk hl hH
  have zx := C0.1
  have zb := C0.2.1
  have hl : lv_has ls 3 [(0, .ref (g.1 0)), (1, .ref (g.1 33))] := hl
  obtain ⟨H, hHe⟩ : ∃ H : Heap, H = s.heap := ⟨_, rfl⟩
  rw [show (Hp g S s s.heap []) = Hp g S s H [] by rw [hHe]] at hH
  rw [← hHe]
  refine lv_aload_n zx zb dL_undo_0 rfl (lv_at hl 1 rfl) ?_
  refine bi_const (n := 0) zx zb dL_undo_1 ?_
  refine lv_aload_n zx zb dL_undo_2 rfl (lv_at hl 0 rfl) ?_
  refine cvI (rest := [.int (iI 0), .ref (g.1 33)]) (As := []) (b := g.1 0) C0 hH (c1_X6_undo l g S hh0 hh1 hkp hk hz hl0 hc) kw_L_33 ky_X6_undo ⟨Nat.le_of_ble_eq_true rfl, Nat.le_of_ble_eq_true rfl⟩ ⟨Nat.zero_le _, Nat.zero_le _⟩ 0 rfl rfl rfl hl.1 rfl (Nat.le_of_ble_eq_true rfl) dL_undo_3 (fun H locs hH => ?_)
  refine lv_i2l zx zb dL_undo_6 rfl ?_
  refine lsG C0 hH dL_undo_7 (fun H locs hH => ?_)
  refine lv_goto (tgt := 14) zx zb dL_undo_8 (by decide) ?_
  refine bi_const (n := 0) zx zb dL_undo_14 ?_
  exact retW0 C0 hret hlk hH dL_undo_15
set_option maxRecDepth 100000 in
set_option maxHeartbeats 4000000 in
theorem wc2_X6_undo (l : Launch) (g : gT) (S : gSt) (hh0 : 0 ≤ S 17 0 ∧ S 17 0 < 30) (hh1 : 0 ≤ S 17 1 ∧ S 17 1 ≤ 30) (hkp : 0 < S 17 1) (hk : S 18 ((S 17 0 + 29) % 30) = 2) (hz : 0 ≤ S 19 ((S 17 0 + 29) % 30) ∧ S 19 ((S 17 0 + 29) % 30) < 8) (hl0 : 0 ≤ S 20 ((S 17 0 + 29) % 30) ∧ S 20 ((S 17 0 + 29) % 30) ≤ S 5 (S 19 ((S 17 0 + 29) % 30))) (hc : S 5 (S 19 ((S 17 0 + 29) % 30)) < 10) : LwM l g yL_undo cL_undo 3 [(0, 8, 11, 15)] [.ref (g.1 0), .ref (g.1 33)] S 0 (st (lnIn (sbS S) 5 6 7 (S 19 ((S 17 0 + 29) % 30)) (S 20 ((S 17 0 + 29) % 30)) (S 21 ((S 17 0 + 29) % 30)) (S 22 ((S 17 0 + 29) % 30))) 33 0 (S 17 1 - 1)) := by
  refine bodyW (by decide +kernel) (Nat.le_of_ble_eq_true rfl) ?_
  intro p e s m args below meth c ls C0 hret htab hlk hl hH
  have zx := C0.1
  have zb := C0.2.1
  have hl : lv_has ls 3 [(0, .ref (g.1 0)), (1, .ref (g.1 33))] := hl
  obtain ⟨H, hHe⟩ : ∃ H : Heap, H = s.heap := ⟨_, rfl⟩
  rw [show (Hp g S s s.heap []) = Hp g S s H [] by rw [hHe]] at hH
  rw [← hHe]
  refine lv_aload_n zx zb dL_undo_0 rfl (lv_at hl 1 rfl) ?_
  refine bi_const (n := 0) zx zb dL_undo_1 ?_
  refine lv_aload_n zx zb dL_undo_2 rfl (lv_at hl 0 rfl) ?_
  refine cvI (rest := [.int (iI 0), .ref (g.1 33)]) (As := []) (b := g.1 0) C0 hH (c2_X6_undo l g S hh0 hh1 hkp hk hz hl0 hc) kw_L_33 ky_X6_undo ⟨Nat.le_of_ble_eq_true rfl, Nat.le_of_ble_eq_true rfl⟩ ⟨Nat.zero_le _, Nat.zero_le _⟩ 0 rfl rfl rfl hl.1 rfl (Nat.le_of_ble_eq_true rfl) dL_undo_3 (fun H locs hH => ?_)
  refine lv_i2l zx zb dL_undo_6 rfl ?_
  refine lsG C0 hH dL_undo_7 (fun H locs hH => ?_)
  refine lv_goto (tgt := 14) zx zb dL_undo_8 (by decide) ?_
  refine bi_const (n := 0) zx zb dL_undo_14 ?_
  exact retW0 C0 hret hlk hH dL_undo_15
set_option maxRecDepth 100000 in
set_option maxHeartbeats 4000000 in
theorem wx1_X6_undo (l : Launch) (g : gT) (S : gSt) (hh0 : 0 ≤ S 17 0 ∧ S 17 0 < 30) (hh1 : 0 ≤ S 17 1 ∧ S 17 1 ≤ 30) (hkp : S 17 1 = 0) (hfl : l.stackTraces = false) : LwM l g yL_undo cL_undo 3 [(0, 8, 11, 15)] [.ref (g.1 0), .ref (g.1 33)] S 1 S := by
  refine bodyW (by decide +kernel) (Nat.le_of_ble_eq_true rfl) ?_
  intro p e s m args below meth c ls C0 hret htab hlk hl hH
  have zx := C0.1
  have zb := C0.2.1
  have hl : lv_has ls 3 [(0, .ref (g.1 0)), (1, .ref (g.1 33))] := hl
  obtain ⟨H, hHe⟩ : ∃ H : Heap, H = s.heap := ⟨_, rfl⟩
  rw [show (Hp g S s s.heap []) = Hp g S s H [] by rw [hHe]] at hH
  rw [← hHe]
  refine lv_aload_n zx zb dL_undo_0 rfl (lv_at hl 1 rfl) ?_
  refine bi_const (n := 0) zx zb dL_undo_1 ?_
  refine lv_aload_n zx zb dL_undo_2 rfl (lv_at hl 0 rfl) ?_
  refine ctG (E := "java/lang/IllegalStateException") (name := "java/lang/IllegalStateException") (rest := [.int (iI 0), .ref (g.1 33)]) (As := []) (b := g.1 0) C0 hH (x1_X6_undo l g S hh0 hh1 hkp hfl) kw_L_33 ky_X6_undo ⟨Nat.le_of_ble_eq_true rfl, Nat.le_of_ble_eq_true rfl⟩ ⟨Nat.le_of_ble_eq_true rfl, Nat.le_of_ble_eq_true rfl⟩ 0 rfl rfl rfl hl.1 rfl (Nat.le_of_ble_eq_true rfl) dL_undo_3 [] (⟨0, 8, 11, 15⟩ : ExceptionTableEntry) [] htab (fun _ h => absurd h List.not_mem_nil) (by decide) (by decide) (C0.2.2.2.2.1.w (gm 257 (by decide +kernel) rfl)) (C0.2.2.2.2.1.n (nmm 336 (by decide +kernel) rfl)) (fun q H locs hH => ?_)
  refine lv_astore_n zx zb dL_undo_11 rfl hl (by decide) rfl (fun ls hl => ?_)
  refine bi_const (n := 1) zx zb dL_undo_12 ?_
  exact retW C0 hret hlk hH dL_undo_13
set_option maxRecDepth 100000 in
set_option maxHeartbeats 4000000 in
theorem wc_X6_lines (l : Launch) (g : gT) (S : gSt) (f : Int) (hnf : 0 ≤ S 4 0 ∧ S 4 0 ≤ 8) (hfo : 0 ≤ f ∧ f < S 4 0) : LwM l g yL_lines cL_lines 4 [(0, 9, 12, 21)] [.ref (g.1 0), .int (iI f), .ref (g.1 33)] S 0 (st S 33 0 (S 5 f)) := by
  refine bodyW (by decide +kernel) (Nat.le_of_ble_eq_true rfl) ?_
  intro p e s m args below meth c ls C0 hret htab hlk hl hH
  have zx := C0.1
  have zb := C0.2.1
  have hl : lv_has ls 4 [(0, .ref (g.1 0)), (1, .int (iI f)), (2, .ref (g.1 33))] := hl
  obtain ⟨H, hHe⟩ : ∃ H : Heap, H = s.heap := ⟨_, rfl⟩
  rw [show (Hp g S s s.heap []) = Hp g S s H [] by rw [hHe]] at hH
  rw [← hHe]
  refine lv_aload_n zx zb dL_lines_0 rfl (lv_at hl 2 rfl) ?_
  refine bi_const (n := 0) zx zb dL_lines_1 ?_
  refine lv_aload_n zx zb dL_lines_2 rfl (lv_at hl 0 rfl) ?_
  refine lv_iload_n zx zb dL_lines_3 rfl (lv_at hl 1 rfl) ?_
  refine cvI (rest := [.int (iI 0), .ref (g.1 33)]) (As := [.int (iI f)]) (b := g.1 0) C0 hH (c_X6_lines l g S f hnf hfo) kw_L_36 ky_X6_lines ⟨Nat.le_of_ble_eq_true rfl, Nat.le_of_ble_eq_true rfl⟩ ⟨Nat.zero_le _, Nat.zero_le _⟩ 0 rfl rfl rfl hl.1 rfl (Nat.le_of_ble_eq_true rfl) dL_lines_4 (fun H locs hH => ?_)
  refine lv_i2l zx zb dL_lines_7 rfl ?_
  refine lsG C0 hH dL_lines_8 (fun H locs hH => ?_)
  refine lv_goto (tgt := 15) zx zb dL_lines_9 (by decide) ?_
  refine bi_const (n := 0) zx zb dL_lines_15 ?_
  exact retW0 C0 hret hlk hH dL_lines_16
set_option maxRecDepth 100000 in
set_option maxHeartbeats 4000000 in
theorem wx1_X6_lines (l : Launch) (g : gT) (S : gSt) (f : Int) (hnf : 0 ≤ S 4 0 ∧ S 4 0 ≤ 8) (hr_f : -2147483648 ≤ f ∧ f < 2147483648) (hfb : ¬(0 ≤ f ∧ f < S 4 0)) (hfl : l.stackTraces = false) : LwM l g yL_lines cL_lines 4 [(0, 9, 12, 21)] [.ref (g.1 0), .int (iI f), .ref (g.1 33)] S 1 S := by
  refine bodyW (by decide +kernel) (Nat.le_of_ble_eq_true rfl) ?_
  intro p e s m args below meth c ls C0 hret htab hlk hl hH
  have zx := C0.1
  have zb := C0.2.1
  have hl : lv_has ls 4 [(0, .ref (g.1 0)), (1, .int (iI f)), (2, .ref (g.1 33))] := hl
  obtain ⟨H, hHe⟩ : ∃ H : Heap, H = s.heap := ⟨_, rfl⟩
  rw [show (Hp g S s s.heap []) = Hp g S s H [] by rw [hHe]] at hH
  rw [← hHe]
  refine lv_aload_n zx zb dL_lines_0 rfl (lv_at hl 2 rfl) ?_
  refine bi_const (n := 0) zx zb dL_lines_1 ?_
  refine lv_aload_n zx zb dL_lines_2 rfl (lv_at hl 0 rfl) ?_
  refine lv_iload_n zx zb dL_lines_3 rfl (lv_at hl 1 rfl) ?_
  refine ctG (E := "java/lang/IndexOutOfBoundsException") (name := "java/lang/IndexOutOfBoundsException") (rest := [.int (iI 0), .ref (g.1 33)]) (As := [.int (iI f)]) (b := g.1 0) C0 hH (x1_X6_lines l g S f hnf hr_f hfb hfl) kw_L_36 ky_X6_lines ⟨Nat.le_of_ble_eq_true rfl, Nat.le_of_ble_eq_true rfl⟩ ⟨Nat.le_of_ble_eq_true rfl, Nat.le_of_ble_eq_true rfl⟩ 0 rfl rfl rfl hl.1 rfl (Nat.le_of_ble_eq_true rfl) dL_lines_4 [] (⟨0, 9, 12, 21⟩ : ExceptionTableEntry) [] htab (fun _ h => absurd h List.not_mem_nil) (by decide) (by decide) (C0.2.2.2.2.1.w (gm 361 (by decide +kernel) rfl)) (C0.2.2.2.2.1.n (nmm 372 (by decide +kernel) rfl)) (fun q H locs hH => ?_)
  refine lv_astore_n zx zb dL_lines_12 rfl hl (by decide) rfl (fun ls hl => ?_)
  refine bi_const (n := 1) zx zb dL_lines_13 ?_
  exact retW C0 hret hlk hH dL_lines_14
set_option maxRecDepth 100000 in
set_option maxHeartbeats 4000000 in
theorem wc_X6_placeOf (l : Launch) (g : gT) (S : gSt) (z : Int) (hn1 : 0 ≤ S 1 0 ∧ S 1 0 ≤ 24) (hzo : 0 ≤ z ∧ z < S 1 0) : LwM l g yL_placeOf cL_placeOf 4 [(0, 9, 12, 21)] [.ref (g.1 0), .int (iI z), .ref (g.1 33)] S 0 (st S 33 0 (1000 * S 2 z + S 3 z + 90)) := by
  refine bodyW (by decide +kernel) (Nat.le_of_ble_eq_true rfl) ?_
  intro p e s m args below meth c ls C0 hret htab hlk hl hH
  have zx := C0.1
  have zb := C0.2.1
  have hl : lv_has ls 4 [(0, .ref (g.1 0)), (1, .int (iI z)), (2, .ref (g.1 33))] := hl
  obtain ⟨H, hHe⟩ : ∃ H : Heap, H = s.heap := ⟨_, rfl⟩
  rw [show (Hp g S s s.heap []) = Hp g S s H [] by rw [hHe]] at hH
  rw [← hHe]
  refine lv_aload_n zx zb dL_placeOf_0 rfl (lv_at hl 2 rfl) ?_
  refine bi_const (n := 0) zx zb dL_placeOf_1 ?_
  refine lv_aload_n zx zb dL_placeOf_2 rfl (lv_at hl 0 rfl) ?_
  refine lv_iload_n zx zb dL_placeOf_3 rfl (lv_at hl 1 rfl) ?_
  refine cvI (rest := [.int (iI 0), .ref (g.1 33)]) (As := [.int (iI z)]) (b := g.1 0) C0 hH (c_X6_placeOf l g S z hn1 hzo) kw_L_40 ky_X6_placeOf ⟨Nat.le_of_ble_eq_true rfl, Nat.le_of_ble_eq_true rfl⟩ ⟨Nat.zero_le _, Nat.zero_le _⟩ 0 rfl rfl rfl hl.1 rfl (Nat.le_of_ble_eq_true rfl) dL_placeOf_4 (fun H locs hH => ?_)
  refine lv_i2l zx zb dL_placeOf_7 rfl ?_
  refine lsG C0 hH dL_placeOf_8 (fun H locs hH => ?_)
  refine lv_goto (tgt := 15) zx zb dL_placeOf_9 (by decide) ?_
  refine bi_const (n := 0) zx zb dL_placeOf_15 ?_
  exact retW0 C0 hret hlk hH dL_placeOf_16
set_option maxRecDepth 100000 in
set_option maxHeartbeats 4000000 in
theorem wx1_X6_placeOf (l : Launch) (g : gT) (S : gSt) (z : Int) (hn1 : 0 ≤ S 1 0 ∧ S 1 0 ≤ 24) (hr_z : -2147483648 ≤ z ∧ z < 2147483648) (hzb : ¬(0 ≤ z ∧ z < S 1 0)) (hfl : l.stackTraces = false) : LwM l g yL_placeOf cL_placeOf 4 [(0, 9, 12, 21)] [.ref (g.1 0), .int (iI z), .ref (g.1 33)] S 1 S := by
  refine bodyW (by decide +kernel) (Nat.le_of_ble_eq_true rfl) ?_
  intro p e s m args below meth c ls C0 hret htab hlk hl hH
  have zx := C0.1
  have zb := C0.2.1
  have hl : lv_has ls 4 [(0, .ref (g.1 0)), (1, .int (iI z)), (2, .ref (g.1 33))] := hl
  obtain ⟨H, hHe⟩ : ∃ H : Heap, H = s.heap := ⟨_, rfl⟩
  rw [show (Hp g S s s.heap []) = Hp g S s H [] by rw [hHe]] at hH
  rw [← hHe]
  refine lv_aload_n zx zb dL_placeOf_0 rfl (lv_at hl 2 rfl) ?_
  refine bi_const (n := 0) zx zb dL_placeOf_1 ?_
  refine lv_aload_n zx zb dL_placeOf_2 rfl (lv_at hl 0 rfl) ?_
  refine lv_iload_n zx zb dL_placeOf_3 rfl (lv_at hl 1 rfl) ?_
  refine ctG (E := "java/lang/IndexOutOfBoundsException") (name := "java/lang/IndexOutOfBoundsException") (rest := [.int (iI 0), .ref (g.1 33)]) (As := [.int (iI z)]) (b := g.1 0) C0 hH (x1_X6_placeOf l g S z hn1 hr_z hzb hfl) kw_L_40 ky_X6_placeOf ⟨Nat.le_of_ble_eq_true rfl, Nat.le_of_ble_eq_true rfl⟩ ⟨Nat.le_of_ble_eq_true rfl, Nat.le_of_ble_eq_true rfl⟩ 0 rfl rfl rfl hl.1 rfl (Nat.le_of_ble_eq_true rfl) dL_placeOf_4 [] (⟨0, 9, 12, 21⟩ : ExceptionTableEntry) [] htab (fun _ h => absurd h List.not_mem_nil) (by decide) (by decide) (C0.2.2.2.2.1.w (gm 361 (by decide +kernel) rfl)) (C0.2.2.2.2.1.n (nmm 372 (by decide +kernel) rfl)) (fun q H locs hH => ?_)
  refine lv_astore_n zx zb dL_placeOf_12 rfl hl (by decide) rfl (fun ls hl => ?_)
  refine bi_const (n := 1) zx zb dL_placeOf_13 ?_
  exact retW C0 hret hlk hH dL_placeOf_14
set_option maxRecDepth 100000 in
set_option maxHeartbeats 4000000 in
theorem wc_X6_figureOf (l : Launch) (g : gT) (S : gSt) (z : Int) (hn1 : 0 ≤ S 1 0 ∧ S 1 0 ≤ 24) (hzo : 0 ≤ z ∧ z < S 1 0) (hnf : 0 ≤ S 4 0 ∧ S 4 0 ≤ 8) (hN : okN (S 5)) (hE : okE (S 5) (S 6)) (hO : okE (S 5) (S 7)) : LwM l g yL_figureOf cL_figureOf 4 [(0, 9, 12, 21)] [.ref (g.1 0), .int (iI z), .ref (g.1 33)] S 0 (st S 33 0 (owI (S 4 0) (S 5) (S 6) (S 7) z)) := by
  refine bodyW (by decide +kernel) (Nat.le_of_ble_eq_true rfl) ?_
  intro p e s m args below meth c ls C0 hret htab hlk hl hH
  have zx := C0.1
  have zb := C0.2.1
  have hl : lv_has ls 4 [(0, .ref (g.1 0)), (1, .int (iI z)), (2, .ref (g.1 33))] := hl
  obtain ⟨H, hHe⟩ : ∃ H : Heap, H = s.heap := ⟨_, rfl⟩
  rw [show (Hp g S s s.heap []) = Hp g S s H [] by rw [hHe]] at hH
  rw [← hHe]
  refine lv_aload_n zx zb dL_figureOf_0 rfl (lv_at hl 2 rfl) ?_
  refine bi_const (n := 0) zx zb dL_figureOf_1 ?_
  refine lv_aload_n zx zb dL_figureOf_2 rfl (lv_at hl 0 rfl) ?_
  refine lv_iload_n zx zb dL_figureOf_3 rfl (lv_at hl 1 rfl) ?_
  refine cvI (rest := [.int (iI 0), .ref (g.1 33)]) (As := [.int (iI z)]) (b := g.1 0) C0 hH (c_X6_figureOf l g S z hn1 hzo hnf hN hE hO) kw_L_43 ky_X6_figureOf ⟨Nat.le_of_ble_eq_true rfl, Nat.le_of_ble_eq_true rfl⟩ ⟨Nat.zero_le _, Nat.zero_le _⟩ 0 rfl rfl rfl hl.1 rfl (Nat.le_of_ble_eq_true rfl) dL_figureOf_4 (fun H locs hH => ?_)
  refine lv_i2l zx zb dL_figureOf_7 rfl ?_
  refine lsG C0 hH dL_figureOf_8 (fun H locs hH => ?_)
  refine lv_goto (tgt := 15) zx zb dL_figureOf_9 (by decide) ?_
  refine bi_const (n := 0) zx zb dL_figureOf_15 ?_
  exact retW0 C0 hret hlk hH dL_figureOf_16
set_option maxRecDepth 100000 in
set_option maxHeartbeats 4000000 in
theorem wx1_X6_figureOf (l : Launch) (g : gT) (S : gSt) (z : Int) (hn1 : 0 ≤ S 1 0 ∧ S 1 0 ≤ 24) (hr_z : -2147483648 ≤ z ∧ z < 2147483648) (hzb : ¬(0 ≤ z ∧ z < S 1 0)) (hfl : l.stackTraces = false) : LwM l g yL_figureOf cL_figureOf 4 [(0, 9, 12, 21)] [.ref (g.1 0), .int (iI z), .ref (g.1 33)] S 1 S := by
  refine bodyW (by decide +kernel) (Nat.le_of_ble_eq_true rfl) ?_
  intro p e s m args below meth c ls C0 hret htab hlk hl hH
  have zx := C0.1
  have zb := C0.2.1
  have hl : lv_has ls 4 [(0, .ref (g.1 0)), (1, .int (iI z)), (2, .ref (g.1 33))] := hl
  obtain ⟨H, hHe⟩ : ∃ H : Heap, H = s.heap := ⟨_, rfl⟩
  rw [show (Hp g S s s.heap []) = Hp g S s H [] by rw [hHe]] at hH
  rw [← hHe]
  refine lv_aload_n zx zb dL_figureOf_0 rfl (lv_at hl 2 rfl) ?_
  refine bi_const (n := 0) zx zb dL_figureOf_1 ?_
  refine lv_aload_n zx zb dL_figureOf_2 rfl (lv_at hl 0 rfl) ?_
  refine lv_iload_n zx zb dL_figureOf_3 rfl (lv_at hl 1 rfl) ?_
  refine ctG (E := "java/lang/IndexOutOfBoundsException") (name := "java/lang/IndexOutOfBoundsException") (rest := [.int (iI 0), .ref (g.1 33)]) (As := [.int (iI z)]) (b := g.1 0) C0 hH (x1_X6_figureOf l g S z hn1 hr_z hzb hfl) kw_L_43 ky_X6_figureOf ⟨Nat.le_of_ble_eq_true rfl, Nat.le_of_ble_eq_true rfl⟩ ⟨Nat.le_of_ble_eq_true rfl, Nat.le_of_ble_eq_true rfl⟩ 0 rfl rfl rfl hl.1 rfl (Nat.le_of_ble_eq_true rfl) dL_figureOf_4 [] (⟨0, 9, 12, 21⟩ : ExceptionTableEntry) [] htab (fun _ h => absurd h List.not_mem_nil) (by decide) (by decide) (C0.2.2.2.2.1.w (gm 361 (by decide +kernel) rfl)) (C0.2.2.2.2.1.n (nmm 372 (by decide +kernel) rfl)) (fun q H locs hH => ?_)
  refine lv_astore_n zx zb dL_figureOf_12 rfl hl (by decide) rfl (fun ls hl => ?_)
  refine bi_const (n := 1) zx zb dL_figureOf_13 ?_
  exact retW C0 hret hlk hH dL_figureOf_14
set_option maxRecDepth 100000 in
set_option maxHeartbeats 4000000 in
theorem wc_X6_crossings (l : Launch) (g : gT) (S : gSt) (f q : Int) (hnf : 0 ≤ S 4 0 ∧ S 4 0 ≤ 8) (hfo : 0 ≤ f ∧ f < S 4 0) (hqo : 0 ≤ q ∧ q < S 4 0) (hN : okN (S 5)) (hE : okE (S 5) (S 6)) (hO : okE (S 5) (S 7)) (hC : okC (S 2) (S 3)) : LwM l g yL_crossings cL_crossings 5 [(0, 10, 13, 21)] [.ref (g.1 0), .int (iI f), .int (iI q), .ref (g.1 33)] S 0 (st S 33 0 (crI (S 5) (S 6) (S 7) (S 2) (S 3) f q)) := by
  refine bodyW (by decide +kernel) (Nat.le_of_ble_eq_true rfl) ?_
  intro p e s m args below meth c ls C0 hret htab hlk hl hH
  have zx := C0.1
  have zb := C0.2.1
  have hl : lv_has ls 5 [(0, .ref (g.1 0)), (1, .int (iI f)), (2, .int (iI q)), (3, .ref (g.1 33))] := hl
  obtain ⟨H, hHe⟩ : ∃ H : Heap, H = s.heap := ⟨_, rfl⟩
  rw [show (Hp g S s s.heap []) = Hp g S s H [] by rw [hHe]] at hH
  rw [← hHe]
  refine lv_aload_n zx zb dL_crossings_0 rfl (lv_at hl 3 rfl) ?_
  refine bi_const (n := 0) zx zb dL_crossings_1 ?_
  refine lv_aload_n zx zb dL_crossings_2 rfl (lv_at hl 0 rfl) ?_
  refine lv_iload_n zx zb dL_crossings_3 rfl (lv_at hl 1 rfl) ?_
  refine lv_iload_n zx zb dL_crossings_4 rfl (lv_at hl 2 rfl) ?_
  refine cvI (rest := [.int (iI 0), .ref (g.1 33)]) (As := [.int (iI f), .int (iI q)]) (b := g.1 0) C0 hH (c_X6_crossings l g S f q hnf hfo hqo hN hE hO hC) kw_L_46 ky_X6_crossings ⟨Nat.le_of_ble_eq_true rfl, Nat.le_of_ble_eq_true rfl⟩ ⟨Nat.zero_le _, Nat.zero_le _⟩ 0 rfl rfl rfl hl.1 rfl (Nat.le_of_ble_eq_true rfl) dL_crossings_5 (fun H locs hH => ?_)
  refine lv_i2l zx zb dL_crossings_8 rfl ?_
  refine lsG C0 hH dL_crossings_9 (fun H locs hH => ?_)
  refine lv_goto (tgt := 17) zx zb dL_crossings_10 (by decide) ?_
  refine bi_const (n := 0) zx zb dL_crossings_17 ?_
  exact retW0 C0 hret hlk hH dL_crossings_18
set_option maxRecDepth 100000 in
set_option maxHeartbeats 4000000 in
theorem wx1_X6_crossings (l : Launch) (g : gT) (S : gSt) (f q : Int) (hnf : 0 ≤ S 4 0 ∧ S 4 0 ≤ 8) (hr_f : -2147483648 ≤ f ∧ f < 2147483648) (hr_q : -2147483648 ≤ q ∧ q < 2147483648) (hbad : ¬((0 ≤ f ∧ f < S 4 0) ∧ (0 ≤ q ∧ q < S 4 0))) (hfl : l.stackTraces = false) : LwM l g yL_crossings cL_crossings 5 [(0, 10, 13, 21)] [.ref (g.1 0), .int (iI f), .int (iI q), .ref (g.1 33)] S 1 S := by
  refine bodyW (by decide +kernel) (Nat.le_of_ble_eq_true rfl) ?_
  intro p e s m args below meth c ls C0 hret htab hlk hl hH
  have zx := C0.1
  have zb := C0.2.1
  have hl : lv_has ls 5 [(0, .ref (g.1 0)), (1, .int (iI f)), (2, .int (iI q)), (3, .ref (g.1 33))] := hl
  obtain ⟨H, hHe⟩ : ∃ H : Heap, H = s.heap := ⟨_, rfl⟩
  rw [show (Hp g S s s.heap []) = Hp g S s H [] by rw [hHe]] at hH
  rw [← hHe]
  refine lv_aload_n zx zb dL_crossings_0 rfl (lv_at hl 3 rfl) ?_
  refine bi_const (n := 0) zx zb dL_crossings_1 ?_
  refine lv_aload_n zx zb dL_crossings_2 rfl (lv_at hl 0 rfl) ?_
  refine lv_iload_n zx zb dL_crossings_3 rfl (lv_at hl 1 rfl) ?_
  refine lv_iload_n zx zb dL_crossings_4 rfl (lv_at hl 2 rfl) ?_
  refine ctG (E := "java/lang/IndexOutOfBoundsException") (name := "java/lang/IndexOutOfBoundsException") (rest := [.int (iI 0), .ref (g.1 33)]) (As := [.int (iI f), .int (iI q)]) (b := g.1 0) C0 hH (x1_X6_crossings l g S f q hnf hr_f hr_q hbad hfl) kw_L_46 ky_X6_crossings ⟨Nat.le_of_ble_eq_true rfl, Nat.le_of_ble_eq_true rfl⟩ ⟨Nat.le_of_ble_eq_true rfl, Nat.le_of_ble_eq_true rfl⟩ 0 rfl rfl rfl hl.1 rfl (Nat.le_of_ble_eq_true rfl) dL_crossings_5 [] (⟨0, 10, 13, 21⟩ : ExceptionTableEntry) [] htab (fun _ h => absurd h List.not_mem_nil) (by decide) (by decide) (C0.2.2.2.2.1.w (gm 361 (by decide +kernel) rfl)) (C0.2.2.2.2.1.n (nmm 372 (by decide +kernel) rfl)) (fun q H locs hH => ?_)
  refine lv_astore zx zb dL_crossings_13 hl (by decide) rfl (fun ls hl => ?_)
  refine bi_const (n := 1) zx zb dL_crossings_15 ?_
  exact retW C0 hret hlk hH dL_crossings_16
set_option maxRecDepth 100000 in
set_option maxHeartbeats 4000000 in
theorem wc_X6_vote (l : Launch) (g : gT) (S : gSt) (v f n : Int) (hvo : 0 ≤ v ∧ v < 6) (hnf : 0 ≤ S 4 0 ∧ S 4 0 ≤ 8) (hfo : 0 ≤ f ∧ f < S 4 0) (hn : -1 ≤ n ∧ n < 10) (h9 : ∀ j : Int, 0 ≤ j → j < 48 → -1 ≤ S 9 j ∧ S 9 j < 10) (hT : ∀ j : Int, 0 ≤ j → j < 80 → -7 ≤ S 10 j ∧ S 10 j ≤ 7) : LwM l g yL_vote cL_vote 6 [(0, 12, 15, 21), (0, 12, 19, 13)] [.ref (g.1 0), .int (iI v), .int (iI f), .int (iI n), .ref (g.1 33)] S 0 (st (rpS S v f n) 33 0 (S 9 (v * 8 + f))) := by
  refine bodyW (by decide +kernel) (Nat.le_of_ble_eq_true rfl) ?_
  intro p e s m args below meth c ls C0 hret htab hlk hl hH
  have zx := C0.1
  have zb := C0.2.1
  have hl : lv_has ls 6 [(0, .ref (g.1 0)), (1, .int (iI v)), (2, .int (iI f)), (3, .int (iI n)), (4, .ref (g.1 33))] := hl
  obtain ⟨H, hHe⟩ : ∃ H : Heap, H = s.heap := ⟨_, rfl⟩
  rw [show (Hp g S s s.heap []) = Hp g S s H [] by rw [hHe]] at hH
  rw [← hHe]
  refine lv_aload zx zb dL_vote_0 (lv_at hl 4 rfl) ?_
  refine bi_const (n := 0) zx zb dL_vote_2 ?_
  refine lv_aload_n zx zb dL_vote_3 rfl (lv_at hl 0 rfl) ?_
  refine lv_iload_n zx zb dL_vote_4 rfl (lv_at hl 1 rfl) ?_
  refine lv_iload_n zx zb dL_vote_5 rfl (lv_at hl 2 rfl) ?_
  refine lv_iload_n zx zb dL_vote_6 rfl (lv_at hl 3 rfl) ?_
  refine cvI (rest := [.int (iI 0), .ref (g.1 33)]) (As := [.int (iI v), .int (iI f), .int (iI n)]) (b := g.1 0) C0 hH (c_X6_vote l g S v f n hvo hnf hfo hn h9 hT) kw_L_49 ky_X6_vote ⟨Nat.le_of_ble_eq_true rfl, Nat.le_of_ble_eq_true rfl⟩ ⟨Nat.zero_le _, Nat.zero_le _⟩ 0 rfl rfl rfl hl.1 rfl (Nat.le_of_ble_eq_true rfl) dL_vote_7 (fun H locs hH => ?_)
  refine lv_i2l zx zb dL_vote_10 rfl ?_
  refine lsG C0 hH dL_vote_11 (fun H locs hH => ?_)
  refine lv_goto (tgt := 23) zx zb dL_vote_12 (by decide) ?_
  refine bi_const (n := 0) zx zb dL_vote_23 ?_
  exact retW0 C0 hret hlk hH dL_vote_24
set_option maxRecDepth 100000 in
set_option maxHeartbeats 4000000 in
theorem wx1_X6_vote (l : Launch) (g : gT) (S : gSt) (v f n : Int) (hnf : 0 ≤ S 4 0 ∧ S 4 0 ≤ 8) (hr_v : -2147483648 ≤ v ∧ v < 2147483648) (hr_f : -2147483648 ≤ f ∧ f < 2147483648) (hr_n : -2147483648 ≤ n ∧ n < 2147483648) (hbad : ¬((0 ≤ v ∧ v < 6) ∧ (0 ≤ f ∧ f < S 4 0))) (hfl : l.stackTraces = false) : LwM l g yL_vote cL_vote 6 [(0, 12, 15, 21), (0, 12, 19, 13)] [.ref (g.1 0), .int (iI v), .int (iI f), .int (iI n), .ref (g.1 33)] S 1 S := by
  refine bodyW (by decide +kernel) (Nat.le_of_ble_eq_true rfl) ?_
  intro p e s m args below meth c ls C0 hret htab hlk hl hH
  have zx := C0.1
  have zb := C0.2.1
  have hl : lv_has ls 6 [(0, .ref (g.1 0)), (1, .int (iI v)), (2, .int (iI f)), (3, .int (iI n)), (4, .ref (g.1 33))] := hl
  obtain ⟨H, hHe⟩ : ∃ H : Heap, H = s.heap := ⟨_, rfl⟩
  rw [show (Hp g S s s.heap []) = Hp g S s H [] by rw [hHe]] at hH
  rw [← hHe]
  refine lv_aload zx zb dL_vote_0 (lv_at hl 4 rfl) ?_
  refine bi_const (n := 0) zx zb dL_vote_2 ?_
  refine lv_aload_n zx zb dL_vote_3 rfl (lv_at hl 0 rfl) ?_
  refine lv_iload_n zx zb dL_vote_4 rfl (lv_at hl 1 rfl) ?_
  refine lv_iload_n zx zb dL_vote_5 rfl (lv_at hl 2 rfl) ?_
  refine lv_iload_n zx zb dL_vote_6 rfl (lv_at hl 3 rfl) ?_
  refine ctG (E := "java/lang/IndexOutOfBoundsException") (name := "java/lang/IndexOutOfBoundsException") (rest := [.int (iI 0), .ref (g.1 33)]) (As := [.int (iI v), .int (iI f), .int (iI n)]) (b := g.1 0) C0 hH (x1_X6_vote l g S v f n hnf hr_v hr_f hr_n hbad hfl) kw_L_49 ky_X6_vote ⟨Nat.le_of_ble_eq_true rfl, Nat.le_of_ble_eq_true rfl⟩ ⟨Nat.le_of_ble_eq_true rfl, Nat.le_of_ble_eq_true rfl⟩ 0 rfl rfl rfl hl.1 rfl (Nat.le_of_ble_eq_true rfl) dL_vote_7 [] (⟨0, 12, 15, 21⟩ : ExceptionTableEntry) [(⟨0, 12, 19, 13⟩ : ExceptionTableEntry)] htab (fun _ h => absurd h List.not_mem_nil) (by decide) (by decide) (C0.2.2.2.2.1.w (gm 361 (by decide +kernel) rfl)) (C0.2.2.2.2.1.n (nmm 372 (by decide +kernel) rfl)) (fun q H locs hH => ?_)
  refine lv_astore zx zb dL_vote_15 hl (by decide) rfl (fun ls hl => ?_)
  refine bi_const (n := 1) zx zb dL_vote_17 ?_
  exact retW C0 hret hlk hH dL_vote_18
set_option maxRecDepth 100000 in
set_option maxHeartbeats 4000000 in
theorem wx2_X6_vote (l : Launch) (g : gT) (S : gSt) (v f n : Int) (hvo : 0 ≤ v ∧ v < 6) (hnf : 0 ≤ S 4 0 ∧ S 4 0 ≤ 8) (hfo : 0 ≤ f ∧ f < S 4 0) (hr_n : -2147483648 ≤ n ∧ n < 2147483648) (hbad : ¬(-1 ≤ n ∧ n < 10)) (hfl : l.stackTraces = false) : LwM l g yL_vote cL_vote 6 [(0, 12, 15, 21), (0, 12, 19, 13)] [.ref (g.1 0), .int (iI v), .int (iI f), .int (iI n), .ref (g.1 33)] S 2 S := by
  refine bodyW (by decide +kernel) (Nat.le_of_ble_eq_true rfl) ?_
  intro p e s m args below meth c ls C0 hret htab hlk hl hH
  have zx := C0.1
  have zb := C0.2.1
  have hl : lv_has ls 6 [(0, .ref (g.1 0)), (1, .int (iI v)), (2, .int (iI f)), (3, .int (iI n)), (4, .ref (g.1 33))] := hl
  obtain ⟨H, hHe⟩ : ∃ H : Heap, H = s.heap := ⟨_, rfl⟩
  rw [show (Hp g S s s.heap []) = Hp g S s H [] by rw [hHe]] at hH
  rw [← hHe]
  refine lv_aload zx zb dL_vote_0 (lv_at hl 4 rfl) ?_
  refine bi_const (n := 0) zx zb dL_vote_2 ?_
  refine lv_aload_n zx zb dL_vote_3 rfl (lv_at hl 0 rfl) ?_
  refine lv_iload_n zx zb dL_vote_4 rfl (lv_at hl 1 rfl) ?_
  refine lv_iload_n zx zb dL_vote_5 rfl (lv_at hl 2 rfl) ?_
  refine lv_iload_n zx zb dL_vote_6 rfl (lv_at hl 3 rfl) ?_
  refine ctG (E := "java/lang/IllegalArgumentException") (name := "java/lang/IllegalArgumentException") (rest := [.int (iI 0), .ref (g.1 33)]) (As := [.int (iI v), .int (iI f), .int (iI n)]) (b := g.1 0) C0 hH (x2_X6_vote l g S v f n hvo hnf hfo hr_n hbad hfl) kw_L_49 ky_X6_vote ⟨Nat.le_of_ble_eq_true rfl, Nat.le_of_ble_eq_true rfl⟩ ⟨Nat.le_of_ble_eq_true rfl, Nat.le_of_ble_eq_true rfl⟩ 0 rfl rfl rfl hl.1 rfl (Nat.le_of_ble_eq_true rfl) dL_vote_7 [(⟨0, 12, 15, 21⟩ : ExceptionTableEntry)] (⟨0, 12, 19, 13⟩ : ExceptionTableEntry) [] htab (List.forall_mem_cons.mpr ⟨Or.inr ⟨by decide, "java/lang/IndexOutOfBoundsException", C0.2.2.2.2.1.w (gm 361 (by decide +kernel) rfl), C0.2.2.2.2.1.2.2.2.2.2 ("java/lang/IllegalArgumentException", "java/lang/IndexOutOfBoundsException") (by simp [NCL])⟩, (fun _ h => absurd h List.not_mem_nil)⟩) (by decide) (by decide) (C0.2.2.2.2.1.w (gm 256 (by decide +kernel) rfl)) (C0.2.2.2.2.1.n (nmm 267 (by decide +kernel) rfl)) (fun q H locs hH => ?_)
  refine lv_astore zx zb dL_vote_19 hl (by decide) rfl (fun ls hl => ?_)
  refine bi_const (n := 2) zx zb dL_vote_21 ?_
  exact retW C0 hret hlk hH dL_vote_22
set_option maxRecDepth 100000 in
set_option maxHeartbeats 4000000 in
theorem wc_X6_votes (l : Launch) (g : gT) (S : gSt) (f n : Int) (hnf : 0 ≤ S 4 0 ∧ S 4 0 ≤ 8) (hfo : 0 ≤ f ∧ f < S 4 0) (hn : 0 ≤ n ∧ n < 10) : LwM l g yL_votes cL_votes 5 [(0, 10, 13, 21), (0, 10, 17, 13)] [.ref (g.1 0), .int (iI f), .int (iI n), .ref (g.1 33)] S 0 (st S 33 0 (S 10 (f * 10 + n))) := by
  refine bodyW (by decide +kernel) (Nat.le_of_ble_eq_true rfl) ?_
  intro p e s m args below meth c ls C0 hret htab hlk hl hH
  have zx := C0.1
  have zb := C0.2.1
  have hl : lv_has ls 5 [(0, .ref (g.1 0)), (1, .int (iI f)), (2, .int (iI n)), (3, .ref (g.1 33))] := hl
  obtain ⟨H, hHe⟩ : ∃ H : Heap, H = s.heap := ⟨_, rfl⟩
  rw [show (Hp g S s s.heap []) = Hp g S s H [] by rw [hHe]] at hH
  rw [← hHe]
  refine lv_aload_n zx zb dL_votes_0 rfl (lv_at hl 3 rfl) ?_
  refine bi_const (n := 0) zx zb dL_votes_1 ?_
  refine lv_aload_n zx zb dL_votes_2 rfl (lv_at hl 0 rfl) ?_
  refine lv_iload_n zx zb dL_votes_3 rfl (lv_at hl 1 rfl) ?_
  refine lv_iload_n zx zb dL_votes_4 rfl (lv_at hl 2 rfl) ?_
  refine cvI (rest := [.int (iI 0), .ref (g.1 33)]) (As := [.int (iI f), .int (iI n)]) (b := g.1 0) C0 hH (c_X6_votes l g S f n hnf hfo hn) kw_L_52 ky_X6_votes ⟨Nat.le_of_ble_eq_true rfl, Nat.le_of_ble_eq_true rfl⟩ ⟨Nat.zero_le _, Nat.zero_le _⟩ 0 rfl rfl rfl hl.1 rfl (Nat.le_of_ble_eq_true rfl) dL_votes_5 (fun H locs hH => ?_)
  refine lv_i2l zx zb dL_votes_8 rfl ?_
  refine lsG C0 hH dL_votes_9 (fun H locs hH => ?_)
  refine lv_goto (tgt := 21) zx zb dL_votes_10 (by decide) ?_
  refine bi_const (n := 0) zx zb dL_votes_21 ?_
  exact retW0 C0 hret hlk hH dL_votes_22
set_option maxRecDepth 100000 in
set_option maxHeartbeats 4000000 in
theorem wx1_X6_votes (l : Launch) (g : gT) (S : gSt) (f n : Int) (hnf : 0 ≤ S 4 0 ∧ S 4 0 ≤ 8) (hr_f : -2147483648 ≤ f ∧ f < 2147483648) (hr_n : -2147483648 ≤ n ∧ n < 2147483648) (hfb : ¬(0 ≤ f ∧ f < S 4 0)) (hfl : l.stackTraces = false) : LwM l g yL_votes cL_votes 5 [(0, 10, 13, 21), (0, 10, 17, 13)] [.ref (g.1 0), .int (iI f), .int (iI n), .ref (g.1 33)] S 1 S := by
  refine bodyW (by decide +kernel) (Nat.le_of_ble_eq_true rfl) ?_
  intro p e s m args below meth c ls C0 hret htab hlk hl hH
  have zx := C0.1
  have zb := C0.2.1
  have hl : lv_has ls 5 [(0, .ref (g.1 0)), (1, .int (iI f)), (2, .int (iI n)), (3, .ref (g.1 33))] := hl
  obtain ⟨H, hHe⟩ : ∃ H : Heap, H = s.heap := ⟨_, rfl⟩
  rw [show (Hp g S s s.heap []) = Hp g S s H [] by rw [hHe]] at hH
  rw [← hHe]
  refine lv_aload_n zx zb dL_votes_0 rfl (lv_at hl 3 rfl) ?_
  refine bi_const (n := 0) zx zb dL_votes_1 ?_
  refine lv_aload_n zx zb dL_votes_2 rfl (lv_at hl 0 rfl) ?_
  refine lv_iload_n zx zb dL_votes_3 rfl (lv_at hl 1 rfl) ?_
  refine lv_iload_n zx zb dL_votes_4 rfl (lv_at hl 2 rfl) ?_
  refine ctG (E := "java/lang/IndexOutOfBoundsException") (name := "java/lang/IndexOutOfBoundsException") (rest := [.int (iI 0), .ref (g.1 33)]) (As := [.int (iI f), .int (iI n)]) (b := g.1 0) C0 hH (x1_X6_votes l g S f n hnf hr_f hr_n hfb hfl) kw_L_52 ky_X6_votes ⟨Nat.le_of_ble_eq_true rfl, Nat.le_of_ble_eq_true rfl⟩ ⟨Nat.le_of_ble_eq_true rfl, Nat.le_of_ble_eq_true rfl⟩ 0 rfl rfl rfl hl.1 rfl (Nat.le_of_ble_eq_true rfl) dL_votes_5 [] (⟨0, 10, 13, 21⟩ : ExceptionTableEntry) [(⟨0, 10, 17, 13⟩ : ExceptionTableEntry)] htab (fun _ h => absurd h List.not_mem_nil) (by decide) (by decide) (C0.2.2.2.2.1.w (gm 361 (by decide +kernel) rfl)) (C0.2.2.2.2.1.n (nmm 372 (by decide +kernel) rfl)) (fun q H locs hH => ?_)
  refine lv_astore zx zb dL_votes_13 hl (by decide) rfl (fun ls hl => ?_)
  refine bi_const (n := 1) zx zb dL_votes_15 ?_
  exact retW C0 hret hlk hH dL_votes_16
set_option maxRecDepth 100000 in
set_option maxHeartbeats 4000000 in
theorem wx2_X6_votes (l : Launch) (g : gT) (S : gSt) (f n : Int) (hnf : 0 ≤ S 4 0 ∧ S 4 0 ≤ 8) (hfo : 0 ≤ f ∧ f < S 4 0) (hr_n : -2147483648 ≤ n ∧ n < 2147483648) (hbad : ¬(0 ≤ n ∧ n < 10)) (hfl : l.stackTraces = false) : LwM l g yL_votes cL_votes 5 [(0, 10, 13, 21), (0, 10, 17, 13)] [.ref (g.1 0), .int (iI f), .int (iI n), .ref (g.1 33)] S 2 S := by
  refine bodyW (by decide +kernel) (Nat.le_of_ble_eq_true rfl) ?_
  intro p e s m args below meth c ls C0 hret htab hlk hl hH
  have zx := C0.1
  have zb := C0.2.1
  have hl : lv_has ls 5 [(0, .ref (g.1 0)), (1, .int (iI f)), (2, .int (iI n)), (3, .ref (g.1 33))] := hl
  obtain ⟨H, hHe⟩ : ∃ H : Heap, H = s.heap := ⟨_, rfl⟩
  rw [show (Hp g S s s.heap []) = Hp g S s H [] by rw [hHe]] at hH
  rw [← hHe]
  refine lv_aload_n zx zb dL_votes_0 rfl (lv_at hl 3 rfl) ?_
  refine bi_const (n := 0) zx zb dL_votes_1 ?_
  refine lv_aload_n zx zb dL_votes_2 rfl (lv_at hl 0 rfl) ?_
  refine lv_iload_n zx zb dL_votes_3 rfl (lv_at hl 1 rfl) ?_
  refine lv_iload_n zx zb dL_votes_4 rfl (lv_at hl 2 rfl) ?_
  refine ctG (E := "java/lang/IllegalArgumentException") (name := "java/lang/IllegalArgumentException") (rest := [.int (iI 0), .ref (g.1 33)]) (As := [.int (iI f), .int (iI n)]) (b := g.1 0) C0 hH (x2_X6_votes l g S f n hnf hfo hr_n hbad hfl) kw_L_52 ky_X6_votes ⟨Nat.le_of_ble_eq_true rfl, Nat.le_of_ble_eq_true rfl⟩ ⟨Nat.le_of_ble_eq_true rfl, Nat.le_of_ble_eq_true rfl⟩ 0 rfl rfl rfl hl.1 rfl (Nat.le_of_ble_eq_true rfl) dL_votes_5 [(⟨0, 10, 13, 21⟩ : ExceptionTableEntry)] (⟨0, 10, 17, 13⟩ : ExceptionTableEntry) [] htab (List.forall_mem_cons.mpr ⟨Or.inr ⟨by decide, "java/lang/IndexOutOfBoundsException", C0.2.2.2.2.1.w (gm 361 (by decide +kernel) rfl), C0.2.2.2.2.1.2.2.2.2.2 ("java/lang/IllegalArgumentException", "java/lang/IndexOutOfBoundsException") (by simp [NCL])⟩, (fun _ h => absurd h List.not_mem_nil)⟩) (by decide) (by decide) (C0.2.2.2.2.1.w (gm 256 (by decide +kernel) rfl)) (C0.2.2.2.2.1.n (nmm 267 (by decide +kernel) rfl)) (fun q H locs hH => ?_)
  refine lv_astore zx zb dL_votes_17 hl (by decide) rfl (fun ls hl => ?_)
  refine bi_const (n := 2) zx zb dL_votes_19 ?_
  exact retW C0 hret hlk hH dL_votes_20
set_option maxRecDepth 100000 in
set_option maxHeartbeats 4000000 in
theorem wc_X6_nameOf (l : Launch) (g : gT) (S : gSt) (f : Int) (hnf : 0 ≤ S 4 0 ∧ S 4 0 ≤ 8) (hfo : 0 ≤ f ∧ f < S 4 0) : LwM l g yL_nameOf cL_nameOf 4 [(0, 9, 12, 21)] [.ref (g.1 0), .int (iI f), .ref (g.1 33)] S 0 (st S 33 0 (S 11 f)) := by
  refine bodyW (by decide +kernel) (Nat.le_of_ble_eq_true rfl) ?_
  intro p e s m args below meth c ls C0 hret htab hlk hl hH
  have zx := C0.1
  have zb := C0.2.1
  have hl : lv_has ls 4 [(0, .ref (g.1 0)), (1, .int (iI f)), (2, .ref (g.1 33))] := hl
  obtain ⟨H, hHe⟩ : ∃ H : Heap, H = s.heap := ⟨_, rfl⟩
  rw [show (Hp g S s s.heap []) = Hp g S s H [] by rw [hHe]] at hH
  rw [← hHe]
  refine lv_aload_n zx zb dL_nameOf_0 rfl (lv_at hl 2 rfl) ?_
  refine bi_const (n := 0) zx zb dL_nameOf_1 ?_
  refine lv_aload_n zx zb dL_nameOf_2 rfl (lv_at hl 0 rfl) ?_
  refine lv_iload_n zx zb dL_nameOf_3 rfl (lv_at hl 1 rfl) ?_
  refine cvI (rest := [.int (iI 0), .ref (g.1 33)]) (As := [.int (iI f)]) (b := g.1 0) C0 hH (c_X6_nameOf l g S f hnf hfo) kw_L_55 ky_X6_nameOf ⟨Nat.le_of_ble_eq_true rfl, Nat.le_of_ble_eq_true rfl⟩ ⟨Nat.zero_le _, Nat.zero_le _⟩ 0 rfl rfl rfl hl.1 rfl (Nat.le_of_ble_eq_true rfl) dL_nameOf_4 (fun H locs hH => ?_)
  refine lv_i2l zx zb dL_nameOf_7 rfl ?_
  refine lsG C0 hH dL_nameOf_8 (fun H locs hH => ?_)
  refine lv_goto (tgt := 15) zx zb dL_nameOf_9 (by decide) ?_
  refine bi_const (n := 0) zx zb dL_nameOf_15 ?_
  exact retW0 C0 hret hlk hH dL_nameOf_16
set_option maxRecDepth 100000 in
set_option maxHeartbeats 4000000 in
theorem wx1_X6_nameOf (l : Launch) (g : gT) (S : gSt) (f : Int) (hnf : 0 ≤ S 4 0 ∧ S 4 0 ≤ 8) (hr_f : -2147483648 ≤ f ∧ f < 2147483648) (hfb : ¬(0 ≤ f ∧ f < S 4 0)) (hfl : l.stackTraces = false) : LwM l g yL_nameOf cL_nameOf 4 [(0, 9, 12, 21)] [.ref (g.1 0), .int (iI f), .ref (g.1 33)] S 1 S := by
  refine bodyW (by decide +kernel) (Nat.le_of_ble_eq_true rfl) ?_
  intro p e s m args below meth c ls C0 hret htab hlk hl hH
  have zx := C0.1
  have zb := C0.2.1
  have hl : lv_has ls 4 [(0, .ref (g.1 0)), (1, .int (iI f)), (2, .ref (g.1 33))] := hl
  obtain ⟨H, hHe⟩ : ∃ H : Heap, H = s.heap := ⟨_, rfl⟩
  rw [show (Hp g S s s.heap []) = Hp g S s H [] by rw [hHe]] at hH
  rw [← hHe]
  refine lv_aload_n zx zb dL_nameOf_0 rfl (lv_at hl 2 rfl) ?_
  refine bi_const (n := 0) zx zb dL_nameOf_1 ?_
  refine lv_aload_n zx zb dL_nameOf_2 rfl (lv_at hl 0 rfl) ?_
  refine lv_iload_n zx zb dL_nameOf_3 rfl (lv_at hl 1 rfl) ?_
  refine ctG (E := "java/lang/IndexOutOfBoundsException") (name := "java/lang/IndexOutOfBoundsException") (rest := [.int (iI 0), .ref (g.1 33)]) (As := [.int (iI f)]) (b := g.1 0) C0 hH (x1_X6_nameOf l g S f hnf hr_f hfb hfl) kw_L_55 ky_X6_nameOf ⟨Nat.le_of_ble_eq_true rfl, Nat.le_of_ble_eq_true rfl⟩ ⟨Nat.le_of_ble_eq_true rfl, Nat.le_of_ble_eq_true rfl⟩ 0 rfl rfl rfl hl.1 rfl (Nat.le_of_ble_eq_true rfl) dL_nameOf_4 [] (⟨0, 9, 12, 21⟩ : ExceptionTableEntry) [] htab (fun _ h => absurd h List.not_mem_nil) (by decide) (by decide) (C0.2.2.2.2.1.w (gm 361 (by decide +kernel) rfl)) (C0.2.2.2.2.1.n (nmm 372 (by decide +kernel) rfl)) (fun q H locs hH => ?_)
  refine lv_astore_n zx zb dL_nameOf_12 rfl hl (by decide) rfl (fun ls hl => ?_)
  refine bi_const (n := 1) zx zb dL_nameOf_13 ?_
  exact retW C0 hret hlk hH dL_nameOf_14
set_option maxRecDepth 100000 in
set_option maxHeartbeats 4000000 in
theorem wc_X6_height (l : Launch) (g : gT) (S : gSt) (z lat d h : Int) (hn1 : 0 ≤ S 1 0 ∧ S 1 0 ≤ 24) (hzo : 0 ≤ z ∧ z < S 1 0) (hlat : -90 ≤ lat ∧ lat ≤ 90) (hd : 0 ≤ d ∧ d < 365) (hh : 0 ≤ h ∧ h < 24) (hC : okC (S 2) (S 3)) : LwM l g yL_height cL_height 7 [(0, 14, 17, 21), (0, 14, 21, 13)] [.ref (g.1 0), .int (iI z), .int (iI lat), .int (iI d), .int (iI h), .ref (g.1 33)] S 0 (st S 33 0 (hg lat (S 3 z) (15 * h + d - S 2 z))) := by
  refine bodyW (by decide +kernel) (Nat.le_of_ble_eq_true rfl) ?_
  intro p e s m args below meth c ls C0 hret htab hlk hl hH
  have zx := C0.1
  have zb := C0.2.1
  have hl : lv_has ls 7 [(0, .ref (g.1 0)), (1, .int (iI z)), (2, .int (iI lat)), (3, .int (iI d)), (4, .int (iI h)), (5, .ref (g.1 33))] := hl
  obtain ⟨H, hHe⟩ : ∃ H : Heap, H = s.heap := ⟨_, rfl⟩
  rw [show (Hp g S s s.heap []) = Hp g S s H [] by rw [hHe]] at hH
  rw [← hHe]
  refine lv_aload zx zb dL_height_0 (lv_at hl 5 rfl) ?_
  refine bi_const (n := 0) zx zb dL_height_2 ?_
  refine lv_aload_n zx zb dL_height_3 rfl (lv_at hl 0 rfl) ?_
  refine lv_iload_n zx zb dL_height_4 rfl (lv_at hl 1 rfl) ?_
  refine lv_iload_n zx zb dL_height_5 rfl (lv_at hl 2 rfl) ?_
  refine lv_iload_n zx zb dL_height_6 rfl (lv_at hl 3 rfl) ?_
  refine lv_iload zx zb dL_height_7 (lv_at hl 4 rfl) ?_
  refine cvI (rest := [.int (iI 0), .ref (g.1 33)]) (As := [.int (iI z), .int (iI lat), .int (iI d), .int (iI h)]) (b := g.1 0) C0 hH (c_X6_height l g S z lat d h hn1 hzo hlat hd hh hC) kw_L_58 ky_X6_height ⟨Nat.le_of_ble_eq_true rfl, Nat.le_of_ble_eq_true rfl⟩ ⟨Nat.zero_le _, Nat.zero_le _⟩ 0 rfl rfl rfl hl.1 rfl (Nat.le_of_ble_eq_true rfl) dL_height_9 (fun H locs hH => ?_)
  refine lv_i2l zx zb dL_height_12 rfl ?_
  refine lsG C0 hH dL_height_13 (fun H locs hH => ?_)
  refine lv_goto (tgt := 25) zx zb dL_height_14 (by decide) ?_
  refine bi_const (n := 0) zx zb dL_height_25 ?_
  exact retW0 C0 hret hlk hH dL_height_26
set_option maxRecDepth 100000 in
set_option maxHeartbeats 4000000 in
theorem wx1_X6_height (l : Launch) (g : gT) (S : gSt) (z lat d h : Int) (hn1 : 0 ≤ S 1 0 ∧ S 1 0 ≤ 24) (hr_z : -2147483648 ≤ z ∧ z < 2147483648) (hzb : ¬(0 ≤ z ∧ z < S 1 0)) (hfl : l.stackTraces = false) : LwM l g yL_height cL_height 7 [(0, 14, 17, 21), (0, 14, 21, 13)] [.ref (g.1 0), .int (iI z), .int (iI lat), .int (iI d), .int (iI h), .ref (g.1 33)] S 1 S := by
  refine bodyW (by decide +kernel) (Nat.le_of_ble_eq_true rfl) ?_
  intro p e s m args below meth c ls C0 hret htab hlk hl hH
  have zx := C0.1
  have zb := C0.2.1
  have hl : lv_has ls 7 [(0, .ref (g.1 0)), (1, .int (iI z)), (2, .int (iI lat)), (3, .int (iI d)), (4, .int (iI h)), (5, .ref (g.1 33))] := hl
  obtain ⟨H, hHe⟩ : ∃ H : Heap, H = s.heap := ⟨_, rfl⟩
  rw [show (Hp g S s s.heap []) = Hp g S s H [] by rw [hHe]] at hH
  rw [← hHe]
  refine lv_aload zx zb dL_height_0 (lv_at hl 5 rfl) ?_
  refine bi_const (n := 0) zx zb dL_height_2 ?_
  refine lv_aload_n zx zb dL_height_3 rfl (lv_at hl 0 rfl) ?_
  refine lv_iload_n zx zb dL_height_4 rfl (lv_at hl 1 rfl) ?_
  refine lv_iload_n zx zb dL_height_5 rfl (lv_at hl 2 rfl) ?_
  refine lv_iload_n zx zb dL_height_6 rfl (lv_at hl 3 rfl) ?_
  refine lv_iload zx zb dL_height_7 (lv_at hl 4 rfl) ?_
  refine ctG (E := "java/lang/IndexOutOfBoundsException") (name := "java/lang/IndexOutOfBoundsException") (rest := [.int (iI 0), .ref (g.1 33)]) (As := [.int (iI z), .int (iI lat), .int (iI d), .int (iI h)]) (b := g.1 0) C0 hH (x1_X6_height l g S z lat d h hn1 hr_z hzb hfl) kw_L_58 ky_X6_height ⟨Nat.le_of_ble_eq_true rfl, Nat.le_of_ble_eq_true rfl⟩ ⟨Nat.le_of_ble_eq_true rfl, Nat.le_of_ble_eq_true rfl⟩ 0 rfl rfl rfl hl.1 rfl (Nat.le_of_ble_eq_true rfl) dL_height_9 [] (⟨0, 14, 17, 21⟩ : ExceptionTableEntry) [(⟨0, 14, 21, 13⟩ : ExceptionTableEntry)] htab (fun _ h => absurd h List.not_mem_nil) (by decide) (by decide) (C0.2.2.2.2.1.w (gm 361 (by decide +kernel) rfl)) (C0.2.2.2.2.1.n (nmm 372 (by decide +kernel) rfl)) (fun q H locs hH => ?_)
  refine lv_astore zx zb dL_height_17 hl (by decide) rfl (fun ls hl => ?_)
  refine bi_const (n := 1) zx zb dL_height_19 ?_
  exact retW C0 hret hlk hH dL_height_20
set_option maxRecDepth 100000 in
set_option maxHeartbeats 4000000 in
theorem wx2_X6_height (l : Launch) (g : gT) (S : gSt) (z lat d h : Int) (hn1 : 0 ≤ S 1 0 ∧ S 1 0 ≤ 24) (hzo : 0 ≤ z ∧ z < S 1 0) (hr_lat : -2147483648 ≤ lat ∧ lat < 2147483648) (hr_d : -2147483648 ≤ d ∧ d < 2147483648) (hr_h : -2147483648 ≤ h ∧ h < 2147483648) (hbad : ¬((-90 ≤ lat ∧ lat ≤ 90) ∧ (0 ≤ d ∧ d < 365) ∧ (0 ≤ h ∧ h < 24))) (hfl : l.stackTraces = false) : LwM l g yL_height cL_height 7 [(0, 14, 17, 21), (0, 14, 21, 13)] [.ref (g.1 0), .int (iI z), .int (iI lat), .int (iI d), .int (iI h), .ref (g.1 33)] S 2 S := by
  refine bodyW (by decide +kernel) (Nat.le_of_ble_eq_true rfl) ?_
  intro p e s m args below meth c ls C0 hret htab hlk hl hH
  have zx := C0.1
  have zb := C0.2.1
  have hl : lv_has ls 7 [(0, .ref (g.1 0)), (1, .int (iI z)), (2, .int (iI lat)), (3, .int (iI d)), (4, .int (iI h)), (5, .ref (g.1 33))] := hl
  obtain ⟨H, hHe⟩ : ∃ H : Heap, H = s.heap := ⟨_, rfl⟩
  rw [show (Hp g S s s.heap []) = Hp g S s H [] by rw [hHe]] at hH
  rw [← hHe]
  refine lv_aload zx zb dL_height_0 (lv_at hl 5 rfl) ?_
  refine bi_const (n := 0) zx zb dL_height_2 ?_
  refine lv_aload_n zx zb dL_height_3 rfl (lv_at hl 0 rfl) ?_
  refine lv_iload_n zx zb dL_height_4 rfl (lv_at hl 1 rfl) ?_
  refine lv_iload_n zx zb dL_height_5 rfl (lv_at hl 2 rfl) ?_
  refine lv_iload_n zx zb dL_height_6 rfl (lv_at hl 3 rfl) ?_
  refine lv_iload zx zb dL_height_7 (lv_at hl 4 rfl) ?_
  refine ctG (E := "java/lang/IllegalArgumentException") (name := "java/lang/IllegalArgumentException") (rest := [.int (iI 0), .ref (g.1 33)]) (As := [.int (iI z), .int (iI lat), .int (iI d), .int (iI h)]) (b := g.1 0) C0 hH (x2_X6_height l g S z lat d h hn1 hzo hr_lat hr_d hr_h hbad hfl) kw_L_58 ky_X6_height ⟨Nat.le_of_ble_eq_true rfl, Nat.le_of_ble_eq_true rfl⟩ ⟨Nat.le_of_ble_eq_true rfl, Nat.le_of_ble_eq_true rfl⟩ 0 rfl rfl rfl hl.1 rfl (Nat.le_of_ble_eq_true rfl) dL_height_9 [(⟨0, 14, 17, 21⟩ : ExceptionTableEntry)] (⟨0, 14, 21, 13⟩ : ExceptionTableEntry) [] htab (List.forall_mem_cons.mpr ⟨Or.inr ⟨by decide, "java/lang/IndexOutOfBoundsException", C0.2.2.2.2.1.w (gm 361 (by decide +kernel) rfl), C0.2.2.2.2.1.2.2.2.2.2 ("java/lang/IllegalArgumentException", "java/lang/IndexOutOfBoundsException") (by simp [NCL])⟩, (fun _ h => absurd h List.not_mem_nil)⟩) (by decide) (by decide) (C0.2.2.2.2.1.w (gm 256 (by decide +kernel) rfl)) (C0.2.2.2.2.1.n (nmm 267 (by decide +kernel) rfl)) (fun q H locs hH => ?_)
  refine lv_astore zx zb dL_height_21 hl (by decide) rfl (fun ls hl => ?_)
  refine bi_const (n := 2) zx zb dL_height_23 ?_
  exact retW C0 hret hlk hH dL_height_24
set_option maxRecDepth 100000 in
set_option maxHeartbeats 4000000 in
theorem wc_X6_isUp (l : Launch) (g : gT) (S : gSt) (f lat d h : Int) (hnf : 0 ≤ S 4 0 ∧ S 4 0 ≤ 8) (hfo : 0 ≤ f ∧ f < S 4 0) (hlat : -90 ≤ lat ∧ lat ≤ 90) (hd : 0 ≤ d ∧ d < 365) (hh : 0 ≤ h ∧ h < 24) (hN : okN (S 5)) (hE : okE (S 5) (S 6)) (hO : okE (S 5) (S 7)) (hC : okC (S 2) (S 3)) : LwM l g yL_isUp cL_isUp 7 [(0, 21, 24, 21), (0, 21, 28, 13)] [.ref (g.1 0), .int (iI f), .int (iI lat), .int (iI d), .int (iI h), .ref (g.1 33)] S 0 (st S 33 0 (if upB (S 5) (S 6) (S 7) (S 2) (S 3) f lat (15 * h + d) = true then 1 else 0)) := by
  refine bodyW (by decide +kernel) (Nat.le_of_ble_eq_true rfl) ?_
  intro p e s m args below meth c ls C0 hret htab hlk hl hH
  have zx := C0.1
  have zb := C0.2.1
  have hl : lv_has ls 7 [(0, .ref (g.1 0)), (1, .int (iI f)), (2, .int (iI lat)), (3, .int (iI d)), (4, .int (iI h)), (5, .ref (g.1 33))] := hl
  obtain ⟨H, hHe⟩ : ∃ H : Heap, H = s.heap := ⟨_, rfl⟩
  rw [show (Hp g S s s.heap []) = Hp g S s H [] by rw [hHe]] at hH
  rw [← hHe]
  refine lv_aload zx zb dL_isUp_0 (lv_at hl 5 rfl) ?_
  refine bi_const (n := 0) zx zb dL_isUp_2 ?_
  refine lv_aload_n zx zb dL_isUp_3 rfl (lv_at hl 0 rfl) ?_
  refine lv_iload_n zx zb dL_isUp_4 rfl (lv_at hl 1 rfl) ?_
  refine lv_iload_n zx zb dL_isUp_5 rfl (lv_at hl 2 rfl) ?_
  refine lv_iload_n zx zb dL_isUp_6 rfl (lv_at hl 3 rfl) ?_
  refine lv_iload zx zb dL_isUp_7 (lv_at hl 4 rfl) ?_
  refine cvI (rest := [.int (iI 0), .ref (g.1 33)]) (As := [.int (iI f), .int (iI lat), .int (iI d), .int (iI h)]) (b := g.1 0) C0 hH (c_X6_isUp l g S f lat d h hnf hfo hlat hd hh hN hE hO hC) kw_L_62 ky_X6_isUp ⟨Nat.le_of_ble_eq_true rfl, Nat.le_of_ble_eq_true rfl⟩ ⟨Nat.zero_le _, Nat.zero_le _⟩ 0 rfl rfl rfl hl.1 rfl (Nat.le_of_ble_eq_true rfl) dL_isUp_9 (fun H locs hH => ?_)
  have hbr := brg (upB (S 5) (S 6) (S 7) (S 2) (S 3) f lat (15 * h + d))
  refine bz_eq (tgt := 19) zx zb dL_isUp_12 (by decide) ⟨by omega, by omega⟩ (fun zq7 => ?_) (fun zq7 => ?_)
  · rw [zq7]
    refine lv_lconst (v := (iI 0).toInt64) zx zb dL_isUp_19 (by decide) ?_
    refine lsG C0 hH dL_isUp_20 (fun H locs hH => ?_)
    refine lv_goto (tgt := 32) zx zb dL_isUp_21 (by decide) ?_
    refine bi_const (n := 0) zx zb dL_isUp_32 ?_
    exact retW0 C0 hret hlk hH dL_isUp_33
  · have zq8 : (if upB (S 5) (S 6) (S 7) (S 2) (S 3) f lat (15 * h + d) = true then (1 : Int) else 0) = 1 := by omega
    rw [zq8]
    refine lv_lconst (v := (iI 1).toInt64) zx zb dL_isUp_15 (by decide) ?_
    refine lv_goto (tgt := 20) zx zb dL_isUp_16 (by decide) ?_
    refine lsG C0 hH dL_isUp_20 (fun H locs hH => ?_)
    refine lv_goto (tgt := 32) zx zb dL_isUp_21 (by decide) ?_
    refine bi_const (n := 0) zx zb dL_isUp_32 ?_
    exact retW0 C0 hret hlk hH dL_isUp_33
set_option maxRecDepth 100000 in
set_option maxHeartbeats 4000000 in
theorem wx1_X6_isUp (l : Launch) (g : gT) (S : gSt) (f lat d h : Int) (hnf : 0 ≤ S 4 0 ∧ S 4 0 ≤ 8) (hr_f : -2147483648 ≤ f ∧ f < 2147483648) (hfb : ¬(0 ≤ f ∧ f < S 4 0)) (hfl : l.stackTraces = false) : LwM l g yL_isUp cL_isUp 7 [(0, 21, 24, 21), (0, 21, 28, 13)] [.ref (g.1 0), .int (iI f), .int (iI lat), .int (iI d), .int (iI h), .ref (g.1 33)] S 1 S := by
  refine bodyW (by decide +kernel) (Nat.le_of_ble_eq_true rfl) ?_
  intro p e s m args below meth c ls C0 hret htab hlk hl hH
  have zx := C0.1
  have zb := C0.2.1
  have hl : lv_has ls 7 [(0, .ref (g.1 0)), (1, .int (iI f)), (2, .int (iI lat)), (3, .int (iI d)), (4, .int (iI h)), (5, .ref (g.1 33))] := hl
  obtain ⟨H, hHe⟩ : ∃ H : Heap, H = s.heap := ⟨_, rfl⟩
  rw [show (Hp g S s s.heap []) = Hp g S s H [] by rw [hHe]] at hH
  rw [← hHe]
  refine lv_aload zx zb dL_isUp_0 (lv_at hl 5 rfl) ?_
  refine bi_const (n := 0) zx zb dL_isUp_2 ?_
  refine lv_aload_n zx zb dL_isUp_3 rfl (lv_at hl 0 rfl) ?_
  refine lv_iload_n zx zb dL_isUp_4 rfl (lv_at hl 1 rfl) ?_
  refine lv_iload_n zx zb dL_isUp_5 rfl (lv_at hl 2 rfl) ?_
  refine lv_iload_n zx zb dL_isUp_6 rfl (lv_at hl 3 rfl) ?_
  refine lv_iload zx zb dL_isUp_7 (lv_at hl 4 rfl) ?_
  refine ctG (E := "java/lang/IndexOutOfBoundsException") (name := "java/lang/IndexOutOfBoundsException") (rest := [.int (iI 0), .ref (g.1 33)]) (As := [.int (iI f), .int (iI lat), .int (iI d), .int (iI h)]) (b := g.1 0) C0 hH (x1_X6_isUp l g S f lat d h hnf hr_f hfb hfl) kw_L_62 ky_X6_isUp ⟨Nat.le_of_ble_eq_true rfl, Nat.le_of_ble_eq_true rfl⟩ ⟨Nat.le_of_ble_eq_true rfl, Nat.le_of_ble_eq_true rfl⟩ 0 rfl rfl rfl hl.1 rfl (Nat.le_of_ble_eq_true rfl) dL_isUp_9 [] (⟨0, 21, 24, 21⟩ : ExceptionTableEntry) [(⟨0, 21, 28, 13⟩ : ExceptionTableEntry)] htab (fun _ h => absurd h List.not_mem_nil) (by decide) (by decide) (C0.2.2.2.2.1.w (gm 361 (by decide +kernel) rfl)) (C0.2.2.2.2.1.n (nmm 372 (by decide +kernel) rfl)) (fun q H locs hH => ?_)
  refine lv_astore zx zb dL_isUp_24 hl (by decide) rfl (fun ls hl => ?_)
  refine bi_const (n := 1) zx zb dL_isUp_26 ?_
  exact retW C0 hret hlk hH dL_isUp_27
set_option maxRecDepth 100000 in
set_option maxHeartbeats 4000000 in
theorem wx2_X6_isUp (l : Launch) (g : gT) (S : gSt) (f lat d h : Int) (hnf : 0 ≤ S 4 0 ∧ S 4 0 ≤ 8) (hfo : 0 ≤ f ∧ f < S 4 0) (hr_lat : -2147483648 ≤ lat ∧ lat < 2147483648) (hr_d : -2147483648 ≤ d ∧ d < 2147483648) (hr_h : -2147483648 ≤ h ∧ h < 2147483648) (hbad : ¬((-90 ≤ lat ∧ lat ≤ 90) ∧ (0 ≤ d ∧ d < 365) ∧ (0 ≤ h ∧ h < 24))) (hfl : l.stackTraces = false) : LwM l g yL_isUp cL_isUp 7 [(0, 21, 24, 21), (0, 21, 28, 13)] [.ref (g.1 0), .int (iI f), .int (iI lat), .int (iI d), .int (iI h), .ref (g.1 33)] S 2 S := by
  refine bodyW (by decide +kernel) (Nat.le_of_ble_eq_true rfl) ?_
  intro p e s m args below meth c ls C0 hret htab hlk hl hH
  have zx := C0.1
  have zb := C0.2.1
  have hl : lv_has ls 7 [(0, .ref (g.1 0)), (1, .int (iI f)), (2, .int (iI lat)), (3, .int (iI d)), (4, .int (iI h)), (5, .ref (g.1 33))] := hl
  obtain ⟨H, hHe⟩ : ∃ H : Heap, H = s.heap := ⟨_, rfl⟩
  rw [show (Hp g S s s.heap []) = Hp g S s H [] by rw [hHe]] at hH
  rw [← hHe]
  refine lv_aload zx zb dL_isUp_0 (lv_at hl 5 rfl) ?_
  refine bi_const (n := 0) zx zb dL_isUp_2 ?_
  refine lv_aload_n zx zb dL_isUp_3 rfl (lv_at hl 0 rfl) ?_
  refine lv_iload_n zx zb dL_isUp_4 rfl (lv_at hl 1 rfl) ?_
  refine lv_iload_n zx zb dL_isUp_5 rfl (lv_at hl 2 rfl) ?_
  refine lv_iload_n zx zb dL_isUp_6 rfl (lv_at hl 3 rfl) ?_
  refine lv_iload zx zb dL_isUp_7 (lv_at hl 4 rfl) ?_
  refine ctG (E := "java/lang/IllegalArgumentException") (name := "java/lang/IllegalArgumentException") (rest := [.int (iI 0), .ref (g.1 33)]) (As := [.int (iI f), .int (iI lat), .int (iI d), .int (iI h)]) (b := g.1 0) C0 hH (x2_X6_isUp l g S f lat d h hnf hfo hr_lat hr_d hr_h hbad hfl) kw_L_62 ky_X6_isUp ⟨Nat.le_of_ble_eq_true rfl, Nat.le_of_ble_eq_true rfl⟩ ⟨Nat.le_of_ble_eq_true rfl, Nat.le_of_ble_eq_true rfl⟩ 0 rfl rfl rfl hl.1 rfl (Nat.le_of_ble_eq_true rfl) dL_isUp_9 [(⟨0, 21, 24, 21⟩ : ExceptionTableEntry)] (⟨0, 21, 28, 13⟩ : ExceptionTableEntry) [] htab (List.forall_mem_cons.mpr ⟨Or.inr ⟨by decide, "java/lang/IndexOutOfBoundsException", C0.2.2.2.2.1.w (gm 361 (by decide +kernel) rfl), C0.2.2.2.2.1.2.2.2.2.2 ("java/lang/IllegalArgumentException", "java/lang/IndexOutOfBoundsException") (by simp [NCL])⟩, (fun _ h => absurd h List.not_mem_nil)⟩) (by decide) (by decide) (C0.2.2.2.2.1.w (gm 256 (by decide +kernel) rfl)) (C0.2.2.2.2.1.n (nmm 267 (by decide +kernel) rfl)) (fun q H locs hH => ?_)
  refine lv_astore zx zb dL_isUp_28 hl (by decide) rfl (fun ls hl => ?_)
  refine bi_const (n := 2) zx zb dL_isUp_30 ?_
  exact retW C0 hret hlk hH dL_isUp_31
set_option maxRecDepth 100000 in
set_option maxHeartbeats 4000000 in
theorem wc_X6_hours (l : Launch) (g : gT) (S : gSt) (f lat d : Int) (hnf : 0 ≤ S 4 0 ∧ S 4 0 ≤ 8) (hfo : 0 ≤ f ∧ f < S 4 0) (hlat : -90 ≤ lat ∧ lat ≤ 90) (hd : 0 ≤ d ∧ d < 365) (hN : okN (S 5)) (hE : okE (S 5) (S 6)) (hO : okE (S 5) (S 7)) (hC : okC (S 2) (S 3)) : LwM l g yL_hours cL_hours 6 [(0, 12, 15, 21), (0, 12, 19, 13)] [.ref (g.1 0), .int (iI f), .int (iI lat), .int (iI d), .ref (g.1 33)] S 0 (st S 33 0 (((dyN (fun h => upB (S 5) (S 6) (S 7) (S 2) (S 3) f lat (15 * h + d)) : Nat) : Int))) := by
  refine bodyW (by decide +kernel) (Nat.le_of_ble_eq_true rfl) ?_
  intro p e s m args below meth c ls C0 hret htab hlk hl hH
  have zx := C0.1
  have zb := C0.2.1
  have hl : lv_has ls 6 [(0, .ref (g.1 0)), (1, .int (iI f)), (2, .int (iI lat)), (3, .int (iI d)), (4, .ref (g.1 33))] := hl
  obtain ⟨H, hHe⟩ : ∃ H : Heap, H = s.heap := ⟨_, rfl⟩
  rw [show (Hp g S s s.heap []) = Hp g S s H [] by rw [hHe]] at hH
  rw [← hHe]
  refine lv_aload zx zb dL_hours_0 (lv_at hl 4 rfl) ?_
  refine bi_const (n := 0) zx zb dL_hours_2 ?_
  refine lv_aload_n zx zb dL_hours_3 rfl (lv_at hl 0 rfl) ?_
  refine lv_iload_n zx zb dL_hours_4 rfl (lv_at hl 1 rfl) ?_
  refine lv_iload_n zx zb dL_hours_5 rfl (lv_at hl 2 rfl) ?_
  refine lv_iload_n zx zb dL_hours_6 rfl (lv_at hl 3 rfl) ?_
  refine cvI (rest := [.int (iI 0), .ref (g.1 33)]) (As := [.int (iI f), .int (iI lat), .int (iI d)]) (b := g.1 0) C0 hH (c_X6_hours l g S f lat d hnf hfo hlat hd hN hE hO hC) kw_L_66 ky_X6_hours ⟨Nat.le_of_ble_eq_true rfl, Nat.le_of_ble_eq_true rfl⟩ ⟨Nat.zero_le _, Nat.zero_le _⟩ 0 rfl rfl rfl hl.1 rfl (Nat.le_of_ble_eq_true rfl) dL_hours_7 (fun H locs hH => ?_)
  refine lv_i2l zx zb dL_hours_10 rfl ?_
  refine lsG C0 hH dL_hours_11 (fun H locs hH => ?_)
  refine lv_goto (tgt := 23) zx zb dL_hours_12 (by decide) ?_
  refine bi_const (n := 0) zx zb dL_hours_23 ?_
  exact retW0 C0 hret hlk hH dL_hours_24
set_option maxRecDepth 100000 in
set_option maxHeartbeats 4000000 in
theorem wx1_X6_hours (l : Launch) (g : gT) (S : gSt) (f lat d : Int) (hnf : 0 ≤ S 4 0 ∧ S 4 0 ≤ 8) (hr_f : -2147483648 ≤ f ∧ f < 2147483648) (hfb : ¬(0 ≤ f ∧ f < S 4 0)) (hfl : l.stackTraces = false) : LwM l g yL_hours cL_hours 6 [(0, 12, 15, 21), (0, 12, 19, 13)] [.ref (g.1 0), .int (iI f), .int (iI lat), .int (iI d), .ref (g.1 33)] S 1 S := by
  refine bodyW (by decide +kernel) (Nat.le_of_ble_eq_true rfl) ?_
  intro p e s m args below meth c ls C0 hret htab hlk hl hH
  have zx := C0.1
  have zb := C0.2.1
  have hl : lv_has ls 6 [(0, .ref (g.1 0)), (1, .int (iI f)), (2, .int (iI lat)), (3, .int (iI d)), (4, .ref (g.1 33))] := hl
  obtain ⟨H, hHe⟩ : ∃ H : Heap, H = s.heap := ⟨_, rfl⟩
  rw [show (Hp g S s s.heap []) = Hp g S s H [] by rw [hHe]] at hH
  rw [← hHe]
  refine lv_aload zx zb dL_hours_0 (lv_at hl 4 rfl) ?_
  refine bi_const (n := 0) zx zb dL_hours_2 ?_
  refine lv_aload_n zx zb dL_hours_3 rfl (lv_at hl 0 rfl) ?_
  refine lv_iload_n zx zb dL_hours_4 rfl (lv_at hl 1 rfl) ?_
  refine lv_iload_n zx zb dL_hours_5 rfl (lv_at hl 2 rfl) ?_
  refine lv_iload_n zx zb dL_hours_6 rfl (lv_at hl 3 rfl) ?_
  refine ctG (E := "java/lang/IndexOutOfBoundsException") (name := "java/lang/IndexOutOfBoundsException") (rest := [.int (iI 0), .ref (g.1 33)]) (As := [.int (iI f), .int (iI lat), .int (iI d)]) (b := g.1 0) C0 hH (x1_X6_hours l g S f lat d hnf hr_f hfb hfl) kw_L_66 ky_X6_hours ⟨Nat.le_of_ble_eq_true rfl, Nat.le_of_ble_eq_true rfl⟩ ⟨Nat.le_of_ble_eq_true rfl, Nat.le_of_ble_eq_true rfl⟩ 0 rfl rfl rfl hl.1 rfl (Nat.le_of_ble_eq_true rfl) dL_hours_7 [] (⟨0, 12, 15, 21⟩ : ExceptionTableEntry) [(⟨0, 12, 19, 13⟩ : ExceptionTableEntry)] htab (fun _ h => absurd h List.not_mem_nil) (by decide) (by decide) (C0.2.2.2.2.1.w (gm 361 (by decide +kernel) rfl)) (C0.2.2.2.2.1.n (nmm 372 (by decide +kernel) rfl)) (fun q H locs hH => ?_)
  refine lv_astore zx zb dL_hours_15 hl (by decide) rfl (fun ls hl => ?_)
  refine bi_const (n := 1) zx zb dL_hours_17 ?_
  exact retW C0 hret hlk hH dL_hours_18
set_option maxRecDepth 100000 in
set_option maxHeartbeats 4000000 in
theorem wx2_X6_hours (l : Launch) (g : gT) (S : gSt) (f lat d : Int) (hnf : 0 ≤ S 4 0 ∧ S 4 0 ≤ 8) (hfo : 0 ≤ f ∧ f < S 4 0) (hr_lat : -2147483648 ≤ lat ∧ lat < 2147483648) (hr_d : -2147483648 ≤ d ∧ d < 2147483648) (hbad : ¬((-90 ≤ lat ∧ lat ≤ 90) ∧ (0 ≤ d ∧ d < 365))) (hfl : l.stackTraces = false) : LwM l g yL_hours cL_hours 6 [(0, 12, 15, 21), (0, 12, 19, 13)] [.ref (g.1 0), .int (iI f), .int (iI lat), .int (iI d), .ref (g.1 33)] S 2 S := by
  refine bodyW (by decide +kernel) (Nat.le_of_ble_eq_true rfl) ?_
  intro p e s m args below meth c ls C0 hret htab hlk hl hH
  have zx := C0.1
  have zb := C0.2.1
  have hl : lv_has ls 6 [(0, .ref (g.1 0)), (1, .int (iI f)), (2, .int (iI lat)), (3, .int (iI d)), (4, .ref (g.1 33))] := hl
  obtain ⟨H, hHe⟩ : ∃ H : Heap, H = s.heap := ⟨_, rfl⟩
  rw [show (Hp g S s s.heap []) = Hp g S s H [] by rw [hHe]] at hH
  rw [← hHe]
  refine lv_aload zx zb dL_hours_0 (lv_at hl 4 rfl) ?_
  refine bi_const (n := 0) zx zb dL_hours_2 ?_
  refine lv_aload_n zx zb dL_hours_3 rfl (lv_at hl 0 rfl) ?_
  refine lv_iload_n zx zb dL_hours_4 rfl (lv_at hl 1 rfl) ?_
  refine lv_iload_n zx zb dL_hours_5 rfl (lv_at hl 2 rfl) ?_
  refine lv_iload_n zx zb dL_hours_6 rfl (lv_at hl 3 rfl) ?_
  refine ctG (E := "java/lang/IllegalArgumentException") (name := "java/lang/IllegalArgumentException") (rest := [.int (iI 0), .ref (g.1 33)]) (As := [.int (iI f), .int (iI lat), .int (iI d)]) (b := g.1 0) C0 hH (x2_X6_hours l g S f lat d hnf hfo hr_lat hr_d hbad hfl) kw_L_66 ky_X6_hours ⟨Nat.le_of_ble_eq_true rfl, Nat.le_of_ble_eq_true rfl⟩ ⟨Nat.le_of_ble_eq_true rfl, Nat.le_of_ble_eq_true rfl⟩ 0 rfl rfl rfl hl.1 rfl (Nat.le_of_ble_eq_true rfl) dL_hours_7 [(⟨0, 12, 15, 21⟩ : ExceptionTableEntry)] (⟨0, 12, 19, 13⟩ : ExceptionTableEntry) [] htab (List.forall_mem_cons.mpr ⟨Or.inr ⟨by decide, "java/lang/IndexOutOfBoundsException", C0.2.2.2.2.1.w (gm 361 (by decide +kernel) rfl), C0.2.2.2.2.1.2.2.2.2.2 ("java/lang/IllegalArgumentException", "java/lang/IndexOutOfBoundsException") (by simp [NCL])⟩, (fun _ h => absurd h List.not_mem_nil)⟩) (by decide) (by decide) (C0.2.2.2.2.1.w (gm 256 (by decide +kernel) rfl)) (C0.2.2.2.2.1.n (nmm 267 (by decide +kernel) rfl)) (fun q H locs hH => ?_)
  refine lv_astore zx zb dL_hours_19 hl (by decide) rfl (fun ls hl => ?_)
  refine bi_const (n := 2) zx zb dL_hours_21 ?_
  exact retW C0 hret hlk hH dL_hours_22
set_option maxRecDepth 100000 in
set_option maxHeartbeats 4000000 in
theorem wc_X6_hoursByStars (l : Launch) (g : gT) (S : gSt) (f lat d : Int) (hnf : 0 ≤ S 4 0 ∧ S 4 0 ≤ 8) (hfo : 0 ≤ f ∧ f < S 4 0) (hlat : -90 ≤ lat ∧ lat ≤ 90) (hd : 0 ≤ d ∧ d < 365) (hN : okN (S 5)) (hE : okE (S 5) (S 6)) (hO : okE (S 5) (S 7)) (hC : okC (S 2) (S 3)) : LwM l g yL_hoursByStars cL_hoursByStars 6 [(0, 12, 15, 21), (0, 12, 19, 13)] [.ref (g.1 0), .int (iI f), .int (iI lat), .int (iI d), .ref (g.1 33)] S 0 (st S 33 0 (((hbN (S 5) (S 6) (S 7) (S 2) (S 3) f lat d : Nat) : Int))) := by
  refine bodyW (by decide +kernel) (Nat.le_of_ble_eq_true rfl) ?_
  intro p e s m args below meth c ls C0 hret htab hlk hl hH
  have zx := C0.1
  have zb := C0.2.1
  have hl : lv_has ls 6 [(0, .ref (g.1 0)), (1, .int (iI f)), (2, .int (iI lat)), (3, .int (iI d)), (4, .ref (g.1 33))] := hl
  obtain ⟨H, hHe⟩ : ∃ H : Heap, H = s.heap := ⟨_, rfl⟩
  rw [show (Hp g S s s.heap []) = Hp g S s H [] by rw [hHe]] at hH
  rw [← hHe]
  refine lv_aload zx zb dL_hoursByStars_0 (lv_at hl 4 rfl) ?_
  refine bi_const (n := 0) zx zb dL_hoursByStars_2 ?_
  refine lv_aload_n zx zb dL_hoursByStars_3 rfl (lv_at hl 0 rfl) ?_
  refine lv_iload_n zx zb dL_hoursByStars_4 rfl (lv_at hl 1 rfl) ?_
  refine lv_iload_n zx zb dL_hoursByStars_5 rfl (lv_at hl 2 rfl) ?_
  refine lv_iload_n zx zb dL_hoursByStars_6 rfl (lv_at hl 3 rfl) ?_
  refine cvI (rest := [.int (iI 0), .ref (g.1 33)]) (As := [.int (iI f), .int (iI lat), .int (iI d)]) (b := g.1 0) C0 hH (c_X6_hoursByStars l g S f lat d hnf hfo hlat hd hN hE hO hC) kw_L_69 ky_X6_hoursByStars ⟨Nat.le_of_ble_eq_true rfl, Nat.le_of_ble_eq_true rfl⟩ ⟨Nat.zero_le _, Nat.zero_le _⟩ 0 rfl rfl rfl hl.1 rfl (Nat.le_of_ble_eq_true rfl) dL_hoursByStars_7 (fun H locs hH => ?_)
  refine lv_i2l zx zb dL_hoursByStars_10 rfl ?_
  refine lsG C0 hH dL_hoursByStars_11 (fun H locs hH => ?_)
  refine lv_goto (tgt := 23) zx zb dL_hoursByStars_12 (by decide) ?_
  refine bi_const (n := 0) zx zb dL_hoursByStars_23 ?_
  exact retW0 C0 hret hlk hH dL_hoursByStars_24
set_option maxRecDepth 100000 in
set_option maxHeartbeats 4000000 in
theorem wx1_X6_hoursByStars (l : Launch) (g : gT) (S : gSt) (f lat d : Int) (hnf : 0 ≤ S 4 0 ∧ S 4 0 ≤ 8) (hr_f : -2147483648 ≤ f ∧ f < 2147483648) (hfb : ¬(0 ≤ f ∧ f < S 4 0)) (hfl : l.stackTraces = false) : LwM l g yL_hoursByStars cL_hoursByStars 6 [(0, 12, 15, 21), (0, 12, 19, 13)] [.ref (g.1 0), .int (iI f), .int (iI lat), .int (iI d), .ref (g.1 33)] S 1 S := by
  refine bodyW (by decide +kernel) (Nat.le_of_ble_eq_true rfl) ?_
  intro p e s m args below meth c ls C0 hret htab hlk hl hH
  have zx := C0.1
  have zb := C0.2.1
  have hl : lv_has ls 6 [(0, .ref (g.1 0)), (1, .int (iI f)), (2, .int (iI lat)), (3, .int (iI d)), (4, .ref (g.1 33))] := hl
  obtain ⟨H, hHe⟩ : ∃ H : Heap, H = s.heap := ⟨_, rfl⟩
  rw [show (Hp g S s s.heap []) = Hp g S s H [] by rw [hHe]] at hH
  rw [← hHe]
  refine lv_aload zx zb dL_hoursByStars_0 (lv_at hl 4 rfl) ?_
  refine bi_const (n := 0) zx zb dL_hoursByStars_2 ?_
  refine lv_aload_n zx zb dL_hoursByStars_3 rfl (lv_at hl 0 rfl) ?_
  refine lv_iload_n zx zb dL_hoursByStars_4 rfl (lv_at hl 1 rfl) ?_
  refine lv_iload_n zx zb dL_hoursByStars_5 rfl (lv_at hl 2 rfl) ?_
  refine lv_iload_n zx zb dL_hoursByStars_6 rfl (lv_at hl 3 rfl) ?_
  refine ctG (E := "java/lang/IndexOutOfBoundsException") (name := "java/lang/IndexOutOfBoundsException") (rest := [.int (iI 0), .ref (g.1 33)]) (As := [.int (iI f), .int (iI lat), .int (iI d)]) (b := g.1 0) C0 hH (x1_X6_hoursByStars l g S f lat d hnf hr_f hfb hfl) kw_L_69 ky_X6_hoursByStars ⟨Nat.le_of_ble_eq_true rfl, Nat.le_of_ble_eq_true rfl⟩ ⟨Nat.le_of_ble_eq_true rfl, Nat.le_of_ble_eq_true rfl⟩ 0 rfl rfl rfl hl.1 rfl (Nat.le_of_ble_eq_true rfl) dL_hoursByStars_7 [] (⟨0, 12, 15, 21⟩ : ExceptionTableEntry) [(⟨0, 12, 19, 13⟩ : ExceptionTableEntry)] htab (fun _ h => absurd h List.not_mem_nil) (by decide) (by decide) (C0.2.2.2.2.1.w (gm 361 (by decide +kernel) rfl)) (C0.2.2.2.2.1.n (nmm 372 (by decide +kernel) rfl)) (fun q H locs hH => ?_)
  refine lv_astore zx zb dL_hoursByStars_15 hl (by decide) rfl (fun ls hl => ?_)
  refine bi_const (n := 1) zx zb dL_hoursByStars_17 ?_
  exact retW C0 hret hlk hH dL_hoursByStars_18
set_option maxRecDepth 100000 in
set_option maxHeartbeats 4000000 in
theorem wx2_X6_hoursByStars (l : Launch) (g : gT) (S : gSt) (f lat d : Int) (hnf : 0 ≤ S 4 0 ∧ S 4 0 ≤ 8) (hfo : 0 ≤ f ∧ f < S 4 0) (hr_lat : -2147483648 ≤ lat ∧ lat < 2147483648) (hr_d : -2147483648 ≤ d ∧ d < 2147483648) (hbad : ¬((-90 ≤ lat ∧ lat ≤ 90) ∧ (0 ≤ d ∧ d < 365))) (hfl : l.stackTraces = false) : LwM l g yL_hoursByStars cL_hoursByStars 6 [(0, 12, 15, 21), (0, 12, 19, 13)] [.ref (g.1 0), .int (iI f), .int (iI lat), .int (iI d), .ref (g.1 33)] S 2 S := by
  refine bodyW (by decide +kernel) (Nat.le_of_ble_eq_true rfl) ?_
  intro p e s m args below meth c ls C0 hret htab hlk hl hH
  have zx := C0.1
  have zb := C0.2.1
  have hl : lv_has ls 6 [(0, .ref (g.1 0)), (1, .int (iI f)), (2, .int (iI lat)), (3, .int (iI d)), (4, .ref (g.1 33))] := hl
  obtain ⟨H, hHe⟩ : ∃ H : Heap, H = s.heap := ⟨_, rfl⟩
  rw [show (Hp g S s s.heap []) = Hp g S s H [] by rw [hHe]] at hH
  rw [← hHe]
  refine lv_aload zx zb dL_hoursByStars_0 (lv_at hl 4 rfl) ?_
  refine bi_const (n := 0) zx zb dL_hoursByStars_2 ?_
  refine lv_aload_n zx zb dL_hoursByStars_3 rfl (lv_at hl 0 rfl) ?_
  refine lv_iload_n zx zb dL_hoursByStars_4 rfl (lv_at hl 1 rfl) ?_
  refine lv_iload_n zx zb dL_hoursByStars_5 rfl (lv_at hl 2 rfl) ?_
  refine lv_iload_n zx zb dL_hoursByStars_6 rfl (lv_at hl 3 rfl) ?_
  refine ctG (E := "java/lang/IllegalArgumentException") (name := "java/lang/IllegalArgumentException") (rest := [.int (iI 0), .ref (g.1 33)]) (As := [.int (iI f), .int (iI lat), .int (iI d)]) (b := g.1 0) C0 hH (x2_X6_hoursByStars l g S f lat d hnf hfo hr_lat hr_d hbad hfl) kw_L_69 ky_X6_hoursByStars ⟨Nat.le_of_ble_eq_true rfl, Nat.le_of_ble_eq_true rfl⟩ ⟨Nat.le_of_ble_eq_true rfl, Nat.le_of_ble_eq_true rfl⟩ 0 rfl rfl rfl hl.1 rfl (Nat.le_of_ble_eq_true rfl) dL_hoursByStars_7 [(⟨0, 12, 15, 21⟩ : ExceptionTableEntry)] (⟨0, 12, 19, 13⟩ : ExceptionTableEntry) [] htab (List.forall_mem_cons.mpr ⟨Or.inr ⟨by decide, "java/lang/IndexOutOfBoundsException", C0.2.2.2.2.1.w (gm 361 (by decide +kernel) rfl), C0.2.2.2.2.1.2.2.2.2.2 ("java/lang/IllegalArgumentException", "java/lang/IndexOutOfBoundsException") (by simp [NCL])⟩, (fun _ h => absurd h List.not_mem_nil)⟩) (by decide) (by decide) (C0.2.2.2.2.1.w (gm 256 (by decide +kernel) rfl)) (C0.2.2.2.2.1.n (nmm 267 (by decide +kernel) rfl)) (fun q H locs hH => ?_)
  refine lv_astore zx zb dL_hoursByStars_19 hl (by decide) rfl (fun ls hl => ?_)
  refine bi_const (n := 2) zx zb dL_hoursByStars_21 ?_
  exact retW C0 hret hlk hH dL_hoursByStars_22
set_option maxRecDepth 100000 in
set_option maxHeartbeats 4000000 in
theorem wc_X6_bestHour (l : Launch) (g : gT) (S : gSt) (f lat d : Int) (hnf : 0 ≤ S 4 0 ∧ S 4 0 ≤ 8) (hfo : 0 ≤ f ∧ f < S 4 0) (hlat : -90 ≤ lat ∧ lat ≤ 90) (hd : 0 ≤ d ∧ d < 365) (hN : okN (S 5)) (hE : okE (S 5) (S 6)) (hO : okE (S 5) (S 7)) (hC : okC (S 2) (S 3)) : LwM l g yL_bestHour cL_bestHour 6 [(0, 12, 15, 21), (0, 12, 19, 13)] [.ref (g.1 0), .int (iI f), .int (iI lat), .int (iI d), .ref (g.1 33)] S 0 (st S 33 0 (bhI (fun h => lwI (S 5) (S 6) (S 7) (S 2) (S 3) f lat (15 * h + d)))) := by
  refine bodyW (by decide +kernel) (Nat.le_of_ble_eq_true rfl) ?_
  intro p e s m args below meth c ls C0 hret htab hlk hl hH
  have zx := C0.1
  have zb := C0.2.1
  have hl : lv_has ls 6 [(0, .ref (g.1 0)), (1, .int (iI f)), (2, .int (iI lat)), (3, .int (iI d)), (4, .ref (g.1 33))] := hl
  obtain ⟨H, hHe⟩ : ∃ H : Heap, H = s.heap := ⟨_, rfl⟩
  rw [show (Hp g S s s.heap []) = Hp g S s H [] by rw [hHe]] at hH
  rw [← hHe]
  refine lv_aload zx zb dL_bestHour_0 (lv_at hl 4 rfl) ?_
  refine bi_const (n := 0) zx zb dL_bestHour_2 ?_
  refine lv_aload_n zx zb dL_bestHour_3 rfl (lv_at hl 0 rfl) ?_
  refine lv_iload_n zx zb dL_bestHour_4 rfl (lv_at hl 1 rfl) ?_
  refine lv_iload_n zx zb dL_bestHour_5 rfl (lv_at hl 2 rfl) ?_
  refine lv_iload_n zx zb dL_bestHour_6 rfl (lv_at hl 3 rfl) ?_
  refine cvI (rest := [.int (iI 0), .ref (g.1 33)]) (As := [.int (iI f), .int (iI lat), .int (iI d)]) (b := g.1 0) C0 hH (c_X6_bestHour l g S f lat d hnf hfo hlat hd hN hE hO hC) kw_L_72 ky_X6_bestHour ⟨Nat.le_of_ble_eq_true rfl, Nat.le_of_ble_eq_true rfl⟩ ⟨Nat.zero_le _, Nat.zero_le _⟩ 0 rfl rfl rfl hl.1 rfl (Nat.le_of_ble_eq_true rfl) dL_bestHour_7 (fun H locs hH => ?_)
  refine lv_i2l zx zb dL_bestHour_10 rfl ?_
  refine lsG C0 hH dL_bestHour_11 (fun H locs hH => ?_)
  refine lv_goto (tgt := 23) zx zb dL_bestHour_12 (by decide) ?_
  refine bi_const (n := 0) zx zb dL_bestHour_23 ?_
  exact retW0 C0 hret hlk hH dL_bestHour_24
set_option maxRecDepth 100000 in
set_option maxHeartbeats 4000000 in
theorem wx1_X6_bestHour (l : Launch) (g : gT) (S : gSt) (f lat d : Int) (hnf : 0 ≤ S 4 0 ∧ S 4 0 ≤ 8) (hr_f : -2147483648 ≤ f ∧ f < 2147483648) (hfb : ¬(0 ≤ f ∧ f < S 4 0)) (hfl : l.stackTraces = false) : LwM l g yL_bestHour cL_bestHour 6 [(0, 12, 15, 21), (0, 12, 19, 13)] [.ref (g.1 0), .int (iI f), .int (iI lat), .int (iI d), .ref (g.1 33)] S 1 S := by
  refine bodyW (by decide +kernel) (Nat.le_of_ble_eq_true rfl) ?_
  intro p e s m args below meth c ls C0 hret htab hlk hl hH
  have zx := C0.1
  have zb := C0.2.1
  have hl : lv_has ls 6 [(0, .ref (g.1 0)), (1, .int (iI f)), (2, .int (iI lat)), (3, .int (iI d)), (4, .ref (g.1 33))] := hl
  obtain ⟨H, hHe⟩ : ∃ H : Heap, H = s.heap := ⟨_, rfl⟩
  rw [show (Hp g S s s.heap []) = Hp g S s H [] by rw [hHe]] at hH
  rw [← hHe]
  refine lv_aload zx zb dL_bestHour_0 (lv_at hl 4 rfl) ?_
  refine bi_const (n := 0) zx zb dL_bestHour_2 ?_
  refine lv_aload_n zx zb dL_bestHour_3 rfl (lv_at hl 0 rfl) ?_
  refine lv_iload_n zx zb dL_bestHour_4 rfl (lv_at hl 1 rfl) ?_
  refine lv_iload_n zx zb dL_bestHour_5 rfl (lv_at hl 2 rfl) ?_
  refine lv_iload_n zx zb dL_bestHour_6 rfl (lv_at hl 3 rfl) ?_
  refine ctG (E := "java/lang/IndexOutOfBoundsException") (name := "java/lang/IndexOutOfBoundsException") (rest := [.int (iI 0), .ref (g.1 33)]) (As := [.int (iI f), .int (iI lat), .int (iI d)]) (b := g.1 0) C0 hH (x1_X6_bestHour l g S f lat d hnf hr_f hfb hfl) kw_L_72 ky_X6_bestHour ⟨Nat.le_of_ble_eq_true rfl, Nat.le_of_ble_eq_true rfl⟩ ⟨Nat.le_of_ble_eq_true rfl, Nat.le_of_ble_eq_true rfl⟩ 0 rfl rfl rfl hl.1 rfl (Nat.le_of_ble_eq_true rfl) dL_bestHour_7 [] (⟨0, 12, 15, 21⟩ : ExceptionTableEntry) [(⟨0, 12, 19, 13⟩ : ExceptionTableEntry)] htab (fun _ h => absurd h List.not_mem_nil) (by decide) (by decide) (C0.2.2.2.2.1.w (gm 361 (by decide +kernel) rfl)) (C0.2.2.2.2.1.n (nmm 372 (by decide +kernel) rfl)) (fun q H locs hH => ?_)
  refine lv_astore zx zb dL_bestHour_15 hl (by decide) rfl (fun ls hl => ?_)
  refine bi_const (n := 1) zx zb dL_bestHour_17 ?_
  exact retW C0 hret hlk hH dL_bestHour_18
set_option maxRecDepth 100000 in
set_option maxHeartbeats 4000000 in
theorem wx2_X6_bestHour (l : Launch) (g : gT) (S : gSt) (f lat d : Int) (hnf : 0 ≤ S 4 0 ∧ S 4 0 ≤ 8) (hfo : 0 ≤ f ∧ f < S 4 0) (hr_lat : -2147483648 ≤ lat ∧ lat < 2147483648) (hr_d : -2147483648 ≤ d ∧ d < 2147483648) (hbad : ¬((-90 ≤ lat ∧ lat ≤ 90) ∧ (0 ≤ d ∧ d < 365))) (hfl : l.stackTraces = false) : LwM l g yL_bestHour cL_bestHour 6 [(0, 12, 15, 21), (0, 12, 19, 13)] [.ref (g.1 0), .int (iI f), .int (iI lat), .int (iI d), .ref (g.1 33)] S 2 S := by
  refine bodyW (by decide +kernel) (Nat.le_of_ble_eq_true rfl) ?_
  intro p e s m args below meth c ls C0 hret htab hlk hl hH
  have zx := C0.1
  have zb := C0.2.1
  have hl : lv_has ls 6 [(0, .ref (g.1 0)), (1, .int (iI f)), (2, .int (iI lat)), (3, .int (iI d)), (4, .ref (g.1 33))] := hl
  obtain ⟨H, hHe⟩ : ∃ H : Heap, H = s.heap := ⟨_, rfl⟩
  rw [show (Hp g S s s.heap []) = Hp g S s H [] by rw [hHe]] at hH
  rw [← hHe]
  refine lv_aload zx zb dL_bestHour_0 (lv_at hl 4 rfl) ?_
  refine bi_const (n := 0) zx zb dL_bestHour_2 ?_
  refine lv_aload_n zx zb dL_bestHour_3 rfl (lv_at hl 0 rfl) ?_
  refine lv_iload_n zx zb dL_bestHour_4 rfl (lv_at hl 1 rfl) ?_
  refine lv_iload_n zx zb dL_bestHour_5 rfl (lv_at hl 2 rfl) ?_
  refine lv_iload_n zx zb dL_bestHour_6 rfl (lv_at hl 3 rfl) ?_
  refine ctG (E := "java/lang/IllegalArgumentException") (name := "java/lang/IllegalArgumentException") (rest := [.int (iI 0), .ref (g.1 33)]) (As := [.int (iI f), .int (iI lat), .int (iI d)]) (b := g.1 0) C0 hH (x2_X6_bestHour l g S f lat d hnf hfo hr_lat hr_d hbad hfl) kw_L_72 ky_X6_bestHour ⟨Nat.le_of_ble_eq_true rfl, Nat.le_of_ble_eq_true rfl⟩ ⟨Nat.le_of_ble_eq_true rfl, Nat.le_of_ble_eq_true rfl⟩ 0 rfl rfl rfl hl.1 rfl (Nat.le_of_ble_eq_true rfl) dL_bestHour_7 [(⟨0, 12, 15, 21⟩ : ExceptionTableEntry)] (⟨0, 12, 19, 13⟩ : ExceptionTableEntry) [] htab (List.forall_mem_cons.mpr ⟨Or.inr ⟨by decide, "java/lang/IndexOutOfBoundsException", C0.2.2.2.2.1.w (gm 361 (by decide +kernel) rfl), C0.2.2.2.2.1.2.2.2.2.2 ("java/lang/IllegalArgumentException", "java/lang/IndexOutOfBoundsException") (by simp [NCL])⟩, (fun _ h => absurd h List.not_mem_nil)⟩) (by decide) (by decide) (C0.2.2.2.2.1.w (gm 256 (by decide +kernel) rfl)) (C0.2.2.2.2.1.n (nmm 267 (by decide +kernel) rfl)) (fun q H locs hH => ?_)
  refine lv_astore zx zb dL_bestHour_19 hl (by decide) rfl (fun ls hl => ?_)
  refine bi_const (n := 2) zx zb dL_bestHour_21 ?_
  exact retW C0 hret hlk hH dL_bestHour_22
set_option maxRecDepth 100000 in
set_option maxHeartbeats 4000000 in
theorem wc_X6_season (l : Launch) (g : gT) (S : gSt) (f lat h : Int) (hnf : 0 ≤ S 4 0 ∧ S 4 0 ≤ 8) (hfo : 0 ≤ f ∧ f < S 4 0) (hlat : -90 ≤ lat ∧ lat ≤ 90) (hh : 0 ≤ h ∧ h < 24) (hN : okN (S 5)) (hE : okE (S 5) (S 6)) (hO : okE (S 5) (S 7)) (hC : okC (S 2) (S 3)) : LwM l g yL_season cL_season 6 [(0, 12, 15, 21), (0, 12, 19, 13)] [.ref (g.1 0), .int (iI f), .int (iI lat), .int (iI h), .ref (g.1 33)] S 0 (st S 33 0 (seI (fun d => upB (S 5) (S 6) (S 7) (S 2) (S 3) f lat (15 * h + d)))) := by
  refine bodyW (by decide +kernel) (Nat.le_of_ble_eq_true rfl) ?_
  intro p e s m args below meth c ls C0 hret htab hlk hl hH
  have zx := C0.1
  have zb := C0.2.1
  have hl : lv_has ls 6 [(0, .ref (g.1 0)), (1, .int (iI f)), (2, .int (iI lat)), (3, .int (iI h)), (4, .ref (g.1 33))] := hl
  obtain ⟨H, hHe⟩ : ∃ H : Heap, H = s.heap := ⟨_, rfl⟩
  rw [show (Hp g S s s.heap []) = Hp g S s H [] by rw [hHe]] at hH
  rw [← hHe]
  refine lv_aload zx zb dL_season_0 (lv_at hl 4 rfl) ?_
  refine bi_const (n := 0) zx zb dL_season_2 ?_
  refine lv_aload_n zx zb dL_season_3 rfl (lv_at hl 0 rfl) ?_
  refine lv_iload_n zx zb dL_season_4 rfl (lv_at hl 1 rfl) ?_
  refine lv_iload_n zx zb dL_season_5 rfl (lv_at hl 2 rfl) ?_
  refine lv_iload_n zx zb dL_season_6 rfl (lv_at hl 3 rfl) ?_
  refine cvI (rest := [.int (iI 0), .ref (g.1 33)]) (As := [.int (iI f), .int (iI lat), .int (iI h)]) (b := g.1 0) C0 hH (c_X6_season l g S f lat h hnf hfo hlat hh hN hE hO hC) kw_L_75 ky_X6_season ⟨Nat.le_of_ble_eq_true rfl, Nat.le_of_ble_eq_true rfl⟩ ⟨Nat.zero_le _, Nat.zero_le _⟩ 0 rfl rfl rfl hl.1 rfl (Nat.le_of_ble_eq_true rfl) dL_season_7 (fun H locs hH => ?_)
  refine lv_i2l zx zb dL_season_10 rfl ?_
  refine lsG C0 hH dL_season_11 (fun H locs hH => ?_)
  refine lv_goto (tgt := 23) zx zb dL_season_12 (by decide) ?_
  refine bi_const (n := 0) zx zb dL_season_23 ?_
  exact retW0 C0 hret hlk hH dL_season_24
set_option maxRecDepth 100000 in
set_option maxHeartbeats 4000000 in
theorem wx1_X6_season (l : Launch) (g : gT) (S : gSt) (f lat h : Int) (hnf : 0 ≤ S 4 0 ∧ S 4 0 ≤ 8) (hr_f : -2147483648 ≤ f ∧ f < 2147483648) (hfb : ¬(0 ≤ f ∧ f < S 4 0)) (hfl : l.stackTraces = false) : LwM l g yL_season cL_season 6 [(0, 12, 15, 21), (0, 12, 19, 13)] [.ref (g.1 0), .int (iI f), .int (iI lat), .int (iI h), .ref (g.1 33)] S 1 S := by
  refine bodyW (by decide +kernel) (Nat.le_of_ble_eq_true rfl) ?_
  intro p e s m args below meth c ls C0 hret htab hlk hl hH
  have zx := C0.1
  have zb := C0.2.1
  have hl : lv_has ls 6 [(0, .ref (g.1 0)), (1, .int (iI f)), (2, .int (iI lat)), (3, .int (iI h)), (4, .ref (g.1 33))] := hl
  obtain ⟨H, hHe⟩ : ∃ H : Heap, H = s.heap := ⟨_, rfl⟩
  rw [show (Hp g S s s.heap []) = Hp g S s H [] by rw [hHe]] at hH
  rw [← hHe]
  refine lv_aload zx zb dL_season_0 (lv_at hl 4 rfl) ?_
  refine bi_const (n := 0) zx zb dL_season_2 ?_
  refine lv_aload_n zx zb dL_season_3 rfl (lv_at hl 0 rfl) ?_
  refine lv_iload_n zx zb dL_season_4 rfl (lv_at hl 1 rfl) ?_
  refine lv_iload_n zx zb dL_season_5 rfl (lv_at hl 2 rfl) ?_
  refine lv_iload_n zx zb dL_season_6 rfl (lv_at hl 3 rfl) ?_
  refine ctG (E := "java/lang/IndexOutOfBoundsException") (name := "java/lang/IndexOutOfBoundsException") (rest := [.int (iI 0), .ref (g.1 33)]) (As := [.int (iI f), .int (iI lat), .int (iI h)]) (b := g.1 0) C0 hH (x1_X6_season l g S f lat h hnf hr_f hfb hfl) kw_L_75 ky_X6_season ⟨Nat.le_of_ble_eq_true rfl, Nat.le_of_ble_eq_true rfl⟩ ⟨Nat.le_of_ble_eq_true rfl, Nat.le_of_ble_eq_true rfl⟩ 0 rfl rfl rfl hl.1 rfl (Nat.le_of_ble_eq_true rfl) dL_season_7 [] (⟨0, 12, 15, 21⟩ : ExceptionTableEntry) [(⟨0, 12, 19, 13⟩ : ExceptionTableEntry)] htab (fun _ h => absurd h List.not_mem_nil) (by decide) (by decide) (C0.2.2.2.2.1.w (gm 361 (by decide +kernel) rfl)) (C0.2.2.2.2.1.n (nmm 372 (by decide +kernel) rfl)) (fun q H locs hH => ?_)
  refine lv_astore zx zb dL_season_15 hl (by decide) rfl (fun ls hl => ?_)
  refine bi_const (n := 1) zx zb dL_season_17 ?_
  exact retW C0 hret hlk hH dL_season_18
set_option maxRecDepth 100000 in
set_option maxHeartbeats 4000000 in
theorem wx2_X6_season (l : Launch) (g : gT) (S : gSt) (f lat h : Int) (hnf : 0 ≤ S 4 0 ∧ S 4 0 ≤ 8) (hfo : 0 ≤ f ∧ f < S 4 0) (hr_lat : -2147483648 ≤ lat ∧ lat < 2147483648) (hr_h : -2147483648 ≤ h ∧ h < 2147483648) (hbad : ¬((-90 ≤ lat ∧ lat ≤ 90) ∧ (0 ≤ h ∧ h < 24))) (hfl : l.stackTraces = false) : LwM l g yL_season cL_season 6 [(0, 12, 15, 21), (0, 12, 19, 13)] [.ref (g.1 0), .int (iI f), .int (iI lat), .int (iI h), .ref (g.1 33)] S 2 S := by
  refine bodyW (by decide +kernel) (Nat.le_of_ble_eq_true rfl) ?_
  intro p e s m args below meth c ls C0 hret htab hlk hl hH
  have zx := C0.1
  have zb := C0.2.1
  have hl : lv_has ls 6 [(0, .ref (g.1 0)), (1, .int (iI f)), (2, .int (iI lat)), (3, .int (iI h)), (4, .ref (g.1 33))] := hl
  obtain ⟨H, hHe⟩ : ∃ H : Heap, H = s.heap := ⟨_, rfl⟩
  rw [show (Hp g S s s.heap []) = Hp g S s H [] by rw [hHe]] at hH
  rw [← hHe]
  refine lv_aload zx zb dL_season_0 (lv_at hl 4 rfl) ?_
  refine bi_const (n := 0) zx zb dL_season_2 ?_
  refine lv_aload_n zx zb dL_season_3 rfl (lv_at hl 0 rfl) ?_
  refine lv_iload_n zx zb dL_season_4 rfl (lv_at hl 1 rfl) ?_
  refine lv_iload_n zx zb dL_season_5 rfl (lv_at hl 2 rfl) ?_
  refine lv_iload_n zx zb dL_season_6 rfl (lv_at hl 3 rfl) ?_
  refine ctG (E := "java/lang/IllegalArgumentException") (name := "java/lang/IllegalArgumentException") (rest := [.int (iI 0), .ref (g.1 33)]) (As := [.int (iI f), .int (iI lat), .int (iI h)]) (b := g.1 0) C0 hH (x2_X6_season l g S f lat h hnf hfo hr_lat hr_h hbad hfl) kw_L_75 ky_X6_season ⟨Nat.le_of_ble_eq_true rfl, Nat.le_of_ble_eq_true rfl⟩ ⟨Nat.le_of_ble_eq_true rfl, Nat.le_of_ble_eq_true rfl⟩ 0 rfl rfl rfl hl.1 rfl (Nat.le_of_ble_eq_true rfl) dL_season_7 [(⟨0, 12, 15, 21⟩ : ExceptionTableEntry)] (⟨0, 12, 19, 13⟩ : ExceptionTableEntry) [] htab (List.forall_mem_cons.mpr ⟨Or.inr ⟨by decide, "java/lang/IndexOutOfBoundsException", C0.2.2.2.2.1.w (gm 361 (by decide +kernel) rfl), C0.2.2.2.2.1.2.2.2.2.2 ("java/lang/IllegalArgumentException", "java/lang/IndexOutOfBoundsException") (by simp [NCL])⟩, (fun _ h => absurd h List.not_mem_nil)⟩) (by decide) (by decide) (C0.2.2.2.2.1.w (gm 256 (by decide +kernel) rfl)) (C0.2.2.2.2.1.n (nmm 267 (by decide +kernel) rfl)) (fun q H locs hH => ?_)
  refine lv_astore zx zb dL_season_19 hl (by decide) rfl (fun ls hl => ?_)
  refine bi_const (n := 2) zx zb dL_season_21 ?_
  exact retW C0 hret hlk hH dL_season_22
set_option maxRecDepth 100000 in
set_option maxHeartbeats 4000000 in
theorem wc_X6_plan (l : Launch) (g : gT) (S : gSt) (f lat d h : Int) (hnf : 0 ≤ S 4 0 ∧ S 4 0 ≤ 8) (hfo : 0 ≤ f ∧ f < S 4 0) (hlat : -90 ≤ lat ∧ lat ≤ 90) (hd : 0 ≤ d ∧ d < 365) (hh : 0 ≤ h ∧ h < 24) (hN : okN (S 5)) (hE : okE (S 5) (S 6)) (hO : okE (S 5) (S 7)) (hC : okC (S 2) (S 3)) (hG : okG (S 11)) (hsc : 0 ≤ S 12 0 ∧ S 12 0 ≤ 12) (hup : upB (S 5) (S 6) (S 7) (S 2) (S 3) f lat (15 * h + d) = true) (hnm : S 11 f ≠ -1) (hs12 : S 12 0 < 12) : LwM l g yL_plan cL_plan 7 [(0, 14, 17, 21), (0, 14, 21, 13), (0, 14, 25, 15)] [.ref (g.1 0), .int (iI f), .int (iI lat), .int (iI d), .int (iI h), .ref (g.1 33)] S 0 (st (apS S f (S 11 f) lat (15 * h + d)) 33 0 (S 12 0)) := by
  refine bodyW (by decide +kernel) (Nat.le_of_ble_eq_true rfl) ?_
  intro p e s m args below meth c ls C0 hret htab hlk hl hH
  have zx := C0.1
  have zb := C0.2.1
  have hl : lv_has ls 7 [(0, .ref (g.1 0)), (1, .int (iI f)), (2, .int (iI lat)), (3, .int (iI d)), (4, .int (iI h)), (5, .ref (g.1 33))] := hl
  obtain ⟨H, hHe⟩ : ∃ H : Heap, H = s.heap := ⟨_, rfl⟩
  rw [show (Hp g S s s.heap []) = Hp g S s H [] by rw [hHe]] at hH
  rw [← hHe]
  refine lv_aload zx zb dL_plan_0 (lv_at hl 5 rfl) ?_
  refine bi_const (n := 0) zx zb dL_plan_2 ?_
  refine lv_aload_n zx zb dL_plan_3 rfl (lv_at hl 0 rfl) ?_
  refine lv_iload_n zx zb dL_plan_4 rfl (lv_at hl 1 rfl) ?_
  refine lv_iload_n zx zb dL_plan_5 rfl (lv_at hl 2 rfl) ?_
  refine lv_iload_n zx zb dL_plan_6 rfl (lv_at hl 3 rfl) ?_
  refine lv_iload zx zb dL_plan_7 (lv_at hl 4 rfl) ?_
  refine cvI (rest := [.int (iI 0), .ref (g.1 33)]) (As := [.int (iI f), .int (iI lat), .int (iI d), .int (iI h)]) (b := g.1 0) C0 hH (c_X6_plan l g S f lat d h hnf hfo hlat hd hh hN hE hO hC hG hsc hup hnm hs12) kw_L_78 ky_X6_plan ⟨Nat.le_of_ble_eq_true rfl, Nat.le_of_ble_eq_true rfl⟩ ⟨Nat.zero_le _, Nat.zero_le _⟩ 0 rfl rfl rfl hl.1 rfl (Nat.le_of_ble_eq_true rfl) dL_plan_9 (fun H locs hH => ?_)
  refine lv_i2l zx zb dL_plan_12 rfl ?_
  refine lsG C0 hH dL_plan_13 (fun H locs hH => ?_)
  refine lv_goto (tgt := 29) zx zb dL_plan_14 (by decide) ?_
  refine bi_const (n := 0) zx zb dL_plan_29 ?_
  exact retW0 C0 hret hlk hH dL_plan_30
set_option maxRecDepth 100000 in
set_option maxHeartbeats 4000000 in
theorem wx1_X6_plan (l : Launch) (g : gT) (S : gSt) (f lat d h : Int) (hnf : 0 ≤ S 4 0 ∧ S 4 0 ≤ 8) (hr_f : -2147483648 ≤ f ∧ f < 2147483648) (hfb : ¬(0 ≤ f ∧ f < S 4 0)) (hfl : l.stackTraces = false) : LwM l g yL_plan cL_plan 7 [(0, 14, 17, 21), (0, 14, 21, 13), (0, 14, 25, 15)] [.ref (g.1 0), .int (iI f), .int (iI lat), .int (iI d), .int (iI h), .ref (g.1 33)] S 1 S := by
  refine bodyW (by decide +kernel) (Nat.le_of_ble_eq_true rfl) ?_
  intro p e s m args below meth c ls C0 hret htab hlk hl hH
  have zx := C0.1
  have zb := C0.2.1
  have hl : lv_has ls 7 [(0, .ref (g.1 0)), (1, .int (iI f)), (2, .int (iI lat)), (3, .int (iI d)), (4, .int (iI h)), (5, .ref (g.1 33))] := hl
  obtain ⟨H, hHe⟩ : ∃ H : Heap, H = s.heap := ⟨_, rfl⟩
  rw [show (Hp g S s s.heap []) = Hp g S s H [] by rw [hHe]] at hH
  rw [← hHe]
  refine lv_aload zx zb dL_plan_0 (lv_at hl 5 rfl) ?_
  refine bi_const (n := 0) zx zb dL_plan_2 ?_
  refine lv_aload_n zx zb dL_plan_3 rfl (lv_at hl 0 rfl) ?_
  refine lv_iload_n zx zb dL_plan_4 rfl (lv_at hl 1 rfl) ?_
  refine lv_iload_n zx zb dL_plan_5 rfl (lv_at hl 2 rfl) ?_
  refine lv_iload_n zx zb dL_plan_6 rfl (lv_at hl 3 rfl) ?_
  refine lv_iload zx zb dL_plan_7 (lv_at hl 4 rfl) ?_
  refine ctG (E := "java/lang/IndexOutOfBoundsException") (name := "java/lang/IndexOutOfBoundsException") (rest := [.int (iI 0), .ref (g.1 33)]) (As := [.int (iI f), .int (iI lat), .int (iI d), .int (iI h)]) (b := g.1 0) C0 hH (x1_X6_plan l g S f lat d h hnf hr_f hfb hfl) kw_L_78 ky_X6_plan ⟨Nat.le_of_ble_eq_true rfl, Nat.le_of_ble_eq_true rfl⟩ ⟨Nat.le_of_ble_eq_true rfl, Nat.le_of_ble_eq_true rfl⟩ 0 rfl rfl rfl hl.1 rfl (Nat.le_of_ble_eq_true rfl) dL_plan_9 [] (⟨0, 14, 17, 21⟩ : ExceptionTableEntry) [(⟨0, 14, 21, 13⟩ : ExceptionTableEntry), (⟨0, 14, 25, 15⟩ : ExceptionTableEntry)] htab (fun _ h => absurd h List.not_mem_nil) (by decide) (by decide) (C0.2.2.2.2.1.w (gm 361 (by decide +kernel) rfl)) (C0.2.2.2.2.1.n (nmm 372 (by decide +kernel) rfl)) (fun q H locs hH => ?_)
  refine lv_astore zx zb dL_plan_17 hl (by decide) rfl (fun ls hl => ?_)
  refine bi_const (n := 1) zx zb dL_plan_19 ?_
  exact retW C0 hret hlk hH dL_plan_20
set_option maxRecDepth 100000 in
set_option maxHeartbeats 4000000 in
theorem wx2_X6_plan (l : Launch) (g : gT) (S : gSt) (f lat d h : Int) (hnf : 0 ≤ S 4 0 ∧ S 4 0 ≤ 8) (hfo : 0 ≤ f ∧ f < S 4 0) (hr_lat : -2147483648 ≤ lat ∧ lat < 2147483648) (hr_d : -2147483648 ≤ d ∧ d < 2147483648) (hr_h : -2147483648 ≤ h ∧ h < 2147483648) (hbad : ¬((-90 ≤ lat ∧ lat ≤ 90) ∧ (0 ≤ d ∧ d < 365) ∧ (0 ≤ h ∧ h < 24))) (hfl : l.stackTraces = false) : LwM l g yL_plan cL_plan 7 [(0, 14, 17, 21), (0, 14, 21, 13), (0, 14, 25, 15)] [.ref (g.1 0), .int (iI f), .int (iI lat), .int (iI d), .int (iI h), .ref (g.1 33)] S 2 S := by
  refine bodyW (by decide +kernel) (Nat.le_of_ble_eq_true rfl) ?_
  intro p e s m args below meth c ls C0 hret htab hlk hl hH
  have zx := C0.1
  have zb := C0.2.1
  have hl : lv_has ls 7 [(0, .ref (g.1 0)), (1, .int (iI f)), (2, .int (iI lat)), (3, .int (iI d)), (4, .int (iI h)), (5, .ref (g.1 33))] := hl
  obtain ⟨H, hHe⟩ : ∃ H : Heap, H = s.heap := ⟨_, rfl⟩
  rw [show (Hp g S s s.heap []) = Hp g S s H [] by rw [hHe]] at hH
  rw [← hHe]
  refine lv_aload zx zb dL_plan_0 (lv_at hl 5 rfl) ?_
  refine bi_const (n := 0) zx zb dL_plan_2 ?_
  refine lv_aload_n zx zb dL_plan_3 rfl (lv_at hl 0 rfl) ?_
  refine lv_iload_n zx zb dL_plan_4 rfl (lv_at hl 1 rfl) ?_
  refine lv_iload_n zx zb dL_plan_5 rfl (lv_at hl 2 rfl) ?_
  refine lv_iload_n zx zb dL_plan_6 rfl (lv_at hl 3 rfl) ?_
  refine lv_iload zx zb dL_plan_7 (lv_at hl 4 rfl) ?_
  refine ctG (E := "java/lang/IllegalArgumentException") (name := "java/lang/IllegalArgumentException") (rest := [.int (iI 0), .ref (g.1 33)]) (As := [.int (iI f), .int (iI lat), .int (iI d), .int (iI h)]) (b := g.1 0) C0 hH (x2_X6_plan l g S f lat d h hnf hfo hr_lat hr_d hr_h hbad hfl) kw_L_78 ky_X6_plan ⟨Nat.le_of_ble_eq_true rfl, Nat.le_of_ble_eq_true rfl⟩ ⟨Nat.le_of_ble_eq_true rfl, Nat.le_of_ble_eq_true rfl⟩ 0 rfl rfl rfl hl.1 rfl (Nat.le_of_ble_eq_true rfl) dL_plan_9 [(⟨0, 14, 17, 21⟩ : ExceptionTableEntry)] (⟨0, 14, 21, 13⟩ : ExceptionTableEntry) [(⟨0, 14, 25, 15⟩ : ExceptionTableEntry)] htab (List.forall_mem_cons.mpr ⟨Or.inr ⟨by decide, "java/lang/IndexOutOfBoundsException", C0.2.2.2.2.1.w (gm 361 (by decide +kernel) rfl), C0.2.2.2.2.1.2.2.2.2.2 ("java/lang/IllegalArgumentException", "java/lang/IndexOutOfBoundsException") (by simp [NCL])⟩, (fun _ h => absurd h List.not_mem_nil)⟩) (by decide) (by decide) (C0.2.2.2.2.1.w (gm 256 (by decide +kernel) rfl)) (C0.2.2.2.2.1.n (nmm 267 (by decide +kernel) rfl)) (fun q H locs hH => ?_)
  refine lv_astore zx zb dL_plan_21 hl (by decide) rfl (fun ls hl => ?_)
  refine bi_const (n := 2) zx zb dL_plan_23 ?_
  exact retW C0 hret hlk hH dL_plan_24
set_option maxRecDepth 100000 in
set_option maxHeartbeats 4000000 in
theorem wx3_X6_plan (l : Launch) (g : gT) (S : gSt) (f lat d h : Int) (hnf : 0 ≤ S 4 0 ∧ S 4 0 ≤ 8) (hfo : 0 ≤ f ∧ f < S 4 0) (hlat : -90 ≤ lat ∧ lat ≤ 90) (hd : 0 ≤ d ∧ d < 365) (hh : 0 ≤ h ∧ h < 24) (hN : okN (S 5)) (hE : okE (S 5) (S 6)) (hO : okE (S 5) (S 7)) (hC : okC (S 2) (S 3)) (hG : okG (S 11)) (hsc : 0 ≤ S 12 0 ∧ S 12 0 ≤ 12) (hbad : ¬(upB (S 5) (S 6) (S 7) (S 2) (S 3) f lat (15 * h + d) = true ∧ S 11 f ≠ -1 ∧ S 12 0 < 12)) (hfl : l.stackTraces = false) : LwM l g yL_plan cL_plan 7 [(0, 14, 17, 21), (0, 14, 21, 13), (0, 14, 25, 15)] [.ref (g.1 0), .int (iI f), .int (iI lat), .int (iI d), .int (iI h), .ref (g.1 33)] S 3 S := by
  refine bodyW (by decide +kernel) (Nat.le_of_ble_eq_true rfl) ?_
  intro p e s m args below meth c ls C0 hret htab hlk hl hH
  have zx := C0.1
  have zb := C0.2.1
  have hl : lv_has ls 7 [(0, .ref (g.1 0)), (1, .int (iI f)), (2, .int (iI lat)), (3, .int (iI d)), (4, .int (iI h)), (5, .ref (g.1 33))] := hl
  obtain ⟨H, hHe⟩ : ∃ H : Heap, H = s.heap := ⟨_, rfl⟩
  rw [show (Hp g S s s.heap []) = Hp g S s H [] by rw [hHe]] at hH
  rw [← hHe]
  refine lv_aload zx zb dL_plan_0 (lv_at hl 5 rfl) ?_
  refine bi_const (n := 0) zx zb dL_plan_2 ?_
  refine lv_aload_n zx zb dL_plan_3 rfl (lv_at hl 0 rfl) ?_
  refine lv_iload_n zx zb dL_plan_4 rfl (lv_at hl 1 rfl) ?_
  refine lv_iload_n zx zb dL_plan_5 rfl (lv_at hl 2 rfl) ?_
  refine lv_iload_n zx zb dL_plan_6 rfl (lv_at hl 3 rfl) ?_
  refine lv_iload zx zb dL_plan_7 (lv_at hl 4 rfl) ?_
  refine ctG (E := "java/lang/IllegalStateException") (name := "java/lang/IllegalStateException") (rest := [.int (iI 0), .ref (g.1 33)]) (As := [.int (iI f), .int (iI lat), .int (iI d), .int (iI h)]) (b := g.1 0) C0 hH (x3_X6_plan l g S f lat d h hnf hfo hlat hd hh hN hE hO hC hG hsc hbad hfl) kw_L_78 ky_X6_plan ⟨Nat.le_of_ble_eq_true rfl, Nat.le_of_ble_eq_true rfl⟩ ⟨Nat.le_of_ble_eq_true rfl, Nat.le_of_ble_eq_true rfl⟩ 0 rfl rfl rfl hl.1 rfl (Nat.le_of_ble_eq_true rfl) dL_plan_9 [(⟨0, 14, 17, 21⟩ : ExceptionTableEntry), (⟨0, 14, 21, 13⟩ : ExceptionTableEntry)] (⟨0, 14, 25, 15⟩ : ExceptionTableEntry) [] htab (List.forall_mem_cons.mpr ⟨Or.inr ⟨by decide, "java/lang/IndexOutOfBoundsException", C0.2.2.2.2.1.w (gm 361 (by decide +kernel) rfl), C0.2.2.2.2.1.2.2.2.2.2 ("java/lang/IllegalStateException", "java/lang/IndexOutOfBoundsException") (by simp [NCL])⟩, (List.forall_mem_cons.mpr ⟨Or.inr ⟨by decide, "java/lang/IllegalArgumentException", C0.2.2.2.2.1.w (gm 256 (by decide +kernel) rfl), C0.2.2.2.2.1.2.2.2.2.2 ("java/lang/IllegalStateException", "java/lang/IllegalArgumentException") (by simp [NCL])⟩, (fun _ h => absurd h List.not_mem_nil)⟩)⟩) (by decide) (by decide) (C0.2.2.2.2.1.w (gm 257 (by decide +kernel) rfl)) (C0.2.2.2.2.1.n (nmm 336 (by decide +kernel) rfl)) (fun q H locs hH => ?_)
  refine lv_astore zx zb dL_plan_25 hl (by decide) rfl (fun ls hl => ?_)
  refine bi_const (n := 3) zx zb dL_plan_27 ?_
  exact retW C0 hret hlk hH dL_plan_28
set_option maxRecDepth 100000 in
set_option maxHeartbeats 4000000 in
theorem wc_X6_isWrong (l : Launch) (g : gT) (S : gSt) (i : Int) (hsc : 0 ≤ S 12 0 ∧ S 12 0 ≤ 12) (hio : 0 ≤ i ∧ i < S 12 0) (hN : okN (S 5)) (hE : okE (S 5) (S 6)) (hO : okE (S 5) (S 7)) (hC : okC (S 2) (S 3)) (hG : okG (S 11)) (hP : okP (S 13) (S 14) (S 15) (S 16)) : LwM l g yL_isWrong cL_isWrong 4 [(0, 16, 19, 21)] [.ref (g.1 0), .int (iI i), .ref (g.1 33)] S 0 (st S 33 0 (if swB S i = true then 1 else 0)) := by
  refine bodyW (by decide +kernel) (Nat.le_of_ble_eq_true rfl) ?_
  intro p e s m args below meth c ls C0 hret htab hlk hl hH
  have zx := C0.1
  have zb := C0.2.1
  have hl : lv_has ls 4 [(0, .ref (g.1 0)), (1, .int (iI i)), (2, .ref (g.1 33))] := hl
  obtain ⟨H, hHe⟩ : ∃ H : Heap, H = s.heap := ⟨_, rfl⟩
  rw [show (Hp g S s s.heap []) = Hp g S s H [] by rw [hHe]] at hH
  rw [← hHe]
  refine lv_aload_n zx zb dL_isWrong_0 rfl (lv_at hl 2 rfl) ?_
  refine bi_const (n := 0) zx zb dL_isWrong_1 ?_
  refine lv_aload_n zx zb dL_isWrong_2 rfl (lv_at hl 0 rfl) ?_
  refine lv_iload_n zx zb dL_isWrong_3 rfl (lv_at hl 1 rfl) ?_
  refine cvI (rest := [.int (iI 0), .ref (g.1 33)]) (As := [.int (iI i)]) (b := g.1 0) C0 hH (c_X6_isWrong l g S i hsc hio hN hE hO hC hG hP) kw_L_81 ky_X6_isWrong ⟨Nat.le_of_ble_eq_true rfl, Nat.le_of_ble_eq_true rfl⟩ ⟨Nat.zero_le _, Nat.zero_le _⟩ 0 rfl rfl rfl hl.1 rfl (Nat.le_of_ble_eq_true rfl) dL_isWrong_4 (fun H locs hH => ?_)
  have hbr := brg (swB S i)
  refine bz_eq (tgt := 14) zx zb dL_isWrong_7 (by decide) ⟨by omega, by omega⟩ (fun zq7 => ?_) (fun zq7 => ?_)
  · rw [zq7]
    refine lv_lconst (v := (iI 0).toInt64) zx zb dL_isWrong_14 (by decide) ?_
    refine lsG C0 hH dL_isWrong_15 (fun H locs hH => ?_)
    refine lv_goto (tgt := 22) zx zb dL_isWrong_16 (by decide) ?_
    refine bi_const (n := 0) zx zb dL_isWrong_22 ?_
    exact retW0 C0 hret hlk hH dL_isWrong_23
  · have zq8 : (if swB S i = true then (1 : Int) else 0) = 1 := by omega
    rw [zq8]
    refine lv_lconst (v := (iI 1).toInt64) zx zb dL_isWrong_10 (by decide) ?_
    refine lv_goto (tgt := 15) zx zb dL_isWrong_11 (by decide) ?_
    refine lsG C0 hH dL_isWrong_15 (fun H locs hH => ?_)
    refine lv_goto (tgt := 22) zx zb dL_isWrong_16 (by decide) ?_
    refine bi_const (n := 0) zx zb dL_isWrong_22 ?_
    exact retW0 C0 hret hlk hH dL_isWrong_23
set_option maxRecDepth 100000 in
set_option maxHeartbeats 4000000 in
theorem wx1_X6_isWrong (l : Launch) (g : gT) (S : gSt) (i : Int) (hsc : 0 ≤ S 12 0 ∧ S 12 0 ≤ 12) (hr_i : -2147483648 ≤ i ∧ i < 2147483648) (hbad : ¬(0 ≤ i ∧ i < S 12 0)) (hfl : l.stackTraces = false) : LwM l g yL_isWrong cL_isWrong 4 [(0, 16, 19, 21)] [.ref (g.1 0), .int (iI i), .ref (g.1 33)] S 1 S := by
  refine bodyW (by decide +kernel) (Nat.le_of_ble_eq_true rfl) ?_
  intro p e s m args below meth c ls C0 hret htab hlk hl hH
  have zx := C0.1
  have zb := C0.2.1
  have hl : lv_has ls 4 [(0, .ref (g.1 0)), (1, .int (iI i)), (2, .ref (g.1 33))] := hl
  obtain ⟨H, hHe⟩ : ∃ H : Heap, H = s.heap := ⟨_, rfl⟩
  rw [show (Hp g S s s.heap []) = Hp g S s H [] by rw [hHe]] at hH
  rw [← hHe]
  refine lv_aload_n zx zb dL_isWrong_0 rfl (lv_at hl 2 rfl) ?_
  refine bi_const (n := 0) zx zb dL_isWrong_1 ?_
  refine lv_aload_n zx zb dL_isWrong_2 rfl (lv_at hl 0 rfl) ?_
  refine lv_iload_n zx zb dL_isWrong_3 rfl (lv_at hl 1 rfl) ?_
  refine ctG (E := "java/lang/IndexOutOfBoundsException") (name := "java/lang/IndexOutOfBoundsException") (rest := [.int (iI 0), .ref (g.1 33)]) (As := [.int (iI i)]) (b := g.1 0) C0 hH (x1_X6_isWrong l g S i hsc hr_i hbad hfl) kw_L_81 ky_X6_isWrong ⟨Nat.le_of_ble_eq_true rfl, Nat.le_of_ble_eq_true rfl⟩ ⟨Nat.le_of_ble_eq_true rfl, Nat.le_of_ble_eq_true rfl⟩ 0 rfl rfl rfl hl.1 rfl (Nat.le_of_ble_eq_true rfl) dL_isWrong_4 [] (⟨0, 16, 19, 21⟩ : ExceptionTableEntry) [] htab (fun _ h => absurd h List.not_mem_nil) (by decide) (by decide) (C0.2.2.2.2.1.w (gm 361 (by decide +kernel) rfl)) (C0.2.2.2.2.1.n (nmm 372 (by decide +kernel) rfl)) (fun q H locs hH => ?_)
  refine lv_astore_n zx zb dL_isWrong_19 rfl hl (by decide) rfl (fun ls hl => ?_)
  refine bi_const (n := 1) zx zb dL_isWrong_20 ?_
  exact retW C0 hret hlk hH dL_isWrong_21
