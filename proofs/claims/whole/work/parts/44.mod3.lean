set_option maxRecDepth 100000 in
set_option maxHeartbeats 4000000 in
theorem c_X7_addStar (l : Launch) (g : gT) (S : gSt) (a u : Int) (hpo : (0 ≤ a ∧ a < 360) ∧ (-90 ≤ u ∧ u ≤ 90)) (hn : 0 ≤ S 23 3 ∧ S 23 3 < 24) : MetG l g yX7_addStar cX7_addStar 3 (some .int) 2 43 [.ref (g.1 23), .int (iI a), .int (iI u)] S (some (.int (iI (S 23 3)))) (st (st (st (st S 23 0 0) 24 (S 23 3) a) 25 (S 23 3) u) 23 3 ((S 23 3) + 1)) := by
  refine bodyG (by decide +kernel) (Nat.le_of_ble_eq_true rfl) ?_
  intro p e s m args below meth c ls C0 hret hlk hl hH
  have zx := C0.1
  have zb := C0.2.1
  have hl : lv_has ls 3 [(0, .ref (g.1 23)), (1, .int (iI a)), (2, .int (iI u))] := hl
  obtain ⟨H, hHe⟩ : ∃ H : Heap, H = s.heap := ⟨_, rfl⟩
  rw [show (Hp g S s s.heap []) = Hp g S s H [] by rw [hHe]] at hH
  rw [← hHe]
  refine lv_aload_n zx zb dX7_addStar_0 rfl (lv_at hl 0 rfl) ?_
  refine lv_iload_n zx zb dX7_addStar_1 rfl (lv_at hl 1 rfl) ?_
  refine lv_iload_n zx zb dX7_addStar_2 rfl (lv_at hl 2 rfl) ?_
  refine csI (rest := [.ref (g.1 23)]) (As := [.int (iI a), .int (iI u)]) C0 hH (c_X7_isPlace l g S a u (by omega) (by omega)) kw_X7_51 ky_X7_isPlace ⟨Nat.le_of_ble_eq_true rfl, Nat.le_of_ble_eq_true rfl⟩ ⟨Nat.zero_le _, Nat.zero_le _⟩ rfl hl.1 rfl (Nat.le_of_ble_eq_true rfl) dX7_addStar_3 (fun H locs hH => ?_)
  rw [show (if (0 ≤ a ∧ a < 360) ∧ (-90 ≤ u ∧ u ≤ 90) then (1 : Int) else 0) = 1 from if_pos hpo]
  refine bz_ne (tgt := 13) zx zb dX7_addStar_6 (by decide) ⟨by omega, by omega⟩ (fun zq6 => ?_) (fun zq6 => ?_)
  · refine lv_aload_n zx zb dX7_addStar_13 rfl (lv_at hl 0 rfl) ?_
    refine gf_X7_41 C0 hH dX7_addStar_14 ?_
    refine bi_bip (n := 24) zx zb dX7_addStar_17 (by decide) ?_
    refine bq_ne (tgt := 26) zx zb dX7_addStar_19 (by decide) ⟨by omega, by omega⟩ ⟨by omega, by omega⟩ (fun zq19 => ?_) (fun zq19 => ?_)
    · refine bi_const (n := 0) zx zb dX7_addStar_26 ?_
      refine cvI (rest := []) (As := [.int (iI 0)]) (b := g.1 23) C0 hH (c_X7_isFine l g S 0 (by omega)) kw_X7_55 ky_X7_isFine ⟨Nat.le_of_ble_eq_true rfl, Nat.le_of_ble_eq_true rfl⟩ ⟨Nat.zero_le _, Nat.zero_le _⟩ 23 rfl rfl rfl hl.1 rfl (Nat.le_of_ble_eq_true rfl) dX7_addStar_27 (fun H locs hH => ?_)
      show W p l e _ s m args below meth c H _ _ _ _ (F0 m 30 ls [.int (iI 1)])
      refine bz_ne (tgt := 35) zx zb dX7_addStar_30 (by decide) ⟨by omega, by omega⟩ (fun zq30 => ?_) (fun zq30 => ?_)
      · refine lv_aload_n zx zb dX7_addStar_35 rfl (lv_at hl 0 rfl) ?_
        refine gf_X7_7 C0 hH dX7_addStar_36 ?_
        refine lv_aload_n zx zb dX7_addStar_39 rfl (lv_at hl 0 rfl) ?_
        refine gf_X7_41 C0 hH dX7_addStar_40 ?_
        show W p l e _ s m args below meth c H _ _ _ _ (F0 m 43 ls [.int (iI (S 23 3)), .ref (g.1 24)])
        refine lv_iload_n zx zb dX7_addStar_43 rfl (lv_at hl 1 rfl) ?_
        refine as_24 C0 hH (by omega) (by omega) dX7_addStar_44 (fun H locs hH => ?_)
        refine lv_aload_n zx zb dX7_addStar_45 rfl (lv_at hl 0 rfl) ?_
        refine gf_X7_13 C0 hH dX7_addStar_46 ?_
        refine lv_aload_n zx zb dX7_addStar_49 rfl (lv_at hl 0 rfl) ?_
        refine gf_X7_41 C0 hH dX7_addStar_50 ?_
        show W p l e _ s m args below meth c H _ _ _ _ (F0 m 53 ls [.int (iI (S 23 3)), .ref (g.1 25)])
        refine lv_iload_n zx zb dX7_addStar_53 rfl (lv_at hl 2 rfl) ?_
        refine as_25 C0 hH (by omega) (by omega) dX7_addStar_54 (fun H locs hH => ?_)
        refine lv_aload_n zx zb dX7_addStar_55 rfl (lv_at hl 0 rfl) ?_
        refine lv_dup zx zb dX7_addStar_56 rfl ?_
        refine gf_X7_41 C0 hH dX7_addStar_57 ?_
        show W p l e _ s m args below meth c H _ _ _ _ (F0 m 60 ls [.int (iI (S 23 3)), .ref (g.1 23)])
        refine bi_const (n := 1) zx zb dX7_addStar_60 ?_
        refine bi_add zx zb dX7_addStar_61 ?_
        refine pf_X7_41 C0 hH dX7_addStar_62 (fun H locs hH => ?_)
        refine lv_aload_n zx zb dX7_addStar_65 rfl (lv_at hl 0 rfl) ?_
        refine gf_X7_41 C0 hH dX7_addStar_66 ?_
        show W p l e _ s m args below meth c H _ _ _ _ (F0 m 69 ls [.int (iI ((S 23 3) + 1))])
        refine bi_const (n := 1) zx zb dX7_addStar_69 ?_
        refine bi_sub zx zb dX7_addStar_70 ?_
        exact retI C0 hret hlk hH (by omega) (rfl) dX7_addStar_71
      · exact absurd zq30 (by decide)
    · exact absurd zq19 (by omega)
  · exact absurd zq6 (by decide)
set_option maxRecDepth 100000 in
set_option maxHeartbeats 4000000 in
theorem f1_X7_addStar (l : Launch) (g : gT) (S : gSt) (a u : Int) (hr_a : -2147483648 ≤ a ∧ a < 2147483648) (hr_u : -2147483648 ≤ u ∧ u < 2147483648) (hbad : ¬((0 ≤ a ∧ a < 360) ∧ (-90 ≤ u ∧ u ≤ 90))) : MetG l g yX7_addStar cX7_addStar 3 (some .int) 2 43 [.ref (g.1 23), .int (iI a), .int (iI u)] S (some (.int (iI 0))) (st S 23 0 1) := by
  refine bodyG (by decide +kernel) (Nat.le_of_ble_eq_true rfl) ?_
  intro p e s m args below meth c ls C0 hret hlk hl hH
  have zx := C0.1
  have zb := C0.2.1
  have hl : lv_has ls 3 [(0, .ref (g.1 23)), (1, .int (iI a)), (2, .int (iI u))] := hl
  obtain ⟨H, hHe⟩ : ∃ H : Heap, H = s.heap := ⟨_, rfl⟩
  rw [show (Hp g S s s.heap []) = Hp g S s H [] by rw [hHe]] at hH
  rw [← hHe]
  refine lv_aload_n zx zb dX7_addStar_0 rfl (lv_at hl 0 rfl) ?_
  refine lv_iload_n zx zb dX7_addStar_1 rfl (lv_at hl 1 rfl) ?_
  refine lv_iload_n zx zb dX7_addStar_2 rfl (lv_at hl 2 rfl) ?_
  refine csI (rest := [.ref (g.1 23)]) (As := [.int (iI a), .int (iI u)]) C0 hH (c_X7_isPlace l g S a u (by omega) (by omega)) kw_X7_51 ky_X7_isPlace ⟨Nat.le_of_ble_eq_true rfl, Nat.le_of_ble_eq_true rfl⟩ ⟨Nat.zero_le _, Nat.zero_le _⟩ rfl hl.1 rfl (Nat.le_of_ble_eq_true rfl) dX7_addStar_3 (fun H locs hH => ?_)
  rw [show (if (0 ≤ a ∧ a < 360) ∧ (-90 ≤ u ∧ u ≤ 90) then (1 : Int) else 0) = 0 from if_neg hbad]
  refine bz_ne (tgt := 13) zx zb dX7_addStar_6 (by decide) ⟨by omega, by omega⟩ (fun zq6 => ?_) (fun zq6 => ?_)
  · exact absurd zq6 (by decide)
  · refine bi_const (n := 1) zx zb dX7_addStar_9 ?_
    refine lv_goto (tgt := 27) zx zb dX7_addStar_10 (by decide) ?_
    refine cvI (rest := []) (As := [.int (iI 1)]) (b := g.1 23) C0 hH (c_X7_isFine l g S 1 (by omega)) kw_X7_55 ky_X7_isFine ⟨Nat.le_of_ble_eq_true rfl, Nat.le_of_ble_eq_true rfl⟩ ⟨Nat.zero_le _, Nat.zero_le _⟩ 23 rfl rfl rfl hl.1 rfl (Nat.le_of_ble_eq_true rfl) dX7_addStar_27 (fun H locs hH => ?_)
    show W p l e _ s m args below meth c H _ _ _ _ (F0 m 30 ls [.int (iI 0)])
    refine bz_ne (tgt := 35) zx zb dX7_addStar_30 (by decide) ⟨by omega, by omega⟩ (fun zq30 => ?_) (fun zq30 => ?_)
    · exact absurd zq30 (by decide)
    · refine bi_const (n := 0) zx zb dX7_addStar_33 ?_
      exact retI C0 hret hlk hH (by rfl) (rfl) dX7_addStar_34
set_option maxRecDepth 100000 in
set_option maxHeartbeats 4000000 in
theorem f2_X7_addStar (l : Launch) (g : gT) (S : gSt) (a u : Int) (hpo : (0 ≤ a ∧ a < 360) ∧ (-90 ≤ u ∧ u ≤ 90)) (hn : S 23 3 = 24) : MetG l g yX7_addStar cX7_addStar 3 (some .int) 2 43 [.ref (g.1 23), .int (iI a), .int (iI u)] S (some (.int (iI 0))) (st S 23 0 2) := by
  refine bodyG (by decide +kernel) (Nat.le_of_ble_eq_true rfl) ?_
  intro p e s m args below meth c ls C0 hret hlk hl hH
  have zx := C0.1
  have zb := C0.2.1
  have hl : lv_has ls 3 [(0, .ref (g.1 23)), (1, .int (iI a)), (2, .int (iI u))] := hl
  obtain ⟨H, hHe⟩ : ∃ H : Heap, H = s.heap := ⟨_, rfl⟩
  rw [show (Hp g S s s.heap []) = Hp g S s H [] by rw [hHe]] at hH
  rw [← hHe]
  refine lv_aload_n zx zb dX7_addStar_0 rfl (lv_at hl 0 rfl) ?_
  refine lv_iload_n zx zb dX7_addStar_1 rfl (lv_at hl 1 rfl) ?_
  refine lv_iload_n zx zb dX7_addStar_2 rfl (lv_at hl 2 rfl) ?_
  refine csI (rest := [.ref (g.1 23)]) (As := [.int (iI a), .int (iI u)]) C0 hH (c_X7_isPlace l g S a u (by omega) (by omega)) kw_X7_51 ky_X7_isPlace ⟨Nat.le_of_ble_eq_true rfl, Nat.le_of_ble_eq_true rfl⟩ ⟨Nat.zero_le _, Nat.zero_le _⟩ rfl hl.1 rfl (Nat.le_of_ble_eq_true rfl) dX7_addStar_3 (fun H locs hH => ?_)
  rw [show (if (0 ≤ a ∧ a < 360) ∧ (-90 ≤ u ∧ u ≤ 90) then (1 : Int) else 0) = 1 from if_pos hpo]
  refine bz_ne (tgt := 13) zx zb dX7_addStar_6 (by decide) ⟨by omega, by omega⟩ (fun zq6 => ?_) (fun zq6 => ?_)
  · refine lv_aload_n zx zb dX7_addStar_13 rfl (lv_at hl 0 rfl) ?_
    refine gf_X7_41 C0 hH dX7_addStar_14 ?_
    refine bi_bip (n := 24) zx zb dX7_addStar_17 (by decide) ?_
    refine bq_ne (tgt := 26) zx zb dX7_addStar_19 (by decide) ⟨by omega, by omega⟩ ⟨by omega, by omega⟩ (fun zq19 => ?_) (fun zq19 => ?_)
    · exact absurd hn zq19
    · refine bi_const (n := 2) zx zb dX7_addStar_22 ?_
      refine lv_goto (tgt := 27) zx zb dX7_addStar_23 (by decide) ?_
      refine cvI (rest := []) (As := [.int (iI 2)]) (b := g.1 23) C0 hH (c_X7_isFine l g S 2 (by omega)) kw_X7_55 ky_X7_isFine ⟨Nat.le_of_ble_eq_true rfl, Nat.le_of_ble_eq_true rfl⟩ ⟨Nat.zero_le _, Nat.zero_le _⟩ 23 rfl rfl rfl hl.1 rfl (Nat.le_of_ble_eq_true rfl) dX7_addStar_27 (fun H locs hH => ?_)
      show W p l e _ s m args below meth c H _ _ _ _ (F0 m 30 ls [.int (iI 0)])
      refine bz_ne (tgt := 35) zx zb dX7_addStar_30 (by decide) ⟨by omega, by omega⟩ (fun zq30 => ?_) (fun zq30 => ?_)
      · exact absurd zq30 (by decide)
      · refine bi_const (n := 0) zx zb dX7_addStar_33 ?_
        exact retI C0 hret hlk hH (by rfl) (rfl) dX7_addStar_34
  · exact absurd zq6 (by decide)
set_option maxRecDepth 100000 in
set_option maxHeartbeats 4000000 in
theorem c_X7_correct (l : Launch) (g : gT) (S : gSt) (z a u : Int) (hn1 : 0 ≤ S 23 3 ∧ S 23 3 ≤ 24) (hzo : 0 ≤ z ∧ z < S 23 3) (hpo : (0 ≤ a ∧ a < 360) ∧ (-90 ≤ u ∧ u ≤ 90)) (hdn : 0 ≤ S 23 13 ∧ S 23 13 ≤ 30) (hN : okN (S 28)) (hE : okE (S 28) (S 26)) (hO : okE (S 28) (S 27)) (hC : okC (S 24) (S 25)) (hV : okV (S 29)) (hnf : 0 ≤ S 23 7 ∧ S 23 7 ≤ 8) (hsh : okSh (S 31)) (hsc : 0 ≤ S 23 11 ∧ S 23 11 ≤ 12) : MetG l g yX7_correct cX7_correct 4 (some .int) 7 165 [.ref (g.1 23), .int (iI z), .int (iI a), .int (iI u)] S (some (.int (iI (wrM (st (st (ntS (st S 23 0 0) 0 z (S 24 z) (S 25 z) 0) 24 z a) 25 z u))))) (gvJ (st (st (ntS (st S 23 0 0) 0 z (S 24 z) (S 25 z) 0) 24 z a) 25 z u) (exF (suM (st (st (ntS (st S 23 0 0) 0 z (S 24 z) (S 25 z) 0) 24 z a) 25 z u)) ((st (st (ntS (st S 23 0 0) 0 z (S 24 z) (S 25 z) 0) 24 z a) 25 z u) 23 11).toNat 0)) := by
  refine bodyG (by decide +kernel) (Nat.le_of_ble_eq_true rfl) ?_
  intro p e s m args below meth c ls C0 hret hlk hl hH
  have zx := C0.1
  have zb := C0.2.1
  have hl : lv_has ls 4 [(0, .ref (g.1 23)), (1, .int (iI z)), (2, .int (iI a)), (3, .int (iI u))] := hl
  obtain ⟨H, hHe⟩ : ∃ H : Heap, H = s.heap := ⟨_, rfl⟩
  rw [show (Hp g S s s.heap []) = Hp g S s H [] by rw [hHe]] at hH
  rw [← hHe]
  refine lv_aload_n zx zb dX7_correct_0 rfl (lv_at hl 0 rfl) ?_
  refine lv_aload_n zx zb dX7_correct_1 rfl (lv_at hl 0 rfl) ?_
  refine lv_iload_n zx zb dX7_correct_2 rfl (lv_at hl 1 rfl) ?_
  refine cvI (rest := [.ref (g.1 23)]) (As := [.int (iI z)]) (b := g.1 23) C0 hH (c_X7_isStar l g S z (by omega) (by omega)) kw_X7_62 ky_X7_isStar ⟨Nat.le_of_ble_eq_true rfl, Nat.le_of_ble_eq_true rfl⟩ ⟨Nat.zero_le _, Nat.zero_le _⟩ 23 rfl rfl rfl hl.1 rfl (Nat.le_of_ble_eq_true rfl) dX7_correct_3 (fun H locs hH => ?_)
  rw [show (if 0 ≤ z ∧ z < S 23 3 then (1 : Int) else 0) = 1 from if_pos hzo]
  refine bz_ne (tgt := 13) zx zb dX7_correct_6 (by decide) ⟨by omega, by omega⟩ (fun zq6 => ?_) (fun zq6 => ?_)
  · refine lv_iload_n zx zb dX7_correct_13 rfl (lv_at hl 2 rfl) ?_
    refine lv_iload_n zx zb dX7_correct_14 rfl (lv_at hl 3 rfl) ?_
    refine csI (rest := [.ref (g.1 23)]) (As := [.int (iI a), .int (iI u)]) C0 hH (c_X7_isPlace l g S a u (by omega) (by omega)) kw_X7_51 ky_X7_isPlace ⟨Nat.le_of_ble_eq_true rfl, Nat.le_of_ble_eq_true rfl⟩ ⟨Nat.zero_le _, Nat.zero_le _⟩ rfl hl.1 rfl (Nat.le_of_ble_eq_true rfl) dX7_correct_15 (fun H locs hH => ?_)
    rw [show (if (0 ≤ a ∧ a < 360) ∧ (-90 ≤ u ∧ u ≤ 90) then (1 : Int) else 0) = 1 from if_pos hpo]
    refine bz_ne (tgt := 25) zx zb dX7_correct_18 (by decide) ⟨by omega, by omega⟩ (fun zq18 => ?_) (fun zq18 => ?_)
    · refine bi_const (n := 0) zx zb dX7_correct_25 ?_
      refine cvI (rest := []) (As := [.int (iI 0)]) (b := g.1 23) C0 hH (c_X7_isFine l g S 0 (by omega)) kw_X7_55 ky_X7_isFine ⟨Nat.le_of_ble_eq_true rfl, Nat.le_of_ble_eq_true rfl⟩ ⟨Nat.zero_le _, Nat.zero_le _⟩ 23 rfl rfl rfl hl.1 rfl (Nat.le_of_ble_eq_true rfl) dX7_correct_26 (fun H locs hH => ?_)
      show W p l e _ s m args below meth c H _ _ _ _ (F0 m 29 ls [.int (iI 1)])
      refine bz_ne (tgt := 34) zx zb dX7_correct_29 (by decide) ⟨by omega, by omega⟩ (fun zq29 => ?_) (fun zq29 => ?_)
      · refine lv_aload_n zx zb dX7_correct_34 rfl (lv_at hl 0 rfl) ?_
        refine bi_const (n := 0) zx zb dX7_correct_35 ?_
        refine lv_iload_n zx zb dX7_correct_36 rfl (lv_at hl 1 rfl) ?_
        refine lv_aload_n zx zb dX7_correct_37 rfl (lv_at hl 0 rfl) ?_
        refine gf_X7_7 C0 hH dX7_correct_38 ?_
        refine lv_iload_n zx zb dX7_correct_41 rfl (lv_at hl 1 rfl) ?_
        refine al_24 C0 hH (by omega) (by omega) dX7_correct_42 ?_
        show W p l e _ s m args below meth c H _ _ _ _ (F0 m 43 ls [.int (iI (S 24 z)), .int (iI z), .int (iI 0), .ref (g.1 23)])
        refine lv_aload_n zx zb dX7_correct_43 rfl (lv_at hl 0 rfl) ?_
        refine gf_X7_13 C0 hH dX7_correct_44 ?_
        refine lv_iload_n zx zb dX7_correct_47 rfl (lv_at hl 1 rfl) ?_
        refine al_25 C0 hH (by omega) (by omega) dX7_correct_48 ?_
        show W p l e _ s m args below meth c H _ _ _ _ (F0 m 49 ls [.int (iI (S 25 z)), .int (iI (S 24 z)), .int (iI z), .int (iI 0), .ref (g.1 23)])
        refine bi_const (n := 0) zx zb dX7_correct_49 ?_
        refine cvN (rest := []) (As := [.int (iI 0), .int (iI z), .int (iI (S 24 z)), .int (iI (S 25 z)), .int (iI 0)]) (b := g.1 23) C0 hH (c_X7_notes l g (st S 23 0 0) 0 z (S 24 z) (S 25 z) 0 (hdn)) kw_X7_65 ky_X7_notes ⟨Nat.le_of_ble_eq_true rfl, Nat.le_of_ble_eq_true rfl⟩ ⟨Nat.zero_le _, Nat.zero_le _⟩ 23 rfl rfl rfl hl.1 rfl (Nat.le_of_ble_eq_true rfl) dX7_correct_50 (fun H locs hH => ?_)
        refine lv_aload_n zx zb dX7_correct_53 rfl (lv_at hl 0 rfl) ?_
        refine gf_X7_7 C0 hH dX7_correct_54 ?_
        refine lv_iload_n zx zb dX7_correct_57 rfl (lv_at hl 1 rfl) ?_
        refine lv_iload_n zx zb dX7_correct_58 rfl (lv_at hl 2 rfl) ?_
        refine as_24 C0 hH (by omega) (by omega) dX7_correct_59 (fun H locs hH => ?_)
        refine lv_aload_n zx zb dX7_correct_60 rfl (lv_at hl 0 rfl) ?_
        refine gf_X7_13 C0 hH dX7_correct_61 ?_
        refine lv_iload_n zx zb dX7_correct_64 rfl (lv_at hl 1 rfl) ?_
        refine lv_iload_n zx zb dX7_correct_65 rfl (lv_at hl 3 rfl) ?_
        refine as_25 C0 hH (by omega) (by omega) dX7_correct_66 (fun H locs hH => ?_)
        refine lv_aload_n zx zb dX7_correct_67 rfl (lv_at hl 0 rfl) ?_
        refine cvI (rest := []) (As := []) (b := g.1 23) C0 hH (c_X7_wrongNow l g (st (st (ntS (st S 23 0 0) 0 z (S 24 z) (S 25 z) 0) 24 z a) 25 z u) (hN) (hE) (hO) (okC_mv (z := z) hC hpo.1 hpo.2) (hV) (hnf) (hsh) (hsc)) kw_X7_69 ky_X7_wrongNow ⟨Nat.le_of_ble_eq_true rfl, Nat.le_of_ble_eq_true rfl⟩ ⟨Nat.zero_le _, Nat.zero_le _⟩ 23 rfl rfl rfl hl.1 rfl (Nat.le_of_ble_eq_true rfl) dX7_correct_68 (fun H locs hH => ?_)
        exact retI C0 hret hlk hH (by rfl) (rfl) dX7_correct_71
      · exact absurd zq29 (by decide)
    · exact absurd zq18 (by decide)
  · exact absurd zq6 (by decide)
set_option maxRecDepth 100000 in
set_option maxHeartbeats 4000000 in
theorem f1_X7_correct (l : Launch) (g : gT) (S : gSt) (z a u : Int) (hn1 : 0 ≤ S 23 3 ∧ S 23 3 ≤ 24) (hr_z : -2147483648 ≤ z ∧ z < 2147483648) (hr_a : -2147483648 ≤ a ∧ a < 2147483648) (hr_u : -2147483648 ≤ u ∧ u < 2147483648) (hzb : ¬(0 ≤ z ∧ z < S 23 3)) : MetG l g yX7_correct cX7_correct 4 (some .int) 2 43 [.ref (g.1 23), .int (iI z), .int (iI a), .int (iI u)] S (some (.int (iI 0))) (st S 23 0 1) := by
  refine bodyG (by decide +kernel) (Nat.le_of_ble_eq_true rfl) ?_
  intro p e s m args below meth c ls C0 hret hlk hl hH
  have zx := C0.1
  have zb := C0.2.1
  have hl : lv_has ls 4 [(0, .ref (g.1 23)), (1, .int (iI z)), (2, .int (iI a)), (3, .int (iI u))] := hl
  obtain ⟨H, hHe⟩ : ∃ H : Heap, H = s.heap := ⟨_, rfl⟩
  rw [show (Hp g S s s.heap []) = Hp g S s H [] by rw [hHe]] at hH
  rw [← hHe]
  refine lv_aload_n zx zb dX7_correct_0 rfl (lv_at hl 0 rfl) ?_
  refine lv_aload_n zx zb dX7_correct_1 rfl (lv_at hl 0 rfl) ?_
  refine lv_iload_n zx zb dX7_correct_2 rfl (lv_at hl 1 rfl) ?_
  refine cvI (rest := [.ref (g.1 23)]) (As := [.int (iI z)]) (b := g.1 23) C0 hH (c_X7_isStar l g S z (by omega) (by omega)) kw_X7_62 ky_X7_isStar ⟨Nat.le_of_ble_eq_true rfl, Nat.le_of_ble_eq_true rfl⟩ ⟨Nat.zero_le _, Nat.zero_le _⟩ 23 rfl rfl rfl hl.1 rfl (Nat.le_of_ble_eq_true rfl) dX7_correct_3 (fun H locs hH => ?_)
  rw [show (if 0 ≤ z ∧ z < S 23 3 then (1 : Int) else 0) = 0 from if_neg hzb]
  refine bz_ne (tgt := 13) zx zb dX7_correct_6 (by decide) ⟨by omega, by omega⟩ (fun zq6 => ?_) (fun zq6 => ?_)
  · exact absurd zq6 (by decide)
  · refine bi_const (n := 1) zx zb dX7_correct_9 ?_
    refine lv_goto (tgt := 26) zx zb dX7_correct_10 (by decide) ?_
    refine cvI (rest := []) (As := [.int (iI 1)]) (b := g.1 23) C0 hH (c_X7_isFine l g S 1 (by omega)) kw_X7_55 ky_X7_isFine ⟨Nat.le_of_ble_eq_true rfl, Nat.le_of_ble_eq_true rfl⟩ ⟨Nat.zero_le _, Nat.zero_le _⟩ 23 rfl rfl rfl hl.1 rfl (Nat.le_of_ble_eq_true rfl) dX7_correct_26 (fun H locs hH => ?_)
    show W p l e _ s m args below meth c H _ _ _ _ (F0 m 29 ls [.int (iI 0)])
    refine bz_ne (tgt := 34) zx zb dX7_correct_29 (by decide) ⟨by omega, by omega⟩ (fun zq29 => ?_) (fun zq29 => ?_)
    · exact absurd zq29 (by decide)
    · refine bi_const (n := 0) zx zb dX7_correct_32 ?_
      exact retI C0 hret hlk hH (by rfl) (rfl) dX7_correct_33
set_option maxRecDepth 100000 in
set_option maxHeartbeats 4000000 in
theorem f2_X7_correct (l : Launch) (g : gT) (S : gSt) (z a u : Int) (hn1 : 0 ≤ S 23 3 ∧ S 23 3 ≤ 24) (hzo : 0 ≤ z ∧ z < S 23 3) (hr_a : -2147483648 ≤ a ∧ a < 2147483648) (hr_u : -2147483648 ≤ u ∧ u < 2147483648) (hbad : ¬((0 ≤ a ∧ a < 360) ∧ (-90 ≤ u ∧ u ≤ 90))) : MetG l g yX7_correct cX7_correct 4 (some .int) 2 43 [.ref (g.1 23), .int (iI z), .int (iI a), .int (iI u)] S (some (.int (iI 0))) (st S 23 0 2) := by
  refine bodyG (by decide +kernel) (Nat.le_of_ble_eq_true rfl) ?_
  intro p e s m args below meth c ls C0 hret hlk hl hH
  have zx := C0.1
  have zb := C0.2.1
  have hl : lv_has ls 4 [(0, .ref (g.1 23)), (1, .int (iI z)), (2, .int (iI a)), (3, .int (iI u))] := hl
  obtain ⟨H, hHe⟩ : ∃ H : Heap, H = s.heap := ⟨_, rfl⟩
  rw [show (Hp g S s s.heap []) = Hp g S s H [] by rw [hHe]] at hH
  rw [← hHe]
  refine lv_aload_n zx zb dX7_correct_0 rfl (lv_at hl 0 rfl) ?_
  refine lv_aload_n zx zb dX7_correct_1 rfl (lv_at hl 0 rfl) ?_
  refine lv_iload_n zx zb dX7_correct_2 rfl (lv_at hl 1 rfl) ?_
  refine cvI (rest := [.ref (g.1 23)]) (As := [.int (iI z)]) (b := g.1 23) C0 hH (c_X7_isStar l g S z (by omega) (by omega)) kw_X7_62 ky_X7_isStar ⟨Nat.le_of_ble_eq_true rfl, Nat.le_of_ble_eq_true rfl⟩ ⟨Nat.zero_le _, Nat.zero_le _⟩ 23 rfl rfl rfl hl.1 rfl (Nat.le_of_ble_eq_true rfl) dX7_correct_3 (fun H locs hH => ?_)
  rw [show (if 0 ≤ z ∧ z < S 23 3 then (1 : Int) else 0) = 1 from if_pos hzo]
  refine bz_ne (tgt := 13) zx zb dX7_correct_6 (by decide) ⟨by omega, by omega⟩ (fun zq6 => ?_) (fun zq6 => ?_)
  · refine lv_iload_n zx zb dX7_correct_13 rfl (lv_at hl 2 rfl) ?_
    refine lv_iload_n zx zb dX7_correct_14 rfl (lv_at hl 3 rfl) ?_
    refine csI (rest := [.ref (g.1 23)]) (As := [.int (iI a), .int (iI u)]) C0 hH (c_X7_isPlace l g S a u (by omega) (by omega)) kw_X7_51 ky_X7_isPlace ⟨Nat.le_of_ble_eq_true rfl, Nat.le_of_ble_eq_true rfl⟩ ⟨Nat.zero_le _, Nat.zero_le _⟩ rfl hl.1 rfl (Nat.le_of_ble_eq_true rfl) dX7_correct_15 (fun H locs hH => ?_)
    rw [show (if (0 ≤ a ∧ a < 360) ∧ (-90 ≤ u ∧ u ≤ 90) then (1 : Int) else 0) = 0 from if_neg hbad]
    refine bz_ne (tgt := 25) zx zb dX7_correct_18 (by decide) ⟨by omega, by omega⟩ (fun zq18 => ?_) (fun zq18 => ?_)
    · exact absurd zq18 (by decide)
    · refine bi_const (n := 2) zx zb dX7_correct_21 ?_
      refine lv_goto (tgt := 26) zx zb dX7_correct_22 (by decide) ?_
      refine cvI (rest := []) (As := [.int (iI 2)]) (b := g.1 23) C0 hH (c_X7_isFine l g S 2 (by omega)) kw_X7_55 ky_X7_isFine ⟨Nat.le_of_ble_eq_true rfl, Nat.le_of_ble_eq_true rfl⟩ ⟨Nat.zero_le _, Nat.zero_le _⟩ 23 rfl rfl rfl hl.1 rfl (Nat.le_of_ble_eq_true rfl) dX7_correct_26 (fun H locs hH => ?_)
      show W p l e _ s m args below meth c H _ _ _ _ (F0 m 29 ls [.int (iI 0)])
      refine bz_ne (tgt := 34) zx zb dX7_correct_29 (by decide) ⟨by omega, by omega⟩ (fun zq29 => ?_) (fun zq29 => ?_)
      · exact absurd zq29 (by decide)
      · refine bi_const (n := 0) zx zb dX7_correct_32 ?_
        exact retI C0 hret hlk hH (by rfl) (rfl) dX7_correct_33
  · exact absurd zq6 (by decide)
set_option maxRecDepth 100000 in
set_option maxHeartbeats 4000000 in
theorem c_X7_addFigure (l : Launch) (g : gT) (S : gSt) (hn : 0 ≤ S 23 7 ∧ S 23 7 < 8) : MetG l g yX7_addFigure cX7_addFigure 1 (some .int) 1 21 [.ref (g.1 23)] S (some (.int (iI (S 23 7)))) (st (st S 23 0 0) 23 7 ((S 23 7) + 1)) := by
  refine bodyG (by decide +kernel) (Nat.le_of_ble_eq_true rfl) ?_
  intro p e s m args below meth c ls C0 hret hlk hl hH
  have zx := C0.1
  have zb := C0.2.1
  have hl : lv_has ls 1 [(0, .ref (g.1 23))] := hl
  obtain ⟨H, hHe⟩ : ∃ H : Heap, H = s.heap := ⟨_, rfl⟩
  rw [show (Hp g S s s.heap []) = Hp g S s H [] by rw [hHe]] at hH
  rw [← hHe]
  refine lv_aload_n zx zb dX7_addFigure_0 rfl (lv_at hl 0 rfl) ?_
  refine lv_aload_n zx zb dX7_addFigure_1 rfl (lv_at hl 0 rfl) ?_
  refine gf_X7_48 C0 hH dX7_addFigure_2 ?_
  refine bi_bip (n := 8) zx zb dX7_addFigure_5 (by decide) ?_
  refine bq_ne (tgt := 14) zx zb dX7_addFigure_7 (by decide) ⟨by omega, by omega⟩ ⟨by omega, by omega⟩ (fun zq7 => ?_) (fun zq7 => ?_)
  · refine bi_const (n := 0) zx zb dX7_addFigure_14 ?_
    refine cvI (rest := []) (As := [.int (iI 0)]) (b := g.1 23) C0 hH (c_X7_isFine l g S 0 (by omega)) kw_X7_55 ky_X7_isFine ⟨Nat.le_of_ble_eq_true rfl, Nat.le_of_ble_eq_true rfl⟩ ⟨Nat.zero_le _, Nat.zero_le _⟩ 23 rfl rfl rfl hl.1 rfl (Nat.le_of_ble_eq_true rfl) dX7_addFigure_15 (fun H locs hH => ?_)
    show W p l e _ s m args below meth c H _ _ _ _ (F0 m 18 ls [.int (iI 1)])
    refine bz_ne (tgt := 23) zx zb dX7_addFigure_18 (by decide) ⟨by omega, by omega⟩ (fun zq18 => ?_) (fun zq18 => ?_)
    · refine lv_aload_n zx zb dX7_addFigure_23 rfl (lv_at hl 0 rfl) ?_
      refine lv_dup zx zb dX7_addFigure_24 rfl ?_
      refine gf_X7_48 C0 hH dX7_addFigure_25 ?_
      show W p l e _ s m args below meth c H _ _ _ _ (F0 m 28 ls [.int (iI (S 23 7)), .ref (g.1 23)])
      refine bi_const (n := 1) zx zb dX7_addFigure_28 ?_
      refine bi_add zx zb dX7_addFigure_29 ?_
      refine pf_X7_48 C0 hH dX7_addFigure_30 (fun H locs hH => ?_)
      refine lv_aload_n zx zb dX7_addFigure_33 rfl (lv_at hl 0 rfl) ?_
      refine gf_X7_48 C0 hH dX7_addFigure_34 ?_
      show W p l e _ s m args below meth c H _ _ _ _ (F0 m 37 ls [.int (iI ((S 23 7) + 1))])
      refine bi_const (n := 1) zx zb dX7_addFigure_37 ?_
      refine bi_sub zx zb dX7_addFigure_38 ?_
      exact retI C0 hret hlk hH (by omega) (rfl) dX7_addFigure_39
    · exact absurd zq18 (by decide)
  · exact absurd zq7 (by omega)
set_option maxRecDepth 100000 in
set_option maxHeartbeats 4000000 in
theorem f1_X7_addFigure (l : Launch) (g : gT) (S : gSt) (hn : S 23 7 = 8) : MetG l g yX7_addFigure cX7_addFigure 1 (some .int) 1 21 [.ref (g.1 23)] S (some (.int (iI 0))) (st S 23 0 1) := by
  refine bodyG (by decide +kernel) (Nat.le_of_ble_eq_true rfl) ?_
  intro p e s m args below meth c ls C0 hret hlk hl hH
  have zx := C0.1
  have zb := C0.2.1
  have hl : lv_has ls 1 [(0, .ref (g.1 23))] := hl
  obtain ⟨H, hHe⟩ : ∃ H : Heap, H = s.heap := ⟨_, rfl⟩
  rw [show (Hp g S s s.heap []) = Hp g S s H [] by rw [hHe]] at hH
  rw [← hHe]
  refine lv_aload_n zx zb dX7_addFigure_0 rfl (lv_at hl 0 rfl) ?_
  refine lv_aload_n zx zb dX7_addFigure_1 rfl (lv_at hl 0 rfl) ?_
  refine gf_X7_48 C0 hH dX7_addFigure_2 ?_
  refine bi_bip (n := 8) zx zb dX7_addFigure_5 (by decide) ?_
  refine bq_ne (tgt := 14) zx zb dX7_addFigure_7 (by decide) ⟨by omega, by omega⟩ ⟨by omega, by omega⟩ (fun zq7 => ?_) (fun zq7 => ?_)
  · exact absurd hn zq7
  · refine bi_const (n := 1) zx zb dX7_addFigure_10 ?_
    refine lv_goto (tgt := 15) zx zb dX7_addFigure_11 (by decide) ?_
    refine cvI (rest := []) (As := [.int (iI 1)]) (b := g.1 23) C0 hH (c_X7_isFine l g S 1 (by omega)) kw_X7_55 ky_X7_isFine ⟨Nat.le_of_ble_eq_true rfl, Nat.le_of_ble_eq_true rfl⟩ ⟨Nat.zero_le _, Nat.zero_le _⟩ 23 rfl rfl rfl hl.1 rfl (Nat.le_of_ble_eq_true rfl) dX7_addFigure_15 (fun H locs hH => ?_)
    show W p l e _ s m args below meth c H _ _ _ _ (F0 m 18 ls [.int (iI 0)])
    refine bz_ne (tgt := 23) zx zb dX7_addFigure_18 (by decide) ⟨by omega, by omega⟩ (fun zq18 => ?_) (fun zq18 => ?_)
    · exact absurd zq18 (by decide)
    · refine bi_const (n := 0) zx zb dX7_addFigure_21 ?_
      exact retI C0 hret hlk hH (by rfl) (rfl) dX7_addFigure_22
set_option maxRecDepth 100000 in
set_option maxHeartbeats 4000000 in
theorem c_X7_draw (l : Launch) (g : gT) (S : gSt) (f a b : Int) (hn1 : 0 ≤ S 23 3 ∧ S 23 3 ≤ 24) (hnf : 0 ≤ S 23 7 ∧ S 23 7 ≤ 8) (hfo : 0 ≤ f ∧ f < S 23 7) (hao : 0 ≤ a ∧ a < S 23 3) (hbo : 0 ≤ b ∧ b < S 23 3) (hN : okN (S 28)) (hE : okE (S 28) (S 26)) (hO : okE (S 28) (S 27)) (hdn : 0 ≤ S 23 13 ∧ S 23 13 ≤ 30) (hab : a ≠ b) (h10 : S 28 f < 10) (hj : jnB (S 28) (S 26) (S 27) f a b = false) (hfa : laI (S 23 7) (S 28) (S 26) (S 27) a = -1 ∨ laI (S 23 7) (S 28) (S 26) (S 27) a = f) (hfb2 : laI (S 23 7) (S 28) (S 26) (S 27) b = -1 ∨ laI (S 23 7) (S 28) (S 26) (S 27) b = f) : MetG l g yX7_draw cX7_draw 6 (some .int) 3 69 [.ref (g.1 23), .int (iI f), .int (iI a), .int (iI b)] S (some (.int (iI (S 28 f)))) (ntS (lnIn (st S 23 0 0) 28 26 27 f (S 28 f) a b) 1 f (S 28 f) a b) := by
  refine bodyG (by decide +kernel) (Nat.le_of_ble_eq_true rfl) ?_
  intro p e s m args below meth c ls C0 hret hlk hl hH
  have zx := C0.1
  have zb := C0.2.1
  have hl : lv_has ls 6 [(0, .ref (g.1 23)), (1, .int (iI f)), (2, .int (iI a)), (3, .int (iI b))] := hl
  obtain ⟨H, hHe⟩ : ∃ H : Heap, H = s.heap := ⟨_, rfl⟩
  rw [show (Hp g S s s.heap []) = Hp g S s H [] by rw [hHe]] at hH
  rw [← hHe]
  refine lv_aload_n zx zb dX7_draw_0 rfl (lv_at hl 0 rfl) ?_
  refine lv_iload_n zx zb dX7_draw_1 rfl (lv_at hl 1 rfl) ?_
  refine cvI (rest := []) (As := [.int (iI f)]) (b := g.1 23) C0 hH (c_X7_isFigure l g S f (by omega) (by omega)) kw_X7_80 ky_X7_isFigure ⟨Nat.le_of_ble_eq_true rfl, Nat.le_of_ble_eq_true rfl⟩ ⟨Nat.zero_le _, Nat.zero_le _⟩ 23 rfl rfl rfl hl.1 rfl (Nat.le_of_ble_eq_true rfl) dX7_draw_2 (fun H locs hH => ?_)
  rw [show (if 0 ≤ f ∧ f < S 23 7 then (1 : Int) else 0) = 1 from if_pos hfo]
  refine bz_eq (tgt := 28) zx zb dX7_draw_5 (by decide) ⟨by omega, by omega⟩ (fun zq5 => ?_) (fun zq5 => ?_)
  · exact absurd zq5 (by decide)
  · refine lv_aload_n zx zb dX7_draw_8 rfl (lv_at hl 0 rfl) ?_
    refine lv_iload_n zx zb dX7_draw_9 rfl (lv_at hl 2 rfl) ?_
    refine cvI (rest := []) (As := [.int (iI a)]) (b := g.1 23) C0 hH (c_X7_isStar l g S a (by omega) (by omega)) kw_X7_62 ky_X7_isStar ⟨Nat.le_of_ble_eq_true rfl, Nat.le_of_ble_eq_true rfl⟩ ⟨Nat.zero_le _, Nat.zero_le _⟩ 23 rfl rfl rfl hl.1 rfl (Nat.le_of_ble_eq_true rfl) dX7_draw_10 (fun H locs hH => ?_)
    rw [show (if 0 ≤ a ∧ a < S 23 3 then (1 : Int) else 0) = 1 from if_pos hao]
    refine bz_eq (tgt := 28) zx zb dX7_draw_13 (by decide) ⟨by omega, by omega⟩ (fun zq13 => ?_) (fun zq13 => ?_)
    · exact absurd zq13 (by decide)
    · refine lv_aload_n zx zb dX7_draw_16 rfl (lv_at hl 0 rfl) ?_
      refine lv_iload_n zx zb dX7_draw_17 rfl (lv_at hl 3 rfl) ?_
      refine cvI (rest := []) (As := [.int (iI b)]) (b := g.1 23) C0 hH (c_X7_isStar l g S b (by omega) (by omega)) kw_X7_62 ky_X7_isStar ⟨Nat.le_of_ble_eq_true rfl, Nat.le_of_ble_eq_true rfl⟩ ⟨Nat.zero_le _, Nat.zero_le _⟩ 23 rfl rfl rfl hl.1 rfl (Nat.le_of_ble_eq_true rfl) dX7_draw_18 (fun H locs hH => ?_)
      rw [show (if 0 ≤ b ∧ b < S 23 3 then (1 : Int) else 0) = 1 from if_pos hbo]
      refine bz_eq (tgt := 28) zx zb dX7_draw_21 (by decide) ⟨by omega, by omega⟩ (fun zq21 => ?_) (fun zq21 => ?_)
      · exact absurd zq21 (by decide)
      · refine bi_const (n := 1) zx zb dX7_draw_24 ?_
        refine lv_goto (tgt := 29) zx zb dX7_draw_25 (by decide) ?_
        refine lv_istore (lv' := [(4, .int (iI 1)), (0, .ref (g.1 23)), (1, .int (iI f)), (2, .int (iI a)), (3, .int (iI b))]) zx zb dX7_draw_29 hl (by decide) rfl (fun ls hl => ?_)
        refine lv_iload zx zb dX7_draw_31 (lv_at hl 0 rfl) ?_
        refine bz_eq (tgt := 79) zx zb dX7_draw_33 (by decide) ⟨by omega, by omega⟩ (fun zq33 => ?_) (fun zq33 => ?_)
        · exact absurd zq33 (by decide)
        · have hn := hN f (by omega) (by omega)
          refine lv_aload_n zx zb dX7_draw_36 rfl (lv_at hl 1 rfl) ?_
          refine gf_X7_22 C0 hH dX7_draw_37 ?_
          refine lv_iload_n zx zb dX7_draw_40 rfl (lv_at hl 2 rfl) ?_
          refine al_28 C0 hH (by omega) (by omega) dX7_draw_41 ?_
          refine bi_bip (n := 10) zx zb dX7_draw_42 (by decide) ?_
          refine bq_ge (tgt := 79) zx zb dX7_draw_44 (by decide) ⟨by omega, by omega⟩ ⟨by omega, by omega⟩ (fun zq44 => ?_) (fun zq44 => ?_)
          · exact absurd zq44 (by omega)
          · refine lv_aload_n zx zb dX7_draw_47 rfl (lv_at hl 1 rfl) ?_
            refine lv_iload_n zx zb dX7_draw_48 rfl (lv_at hl 2 rfl) ?_
            refine lv_iload_n zx zb dX7_draw_49 rfl (lv_at hl 3 rfl) ?_
            refine lv_iload_n zx zb dX7_draw_50 rfl (lv_at hl 4 rfl) ?_
            refine cvI (rest := []) (As := [.int (iI f), .int (iI a), .int (iI b)]) (b := g.1 23) C0 hH (c_X7_hasLine l g S f a b (by omega) (by omega) (by omega) (hN) (hE) (hO)) kw_X7_83 ky_X7_hasLine ⟨Nat.le_of_ble_eq_true rfl, Nat.le_of_ble_eq_true rfl⟩ ⟨Nat.zero_le _, Nat.zero_le _⟩ 23 rfl rfl rfl hl.1 rfl (Nat.le_of_ble_eq_true rfl) dX7_draw_51 (fun H locs hH => ?_)
            rw [hj]
            skip
            show W p l e _ s m args below meth c H _ _ _ _ (F0 m 54 ls [.int (iI 0)])
            refine bz_ne (tgt := 79) zx zb dX7_draw_54 (by decide) ⟨by omega, by omega⟩ (fun zq54 => ?_) (fun zq54 => ?_)
            · exact absurd zq54 (by decide)
            · refine lv_aload_n zx zb dX7_draw_57 rfl (lv_at hl 1 rfl) ?_
              refine lv_iload_n zx zb dX7_draw_58 rfl (lv_at hl 2 rfl) ?_
              refine lv_iload_n zx zb dX7_draw_59 rfl (lv_at hl 3 rfl) ?_
              refine cvI (rest := []) (As := [.int (iI f), .int (iI a)]) (b := g.1 23) C0 hH (c_X7_isFree l g S f a (by omega) (by omega) (hnf) (hN) (hE) (hO)) kw_X7_86 ky_X7_isFree ⟨Nat.le_of_ble_eq_true rfl, Nat.le_of_ble_eq_true rfl⟩ ⟨Nat.zero_le _, Nat.zero_le _⟩ 23 rfl rfl rfl hl.1 rfl (Nat.le_of_ble_eq_true rfl) dX7_draw_60 (fun H locs hH => ?_)
              rw [show (if laI (S 23 7) (S 28) (S 26) (S 27) a = -1 ∨ laI (S 23 7) (S 28) (S 26) (S 27) a = f then (1 : Int) else 0) = 1 from if_pos hfa]
              refine bz_eq (tgt := 79) zx zb dX7_draw_63 (by decide) ⟨by omega, by omega⟩ (fun zq63 => ?_) (fun zq63 => ?_)
              · exact absurd zq63 (by decide)
              · refine lv_aload_n zx zb dX7_draw_66 rfl (lv_at hl 1 rfl) ?_
                refine lv_iload_n zx zb dX7_draw_67 rfl (lv_at hl 2 rfl) ?_
                refine lv_iload_n zx zb dX7_draw_68 rfl (lv_at hl 4 rfl) ?_
                refine cvI (rest := []) (As := [.int (iI f), .int (iI b)]) (b := g.1 23) C0 hH (c_X7_isFree l g S f b (by omega) (by omega) (hnf) (hN) (hE) (hO)) kw_X7_86 ky_X7_isFree ⟨Nat.le_of_ble_eq_true rfl, Nat.le_of_ble_eq_true rfl⟩ ⟨Nat.zero_le _, Nat.zero_le _⟩ 23 rfl rfl rfl hl.1 rfl (Nat.le_of_ble_eq_true rfl) dX7_draw_69 (fun H locs hH => ?_)
                rw [show (if laI (S 23 7) (S 28) (S 26) (S 27) b = -1 ∨ laI (S 23 7) (S 28) (S 26) (S 27) b = f then (1 : Int) else 0) = 1 from if_pos hfb2]
                refine bz_eq (tgt := 79) zx zb dX7_draw_72 (by decide) ⟨by omega, by omega⟩ (fun zq72 => ?_) (fun zq72 => ?_)
                · exact absurd zq72 (by decide)
                · refine bi_const (n := 1) zx zb dX7_draw_75 ?_
                  refine lv_goto (tgt := 80) zx zb dX7_draw_76 (by decide) ?_
                  refine lv_istore (lv' := [(5, .int (iI 1)), (4, .int (iI 1)), (0, .ref (g.1 23)), (1, .int (iI f)), (2, .int (iI a)), (3, .int (iI b))]) zx zb dX7_draw_80 hl (by decide) rfl (fun ls hl => ?_)
                  refine lv_aload_n zx zb dX7_draw_82 rfl (lv_at hl 2 rfl) ?_
                  refine lv_iload zx zb dX7_draw_83 (lv_at hl 1 rfl) ?_
                  refine bz_ne (tgt := 92) zx zb dX7_draw_85 (by decide) ⟨by omega, by omega⟩ (fun zq85 => ?_) (fun zq85 => ?_)
                  · refine lv_iload_n zx zb dX7_draw_92 rfl (lv_at hl 4 rfl) ?_
                    refine lv_iload_n zx zb dX7_draw_93 rfl (lv_at hl 5 rfl) ?_
                    refine bq_ne (tgt := 101) zx zb dX7_draw_94 (by decide) ⟨by omega, by omega⟩ ⟨by omega, by omega⟩ (fun zq94 => ?_) (fun zq94 => ?_)
                    · refine lv_iload zx zb dX7_draw_101 (lv_at hl 0 rfl) ?_
                      refine bz_ne (tgt := 110) zx zb dX7_draw_103 (by decide) ⟨by omega, by omega⟩ (fun zq103 => ?_) (fun zq103 => ?_)
                      · refine bi_const (n := 0) zx zb dX7_draw_110 ?_
                        refine cvI (rest := []) (As := [.int (iI 0)]) (b := g.1 23) C0 hH (c_X7_isFine l g S 0 (by omega)) kw_X7_55 ky_X7_isFine ⟨Nat.le_of_ble_eq_true rfl, Nat.le_of_ble_eq_true rfl⟩ ⟨Nat.zero_le _, Nat.zero_le _⟩ 23 rfl rfl rfl hl.1 rfl (Nat.le_of_ble_eq_true rfl) dX7_draw_111 (fun H locs hH => ?_)
                        show W p l e _ s m args below meth c H _ _ _ _ (F0 m 114 ls [.int (iI 1)])
                        refine bz_ne (tgt := 119) zx zb dX7_draw_114 (by decide) ⟨by omega, by omega⟩ (fun zq114 => ?_) (fun zq114 => ?_)
                        · refine lv_aload_n zx zb dX7_draw_119 rfl (lv_at hl 2 rfl) ?_
                          refine lv_iload_n zx zb dX7_draw_120 rfl (lv_at hl 3 rfl) ?_
                          refine lv_aload_n zx zb dX7_draw_121 rfl (lv_at hl 2 rfl) ?_
                          refine gf_X7_22 C0 hH dX7_draw_122 ?_
                          refine lv_iload_n zx zb dX7_draw_125 rfl (lv_at hl 3 rfl) ?_
                          refine al_28 C0 hH (by omega) (by omega) dX7_draw_126 ?_
                          show W p l e _ s m args below meth c H _ _ _ _ (F0 m 127 ls [.int (iI (S 28 f)), .int (iI f), .ref (g.1 23)])
                          refine lv_iload_n zx zb dX7_draw_127 rfl (lv_at hl 4 rfl) ?_
                          refine lv_iload_n zx zb dX7_draw_128 rfl (lv_at hl 5 rfl) ?_
                          refine cvN (rest := []) (As := [.int (iI f), .int (iI (S 28 f)), .int (iI a), .int (iI b)]) (b := g.1 23) C0 hH (c_X7_puts l g (st S 23 0 0) f (S 28 f) a b (by omega) (by exact ⟨hn.1, Int.le_refl _⟩) (by exact h10)) kw_X7_89 ky_X7_puts ⟨Nat.le_of_ble_eq_true rfl, Nat.le_of_ble_eq_true rfl⟩ ⟨Nat.zero_le _, Nat.zero_le _⟩ 23 rfl rfl rfl hl.1 rfl (Nat.le_of_ble_eq_true rfl) dX7_draw_129 (fun H locs hH => ?_)
                          refine lv_aload_n zx zb dX7_draw_132 rfl (lv_at hl 2 rfl) ?_
                          refine bi_const (n := 1) zx zb dX7_draw_133 ?_
                          refine lv_iload_n zx zb dX7_draw_134 rfl (lv_at hl 3 rfl) ?_
                          refine lv_aload_n zx zb dX7_draw_135 rfl (lv_at hl 2 rfl) ?_
                          refine gf_X7_22 C0 hH dX7_draw_136 ?_
                          refine lv_iload_n zx zb dX7_draw_139 rfl (lv_at hl 3 rfl) ?_
                          refine al_28 C0 hH (by omega) (by omega) dX7_draw_140 ?_
                          show W p l e _ s m args below meth c H _ _ _ _ (F0 m 141 ls [.int (iI ((lnIn (st S 23 0 0) 28 26 27 f (S 28 f) a b) 28 f)), .int (iI f), .int (iI 1), .ref (g.1 23)])
                          rw [show (lnIn (st S 23 0 0) 28 26 27 f (S 28 f) a b) 28 f = S 28 f + 1 from ud_s _ _ _]
                          refine bi_const (n := 1) zx zb dX7_draw_141 ?_
                          refine bi_sub zx zb dX7_draw_142 ?_
                          rw [show S 28 f + 1 - 1 = S 28 f by omega]
                          refine lv_iload_n zx zb dX7_draw_143 rfl (lv_at hl 4 rfl) ?_
                          refine lv_iload_n zx zb dX7_draw_144 rfl (lv_at hl 5 rfl) ?_
                          refine cvN (rest := []) (As := [.int (iI 1), .int (iI f), .int (iI (S 28 f)), .int (iI a), .int (iI b)]) (b := g.1 23) C0 hH (c_X7_notes l g (lnIn (st S 23 0 0) 28 26 27 f (S 28 f) a b) 1 f (S 28 f) a b (hdn)) kw_X7_65 ky_X7_notes ⟨Nat.le_of_ble_eq_true rfl, Nat.le_of_ble_eq_true rfl⟩ ⟨Nat.zero_le _, Nat.zero_le _⟩ 23 rfl rfl rfl hl.1 rfl (Nat.le_of_ble_eq_true rfl) dX7_draw_145 (fun H locs hH => ?_)
                          refine lv_aload_n zx zb dX7_draw_148 rfl (lv_at hl 2 rfl) ?_
                          refine gf_X7_22 C0 hH dX7_draw_149 ?_
                          refine lv_iload_n zx zb dX7_draw_152 rfl (lv_at hl 3 rfl) ?_
                          refine al_28 C0 hH (by omega) (by omega) dX7_draw_153 ?_
                          show W p l e _ s m args below meth c H _ _ _ _ (F0 m 154 ls [.int (iI ((lnIn (st S 23 0 0) 28 26 27 f (S 28 f) a b) 28 f))])
                          rw [show (lnIn (st S 23 0 0) 28 26 27 f (S 28 f) a b) 28 f = S 28 f + 1 from ud_s _ _ _]
                          refine bi_const (n := 1) zx zb dX7_draw_154 ?_
                          refine bi_sub zx zb dX7_draw_155 ?_
                          exact retI C0 hret hlk hH (by omega) (rfl) dX7_draw_156
                        · exact absurd zq114 (by decide)
                      · exact absurd zq103 (by decide)
                    · exact absurd zq94 hab
                  · exact absurd zq85 (by decide)
set_option maxRecDepth 100000 in
set_option maxHeartbeats 4000000 in
theorem f1_X7_draw (l : Launch) (g : gT) (S : gSt) (f a b : Int) (hn1 : 0 ≤ S 23 3 ∧ S 23 3 ≤ 24) (hnf : 0 ≤ S 23 7 ∧ S 23 7 ≤ 8) (hN : okN (S 28)) (hE : okE (S 28) (S 26)) (hO : okE (S 28) (S 27)) (hr_f : -2147483648 ≤ f ∧ f < 2147483648) (hr_a : -2147483648 ≤ a ∧ a < 2147483648) (hr_b : -2147483648 ≤ b ∧ b < 2147483648) (hbad : ¬((0 ≤ f ∧ f < S 23 7) ∧ (0 ≤ a ∧ a < S 23 3) ∧ (0 ≤ b ∧ b < S 23 3))) : MetG l g yX7_draw cX7_draw 6 (some .int) 2 43 [.ref (g.1 23), .int (iI f), .int (iI a), .int (iI b)] S (some (.int (iI 0))) (st S 23 0 1) := by
  refine bodyG (by decide +kernel) (Nat.le_of_ble_eq_true rfl) ?_
  intro p e s m args below meth c ls C0 hret hlk hl hH
  have zx := C0.1
  have zb := C0.2.1
  have hl : lv_has ls 6 [(0, .ref (g.1 23)), (1, .int (iI f)), (2, .int (iI a)), (3, .int (iI b))] := hl
  obtain ⟨H, hHe⟩ : ∃ H : Heap, H = s.heap := ⟨_, rfl⟩
  rw [show (Hp g S s s.heap []) = Hp g S s H [] by rw [hHe]] at hH
  rw [← hHe]
  refine lv_aload_n zx zb dX7_draw_0 rfl (lv_at hl 0 rfl) ?_
  refine lv_iload_n zx zb dX7_draw_1 rfl (lv_at hl 1 rfl) ?_
  refine cvI (rest := []) (As := [.int (iI f)]) (b := g.1 23) C0 hH (c_X7_isFigure l g S f (by omega) (by omega)) kw_X7_80 ky_X7_isFigure ⟨Nat.le_of_ble_eq_true rfl, Nat.le_of_ble_eq_true rfl⟩ ⟨Nat.zero_le _, Nat.zero_le _⟩ 23 rfl rfl rfl hl.1 rfl (Nat.le_of_ble_eq_true rfl) dX7_draw_2 (fun H locs hH => ?_)
  have hpr5 := prg (0 ≤ f ∧ f < S 23 7)
  refine bz_eq (tgt := 28) zx zb dX7_draw_5 (by decide) ⟨by omega, by omega⟩ (fun zq5 => ?_) (fun zq5 => ?_)
  · refine bi_const (n := 0) zx zb dX7_draw_28 ?_
    refine lv_istore (lv' := [(4, .int (iI 0)), (0, .ref (g.1 23)), (1, .int (iI f)), (2, .int (iI a)), (3, .int (iI b))]) zx zb dX7_draw_29 hl (by decide) rfl (fun ls hl => ?_)
    refine lv_iload zx zb dX7_draw_31 (lv_at hl 0 rfl) ?_
    refine bz_eq (tgt := 79) zx zb dX7_draw_33 (by decide) ⟨by omega, by omega⟩ (fun zq33 => ?_) (fun zq33 => ?_)
    · refine bi_const (n := 0) zx zb dX7_draw_79 ?_
      refine lv_istore (lv' := [(5, .int (iI 0)), (4, .int (iI 0)), (0, .ref (g.1 23)), (1, .int (iI f)), (2, .int (iI a)), (3, .int (iI b))]) zx zb dX7_draw_80 hl (by decide) rfl (fun ls hl => ?_)
      refine lv_aload_n zx zb dX7_draw_82 rfl (lv_at hl 2 rfl) ?_
      refine lv_iload zx zb dX7_draw_83 (lv_at hl 1 rfl) ?_
      refine bz_ne (tgt := 92) zx zb dX7_draw_85 (by decide) ⟨by omega, by omega⟩ (fun zq85 => ?_) (fun zq85 => ?_)
      · exact absurd zq85 (by decide)
      · refine bi_const (n := 1) zx zb dX7_draw_88 ?_
        refine lv_goto (tgt := 111) zx zb dX7_draw_89 (by decide) ?_
        refine cvI (rest := []) (As := [.int (iI 1)]) (b := g.1 23) C0 hH (c_X7_isFine l g S 1 (by omega)) kw_X7_55 ky_X7_isFine ⟨Nat.le_of_ble_eq_true rfl, Nat.le_of_ble_eq_true rfl⟩ ⟨Nat.zero_le _, Nat.zero_le _⟩ 23 rfl rfl rfl hl.1 rfl (Nat.le_of_ble_eq_true rfl) dX7_draw_111 (fun H locs hH => ?_)
        show W p l e _ s m args below meth c H _ _ _ _ (F0 m 114 ls [.int (iI 0)])
        refine bz_ne (tgt := 119) zx zb dX7_draw_114 (by decide) ⟨by omega, by omega⟩ (fun zq114 => ?_) (fun zq114 => ?_)
        · exact absurd zq114 (by decide)
        · refine bi_const (n := 0) zx zb dX7_draw_117 ?_
          exact retI C0 hret hlk hH (by rfl) (rfl) dX7_draw_118
    · exact absurd zq33 (by decide)
  · refine lv_aload_n zx zb dX7_draw_8 rfl (lv_at hl 0 rfl) ?_
    refine lv_iload_n zx zb dX7_draw_9 rfl (lv_at hl 2 rfl) ?_
    refine cvI (rest := []) (As := [.int (iI a)]) (b := g.1 23) C0 hH (c_X7_isStar l g S a (by omega) (by omega)) kw_X7_62 ky_X7_isStar ⟨Nat.le_of_ble_eq_true rfl, Nat.le_of_ble_eq_true rfl⟩ ⟨Nat.zero_le _, Nat.zero_le _⟩ 23 rfl rfl rfl hl.1 rfl (Nat.le_of_ble_eq_true rfl) dX7_draw_10 (fun H locs hH => ?_)
    have hpr13 := prg (0 ≤ a ∧ a < S 23 3)
    refine bz_eq (tgt := 28) zx zb dX7_draw_13 (by decide) ⟨by omega, by omega⟩ (fun zq13 => ?_) (fun zq13 => ?_)
    · refine bi_const (n := 0) zx zb dX7_draw_28 ?_
      refine lv_istore (lv' := [(4, .int (iI 0)), (0, .ref (g.1 23)), (1, .int (iI f)), (2, .int (iI a)), (3, .int (iI b))]) zx zb dX7_draw_29 hl (by decide) rfl (fun ls hl => ?_)
      refine lv_iload zx zb dX7_draw_31 (lv_at hl 0 rfl) ?_
      refine bz_eq (tgt := 79) zx zb dX7_draw_33 (by decide) ⟨by omega, by omega⟩ (fun zq33 => ?_) (fun zq33 => ?_)
      · refine bi_const (n := 0) zx zb dX7_draw_79 ?_
        refine lv_istore (lv' := [(5, .int (iI 0)), (4, .int (iI 0)), (0, .ref (g.1 23)), (1, .int (iI f)), (2, .int (iI a)), (3, .int (iI b))]) zx zb dX7_draw_80 hl (by decide) rfl (fun ls hl => ?_)
        refine lv_aload_n zx zb dX7_draw_82 rfl (lv_at hl 2 rfl) ?_
        refine lv_iload zx zb dX7_draw_83 (lv_at hl 1 rfl) ?_
        refine bz_ne (tgt := 92) zx zb dX7_draw_85 (by decide) ⟨by omega, by omega⟩ (fun zq85 => ?_) (fun zq85 => ?_)
        · exact absurd zq85 (by decide)
        · refine bi_const (n := 1) zx zb dX7_draw_88 ?_
          refine lv_goto (tgt := 111) zx zb dX7_draw_89 (by decide) ?_
          refine cvI (rest := []) (As := [.int (iI 1)]) (b := g.1 23) C0 hH (c_X7_isFine l g S 1 (by omega)) kw_X7_55 ky_X7_isFine ⟨Nat.le_of_ble_eq_true rfl, Nat.le_of_ble_eq_true rfl⟩ ⟨Nat.zero_le _, Nat.zero_le _⟩ 23 rfl rfl rfl hl.1 rfl (Nat.le_of_ble_eq_true rfl) dX7_draw_111 (fun H locs hH => ?_)
          show W p l e _ s m args below meth c H _ _ _ _ (F0 m 114 ls [.int (iI 0)])
          refine bz_ne (tgt := 119) zx zb dX7_draw_114 (by decide) ⟨by omega, by omega⟩ (fun zq114 => ?_) (fun zq114 => ?_)
          · exact absurd zq114 (by decide)
          · refine bi_const (n := 0) zx zb dX7_draw_117 ?_
            exact retI C0 hret hlk hH (by rfl) (rfl) dX7_draw_118
      · exact absurd zq33 (by decide)
    · refine lv_aload_n zx zb dX7_draw_16 rfl (lv_at hl 0 rfl) ?_
      refine lv_iload_n zx zb dX7_draw_17 rfl (lv_at hl 3 rfl) ?_
      refine cvI (rest := []) (As := [.int (iI b)]) (b := g.1 23) C0 hH (c_X7_isStar l g S b (by omega) (by omega)) kw_X7_62 ky_X7_isStar ⟨Nat.le_of_ble_eq_true rfl, Nat.le_of_ble_eq_true rfl⟩ ⟨Nat.zero_le _, Nat.zero_le _⟩ 23 rfl rfl rfl hl.1 rfl (Nat.le_of_ble_eq_true rfl) dX7_draw_18 (fun H locs hH => ?_)
      have hpr21 := prg (0 ≤ b ∧ b < S 23 3)
      refine bz_eq (tgt := 28) zx zb dX7_draw_21 (by decide) ⟨by omega, by omega⟩ (fun zq21 => ?_) (fun zq21 => ?_)
      · refine bi_const (n := 0) zx zb dX7_draw_28 ?_
        refine lv_istore (lv' := [(4, .int (iI 0)), (0, .ref (g.1 23)), (1, .int (iI f)), (2, .int (iI a)), (3, .int (iI b))]) zx zb dX7_draw_29 hl (by decide) rfl (fun ls hl => ?_)
        refine lv_iload zx zb dX7_draw_31 (lv_at hl 0 rfl) ?_
        refine bz_eq (tgt := 79) zx zb dX7_draw_33 (by decide) ⟨by omega, by omega⟩ (fun zq33 => ?_) (fun zq33 => ?_)
        · refine bi_const (n := 0) zx zb dX7_draw_79 ?_
          refine lv_istore (lv' := [(5, .int (iI 0)), (4, .int (iI 0)), (0, .ref (g.1 23)), (1, .int (iI f)), (2, .int (iI a)), (3, .int (iI b))]) zx zb dX7_draw_80 hl (by decide) rfl (fun ls hl => ?_)
          refine lv_aload_n zx zb dX7_draw_82 rfl (lv_at hl 2 rfl) ?_
          refine lv_iload zx zb dX7_draw_83 (lv_at hl 1 rfl) ?_
          refine bz_ne (tgt := 92) zx zb dX7_draw_85 (by decide) ⟨by omega, by omega⟩ (fun zq85 => ?_) (fun zq85 => ?_)
          · exact absurd zq85 (by decide)
          · refine bi_const (n := 1) zx zb dX7_draw_88 ?_
            refine lv_goto (tgt := 111) zx zb dX7_draw_89 (by decide) ?_
            refine cvI (rest := []) (As := [.int (iI 1)]) (b := g.1 23) C0 hH (c_X7_isFine l g S 1 (by omega)) kw_X7_55 ky_X7_isFine ⟨Nat.le_of_ble_eq_true rfl, Nat.le_of_ble_eq_true rfl⟩ ⟨Nat.zero_le _, Nat.zero_le _⟩ 23 rfl rfl rfl hl.1 rfl (Nat.le_of_ble_eq_true rfl) dX7_draw_111 (fun H locs hH => ?_)
            show W p l e _ s m args below meth c H _ _ _ _ (F0 m 114 ls [.int (iI 0)])
            refine bz_ne (tgt := 119) zx zb dX7_draw_114 (by decide) ⟨by omega, by omega⟩ (fun zq114 => ?_) (fun zq114 => ?_)
            · exact absurd zq114 (by decide)
            · refine bi_const (n := 0) zx zb dX7_draw_117 ?_
              exact retI C0 hret hlk hH (by rfl) (rfl) dX7_draw_118
        · exact absurd zq33 (by decide)
      · exact absurd ⟨p1 zq5, p1 zq13, p1 zq21⟩ hbad
set_option maxRecDepth 100000 in
set_option maxHeartbeats 4000000 in
theorem f2_X7_draw (l : Launch) (g : gT) (S : gSt) (f a b : Int) (hn1 : 0 ≤ S 23 3 ∧ S 23 3 ≤ 24) (hnf : 0 ≤ S 23 7 ∧ S 23 7 ≤ 8) (hfo : 0 ≤ f ∧ f < S 23 7) (hao : 0 ≤ a ∧ a < S 23 3) (hbo : 0 ≤ b ∧ b < S 23 3) (hN : okN (S 28)) (hE : okE (S 28) (S 26)) (hO : okE (S 28) (S 27)) (hab : a = b) : MetG l g yX7_draw cX7_draw 6 (some .int) 3 69 [.ref (g.1 23), .int (iI f), .int (iI a), .int (iI b)] S (some (.int (iI 0))) (st S 23 0 2) := by
  refine bodyG (by decide +kernel) (Nat.le_of_ble_eq_true rfl) ?_
  intro p e s m args below meth c ls C0 hret hlk hl hH
  have zx := C0.1
  have zb := C0.2.1
  have hl : lv_has ls 6 [(0, .ref (g.1 23)), (1, .int (iI f)), (2, .int (iI a)), (3, .int (iI b))] := hl
  obtain ⟨H, hHe⟩ : ∃ H : Heap, H = s.heap := ⟨_, rfl⟩
  rw [show (Hp g S s s.heap []) = Hp g S s H [] by rw [hHe]] at hH
  rw [← hHe]
  refine lv_aload_n zx zb dX7_draw_0 rfl (lv_at hl 0 rfl) ?_
  refine lv_iload_n zx zb dX7_draw_1 rfl (lv_at hl 1 rfl) ?_
  refine cvI (rest := []) (As := [.int (iI f)]) (b := g.1 23) C0 hH (c_X7_isFigure l g S f (by omega) (by omega)) kw_X7_80 ky_X7_isFigure ⟨Nat.le_of_ble_eq_true rfl, Nat.le_of_ble_eq_true rfl⟩ ⟨Nat.zero_le _, Nat.zero_le _⟩ 23 rfl rfl rfl hl.1 rfl (Nat.le_of_ble_eq_true rfl) dX7_draw_2 (fun H locs hH => ?_)
  rw [show (if 0 ≤ f ∧ f < S 23 7 then (1 : Int) else 0) = 1 from if_pos hfo]
  refine bz_eq (tgt := 28) zx zb dX7_draw_5 (by decide) ⟨by omega, by omega⟩ (fun zq5 => ?_) (fun zq5 => ?_)
  · exact absurd zq5 (by decide)
  · refine lv_aload_n zx zb dX7_draw_8 rfl (lv_at hl 0 rfl) ?_
    refine lv_iload_n zx zb dX7_draw_9 rfl (lv_at hl 2 rfl) ?_
    refine cvI (rest := []) (As := [.int (iI a)]) (b := g.1 23) C0 hH (c_X7_isStar l g S a (by omega) (by omega)) kw_X7_62 ky_X7_isStar ⟨Nat.le_of_ble_eq_true rfl, Nat.le_of_ble_eq_true rfl⟩ ⟨Nat.zero_le _, Nat.zero_le _⟩ 23 rfl rfl rfl hl.1 rfl (Nat.le_of_ble_eq_true rfl) dX7_draw_10 (fun H locs hH => ?_)
    rw [show (if 0 ≤ a ∧ a < S 23 3 then (1 : Int) else 0) = 1 from if_pos hao]
    refine bz_eq (tgt := 28) zx zb dX7_draw_13 (by decide) ⟨by omega, by omega⟩ (fun zq13 => ?_) (fun zq13 => ?_)
    · exact absurd zq13 (by decide)
    · refine lv_aload_n zx zb dX7_draw_16 rfl (lv_at hl 0 rfl) ?_
      refine lv_iload_n zx zb dX7_draw_17 rfl (lv_at hl 3 rfl) ?_
      refine cvI (rest := []) (As := [.int (iI b)]) (b := g.1 23) C0 hH (c_X7_isStar l g S b (by omega) (by omega)) kw_X7_62 ky_X7_isStar ⟨Nat.le_of_ble_eq_true rfl, Nat.le_of_ble_eq_true rfl⟩ ⟨Nat.zero_le _, Nat.zero_le _⟩ 23 rfl rfl rfl hl.1 rfl (Nat.le_of_ble_eq_true rfl) dX7_draw_18 (fun H locs hH => ?_)
      rw [show (if 0 ≤ b ∧ b < S 23 3 then (1 : Int) else 0) = 1 from if_pos hbo]
      refine bz_eq (tgt := 28) zx zb dX7_draw_21 (by decide) ⟨by omega, by omega⟩ (fun zq21 => ?_) (fun zq21 => ?_)
      · exact absurd zq21 (by decide)
      · refine bi_const (n := 1) zx zb dX7_draw_24 ?_
        refine lv_goto (tgt := 29) zx zb dX7_draw_25 (by decide) ?_
        refine lv_istore (lv' := [(4, .int (iI 1)), (0, .ref (g.1 23)), (1, .int (iI f)), (2, .int (iI a)), (3, .int (iI b))]) zx zb dX7_draw_29 hl (by decide) rfl (fun ls hl => ?_)
        refine lv_iload zx zb dX7_draw_31 (lv_at hl 0 rfl) ?_
        refine bz_eq (tgt := 79) zx zb dX7_draw_33 (by decide) ⟨by omega, by omega⟩ (fun zq33 => ?_) (fun zq33 => ?_)
        · exact absurd zq33 (by decide)
        · have hn := hN f (by omega) (by omega)
          refine lv_aload_n zx zb dX7_draw_36 rfl (lv_at hl 1 rfl) ?_
          refine gf_X7_22 C0 hH dX7_draw_37 ?_
          refine lv_iload_n zx zb dX7_draw_40 rfl (lv_at hl 2 rfl) ?_
          refine al_28 C0 hH (by omega) (by omega) dX7_draw_41 ?_
          refine bi_bip (n := 10) zx zb dX7_draw_42 (by decide) ?_
          refine bq_ge (tgt := 79) zx zb dX7_draw_44 (by decide) ⟨by omega, by omega⟩ ⟨by omega, by omega⟩ (fun zq44 => ?_) (fun zq44 => ?_)
          · refine bi_const (n := 0) zx zb dX7_draw_79 ?_
            refine lv_istore (lv' := [(5, .int (iI 0)), (4, .int (iI 1)), (0, .ref (g.1 23)), (1, .int (iI f)), (2, .int (iI a)), (3, .int (iI b))]) zx zb dX7_draw_80 hl (by decide) rfl (fun ls hl => ?_)
            refine lv_aload_n zx zb dX7_draw_82 rfl (lv_at hl 2 rfl) ?_
            refine lv_iload zx zb dX7_draw_83 (lv_at hl 1 rfl) ?_
            refine bz_ne (tgt := 92) zx zb dX7_draw_85 (by decide) ⟨by omega, by omega⟩ (fun zq85 => ?_) (fun zq85 => ?_)
            · refine lv_iload_n zx zb dX7_draw_92 rfl (lv_at hl 4 rfl) ?_
              refine lv_iload_n zx zb dX7_draw_93 rfl (lv_at hl 5 rfl) ?_
              refine bq_ne (tgt := 101) zx zb dX7_draw_94 (by decide) ⟨by omega, by omega⟩ ⟨by omega, by omega⟩ (fun zq94 => ?_) (fun zq94 => ?_)
              · exact absurd hab zq94
              · refine bi_const (n := 2) zx zb dX7_draw_97 ?_
                refine lv_goto (tgt := 111) zx zb dX7_draw_98 (by decide) ?_
                refine cvI (rest := []) (As := [.int (iI 2)]) (b := g.1 23) C0 hH (c_X7_isFine l g S 2 (by omega)) kw_X7_55 ky_X7_isFine ⟨Nat.le_of_ble_eq_true rfl, Nat.le_of_ble_eq_true rfl⟩ ⟨Nat.zero_le _, Nat.zero_le _⟩ 23 rfl rfl rfl hl.1 rfl (Nat.le_of_ble_eq_true rfl) dX7_draw_111 (fun H locs hH => ?_)
                show W p l e _ s m args below meth c H _ _ _ _ (F0 m 114 ls [.int (iI 0)])
                refine bz_ne (tgt := 119) zx zb dX7_draw_114 (by decide) ⟨by omega, by omega⟩ (fun zq114 => ?_) (fun zq114 => ?_)
                · exact absurd zq114 (by decide)
                · refine bi_const (n := 0) zx zb dX7_draw_117 ?_
                  exact retI C0 hret hlk hH (by rfl) (rfl) dX7_draw_118
            · exact absurd zq85 (by decide)
          · refine lv_aload_n zx zb dX7_draw_47 rfl (lv_at hl 1 rfl) ?_
            refine lv_iload_n zx zb dX7_draw_48 rfl (lv_at hl 2 rfl) ?_
            refine lv_iload_n zx zb dX7_draw_49 rfl (lv_at hl 3 rfl) ?_
            refine lv_iload_n zx zb dX7_draw_50 rfl (lv_at hl 4 rfl) ?_
            refine cvI (rest := []) (As := [.int (iI f), .int (iI a), .int (iI b)]) (b := g.1 23) C0 hH (c_X7_hasLine l g S f a b (by omega) (by omega) (by omega) (hN) (hE) (hO)) kw_X7_83 ky_X7_hasLine ⟨Nat.le_of_ble_eq_true rfl, Nat.le_of_ble_eq_true rfl⟩ ⟨Nat.zero_le _, Nat.zero_le _⟩ 23 rfl rfl rfl hl.1 rfl (Nat.le_of_ble_eq_true rfl) dX7_draw_51 (fun H locs hH => ?_)
            have hpr54 := brg (jnB (S 28) (S 26) (S 27) f a b)
            refine bz_ne (tgt := 79) zx zb dX7_draw_54 (by decide) ⟨by omega, by omega⟩ (fun zq54 => ?_) (fun zq54 => ?_)
            · refine bi_const (n := 0) zx zb dX7_draw_79 ?_
              refine lv_istore (lv' := [(5, .int (iI 0)), (4, .int (iI 1)), (0, .ref (g.1 23)), (1, .int (iI f)), (2, .int (iI a)), (3, .int (iI b))]) zx zb dX7_draw_80 hl (by decide) rfl (fun ls hl => ?_)
              refine lv_aload_n zx zb dX7_draw_82 rfl (lv_at hl 2 rfl) ?_
              refine lv_iload zx zb dX7_draw_83 (lv_at hl 1 rfl) ?_
              refine bz_ne (tgt := 92) zx zb dX7_draw_85 (by decide) ⟨by omega, by omega⟩ (fun zq85 => ?_) (fun zq85 => ?_)
              · refine lv_iload_n zx zb dX7_draw_92 rfl (lv_at hl 4 rfl) ?_
                refine lv_iload_n zx zb dX7_draw_93 rfl (lv_at hl 5 rfl) ?_
                refine bq_ne (tgt := 101) zx zb dX7_draw_94 (by decide) ⟨by omega, by omega⟩ ⟨by omega, by omega⟩ (fun zq94 => ?_) (fun zq94 => ?_)
                · exact absurd hab zq94
                · refine bi_const (n := 2) zx zb dX7_draw_97 ?_
                  refine lv_goto (tgt := 111) zx zb dX7_draw_98 (by decide) ?_
                  refine cvI (rest := []) (As := [.int (iI 2)]) (b := g.1 23) C0 hH (c_X7_isFine l g S 2 (by omega)) kw_X7_55 ky_X7_isFine ⟨Nat.le_of_ble_eq_true rfl, Nat.le_of_ble_eq_true rfl⟩ ⟨Nat.zero_le _, Nat.zero_le _⟩ 23 rfl rfl rfl hl.1 rfl (Nat.le_of_ble_eq_true rfl) dX7_draw_111 (fun H locs hH => ?_)
                  show W p l e _ s m args below meth c H _ _ _ _ (F0 m 114 ls [.int (iI 0)])
                  refine bz_ne (tgt := 119) zx zb dX7_draw_114 (by decide) ⟨by omega, by omega⟩ (fun zq114 => ?_) (fun zq114 => ?_)
                  · exact absurd zq114 (by decide)
                  · refine bi_const (n := 0) zx zb dX7_draw_117 ?_
                    exact retI C0 hret hlk hH (by rfl) (rfl) dX7_draw_118
              · exact absurd zq85 (by decide)
            · refine lv_aload_n zx zb dX7_draw_57 rfl (lv_at hl 1 rfl) ?_
              refine lv_iload_n zx zb dX7_draw_58 rfl (lv_at hl 2 rfl) ?_
              refine lv_iload_n zx zb dX7_draw_59 rfl (lv_at hl 3 rfl) ?_
              refine cvI (rest := []) (As := [.int (iI f), .int (iI a)]) (b := g.1 23) C0 hH (c_X7_isFree l g S f a (by omega) (by omega) (hnf) (hN) (hE) (hO)) kw_X7_86 ky_X7_isFree ⟨Nat.le_of_ble_eq_true rfl, Nat.le_of_ble_eq_true rfl⟩ ⟨Nat.zero_le _, Nat.zero_le _⟩ 23 rfl rfl rfl hl.1 rfl (Nat.le_of_ble_eq_true rfl) dX7_draw_60 (fun H locs hH => ?_)
              have hpr63 := prg (laI (S 23 7) (S 28) (S 26) (S 27) a = -1 ∨ laI (S 23 7) (S 28) (S 26) (S 27) a = f)
              refine bz_eq (tgt := 79) zx zb dX7_draw_63 (by decide) ⟨by omega, by omega⟩ (fun zq63 => ?_) (fun zq63 => ?_)
              · refine bi_const (n := 0) zx zb dX7_draw_79 ?_
                refine lv_istore (lv' := [(5, .int (iI 0)), (4, .int (iI 1)), (0, .ref (g.1 23)), (1, .int (iI f)), (2, .int (iI a)), (3, .int (iI b))]) zx zb dX7_draw_80 hl (by decide) rfl (fun ls hl => ?_)
                refine lv_aload_n zx zb dX7_draw_82 rfl (lv_at hl 2 rfl) ?_
                refine lv_iload zx zb dX7_draw_83 (lv_at hl 1 rfl) ?_
                refine bz_ne (tgt := 92) zx zb dX7_draw_85 (by decide) ⟨by omega, by omega⟩ (fun zq85 => ?_) (fun zq85 => ?_)
                · refine lv_iload_n zx zb dX7_draw_92 rfl (lv_at hl 4 rfl) ?_
                  refine lv_iload_n zx zb dX7_draw_93 rfl (lv_at hl 5 rfl) ?_
                  refine bq_ne (tgt := 101) zx zb dX7_draw_94 (by decide) ⟨by omega, by omega⟩ ⟨by omega, by omega⟩ (fun zq94 => ?_) (fun zq94 => ?_)
                  · exact absurd hab zq94
                  · refine bi_const (n := 2) zx zb dX7_draw_97 ?_
                    refine lv_goto (tgt := 111) zx zb dX7_draw_98 (by decide) ?_
                    refine cvI (rest := []) (As := [.int (iI 2)]) (b := g.1 23) C0 hH (c_X7_isFine l g S 2 (by omega)) kw_X7_55 ky_X7_isFine ⟨Nat.le_of_ble_eq_true rfl, Nat.le_of_ble_eq_true rfl⟩ ⟨Nat.zero_le _, Nat.zero_le _⟩ 23 rfl rfl rfl hl.1 rfl (Nat.le_of_ble_eq_true rfl) dX7_draw_111 (fun H locs hH => ?_)
                    show W p l e _ s m args below meth c H _ _ _ _ (F0 m 114 ls [.int (iI 0)])
                    refine bz_ne (tgt := 119) zx zb dX7_draw_114 (by decide) ⟨by omega, by omega⟩ (fun zq114 => ?_) (fun zq114 => ?_)
                    · exact absurd zq114 (by decide)
                    · refine bi_const (n := 0) zx zb dX7_draw_117 ?_
                      exact retI C0 hret hlk hH (by rfl) (rfl) dX7_draw_118
                · exact absurd zq85 (by decide)
              · refine lv_aload_n zx zb dX7_draw_66 rfl (lv_at hl 1 rfl) ?_
                refine lv_iload_n zx zb dX7_draw_67 rfl (lv_at hl 2 rfl) ?_
                refine lv_iload_n zx zb dX7_draw_68 rfl (lv_at hl 4 rfl) ?_
                refine cvI (rest := []) (As := [.int (iI f), .int (iI b)]) (b := g.1 23) C0 hH (c_X7_isFree l g S f b (by omega) (by omega) (hnf) (hN) (hE) (hO)) kw_X7_86 ky_X7_isFree ⟨Nat.le_of_ble_eq_true rfl, Nat.le_of_ble_eq_true rfl⟩ ⟨Nat.zero_le _, Nat.zero_le _⟩ 23 rfl rfl rfl hl.1 rfl (Nat.le_of_ble_eq_true rfl) dX7_draw_69 (fun H locs hH => ?_)
                have hpr72 := prg (laI (S 23 7) (S 28) (S 26) (S 27) b = -1 ∨ laI (S 23 7) (S 28) (S 26) (S 27) b = f)
                refine bz_eq (tgt := 79) zx zb dX7_draw_72 (by decide) ⟨by omega, by omega⟩ (fun zq72 => ?_) (fun zq72 => ?_)
                · refine bi_const (n := 0) zx zb dX7_draw_79 ?_
                  refine lv_istore (lv' := [(5, .int (iI 0)), (4, .int (iI 1)), (0, .ref (g.1 23)), (1, .int (iI f)), (2, .int (iI a)), (3, .int (iI b))]) zx zb dX7_draw_80 hl (by decide) rfl (fun ls hl => ?_)
                  refine lv_aload_n zx zb dX7_draw_82 rfl (lv_at hl 2 rfl) ?_
                  refine lv_iload zx zb dX7_draw_83 (lv_at hl 1 rfl) ?_
                  refine bz_ne (tgt := 92) zx zb dX7_draw_85 (by decide) ⟨by omega, by omega⟩ (fun zq85 => ?_) (fun zq85 => ?_)
                  · refine lv_iload_n zx zb dX7_draw_92 rfl (lv_at hl 4 rfl) ?_
                    refine lv_iload_n zx zb dX7_draw_93 rfl (lv_at hl 5 rfl) ?_
                    refine bq_ne (tgt := 101) zx zb dX7_draw_94 (by decide) ⟨by omega, by omega⟩ ⟨by omega, by omega⟩ (fun zq94 => ?_) (fun zq94 => ?_)
                    · exact absurd hab zq94
                    · refine bi_const (n := 2) zx zb dX7_draw_97 ?_
                      refine lv_goto (tgt := 111) zx zb dX7_draw_98 (by decide) ?_
                      refine cvI (rest := []) (As := [.int (iI 2)]) (b := g.1 23) C0 hH (c_X7_isFine l g S 2 (by omega)) kw_X7_55 ky_X7_isFine ⟨Nat.le_of_ble_eq_true rfl, Nat.le_of_ble_eq_true rfl⟩ ⟨Nat.zero_le _, Nat.zero_le _⟩ 23 rfl rfl rfl hl.1 rfl (Nat.le_of_ble_eq_true rfl) dX7_draw_111 (fun H locs hH => ?_)
                      show W p l e _ s m args below meth c H _ _ _ _ (F0 m 114 ls [.int (iI 0)])
                      refine bz_ne (tgt := 119) zx zb dX7_draw_114 (by decide) ⟨by omega, by omega⟩ (fun zq114 => ?_) (fun zq114 => ?_)
                      · exact absurd zq114 (by decide)
                      · refine bi_const (n := 0) zx zb dX7_draw_117 ?_
                        exact retI C0 hret hlk hH (by rfl) (rfl) dX7_draw_118
                  · exact absurd zq85 (by decide)
                · refine bi_const (n := 1) zx zb dX7_draw_75 ?_
                  refine lv_goto (tgt := 80) zx zb dX7_draw_76 (by decide) ?_
                  refine lv_istore (lv' := [(5, .int (iI 1)), (4, .int (iI 1)), (0, .ref (g.1 23)), (1, .int (iI f)), (2, .int (iI a)), (3, .int (iI b))]) zx zb dX7_draw_80 hl (by decide) rfl (fun ls hl => ?_)
                  refine lv_aload_n zx zb dX7_draw_82 rfl (lv_at hl 2 rfl) ?_
                  refine lv_iload zx zb dX7_draw_83 (lv_at hl 1 rfl) ?_
                  refine bz_ne (tgt := 92) zx zb dX7_draw_85 (by decide) ⟨by omega, by omega⟩ (fun zq85 => ?_) (fun zq85 => ?_)
                  · refine lv_iload_n zx zb dX7_draw_92 rfl (lv_at hl 4 rfl) ?_
                    refine lv_iload_n zx zb dX7_draw_93 rfl (lv_at hl 5 rfl) ?_
                    refine bq_ne (tgt := 101) zx zb dX7_draw_94 (by decide) ⟨by omega, by omega⟩ ⟨by omega, by omega⟩ (fun zq94 => ?_) (fun zq94 => ?_)
                    · exact absurd hab zq94
                    · refine bi_const (n := 2) zx zb dX7_draw_97 ?_
                      refine lv_goto (tgt := 111) zx zb dX7_draw_98 (by decide) ?_
                      refine cvI (rest := []) (As := [.int (iI 2)]) (b := g.1 23) C0 hH (c_X7_isFine l g S 2 (by omega)) kw_X7_55 ky_X7_isFine ⟨Nat.le_of_ble_eq_true rfl, Nat.le_of_ble_eq_true rfl⟩ ⟨Nat.zero_le _, Nat.zero_le _⟩ 23 rfl rfl rfl hl.1 rfl (Nat.le_of_ble_eq_true rfl) dX7_draw_111 (fun H locs hH => ?_)
                      show W p l e _ s m args below meth c H _ _ _ _ (F0 m 114 ls [.int (iI 0)])
                      refine bz_ne (tgt := 119) zx zb dX7_draw_114 (by decide) ⟨by omega, by omega⟩ (fun zq114 => ?_) (fun zq114 => ?_)
                      · exact absurd zq114 (by decide)
                      · refine bi_const (n := 0) zx zb dX7_draw_117 ?_
                        exact retI C0 hret hlk hH (by rfl) (rfl) dX7_draw_118
                  · exact absurd zq85 (by decide)
set_option maxRecDepth 100000 in
set_option maxHeartbeats 4000000 in
theorem f3_X7_draw (l : Launch) (g : gT) (S : gSt) (f a b : Int) (hn1 : 0 ≤ S 23 3 ∧ S 23 3 ≤ 24) (hnf : 0 ≤ S 23 7 ∧ S 23 7 ≤ 8) (hfo : 0 ≤ f ∧ f < S 23 7) (hao : 0 ≤ a ∧ a < S 23 3) (hbo : 0 ≤ b ∧ b < S 23 3) (hN : okN (S 28)) (hE : okE (S 28) (S 26)) (hO : okE (S 28) (S 27)) (hab : a ≠ b) (hbad : ¬(S 28 f < 10 ∧ jnB (S 28) (S 26) (S 27) f a b = false ∧ (laI (S 23 7) (S 28) (S 26) (S 27) a = -1 ∨ laI (S 23 7) (S 28) (S 26) (S 27) a = f) ∧ (laI (S 23 7) (S 28) (S 26) (S 27) b = -1 ∨ laI (S 23 7) (S 28) (S 26) (S 27) b = f))) : MetG l g yX7_draw cX7_draw 6 (some .int) 3 69 [.ref (g.1 23), .int (iI f), .int (iI a), .int (iI b)] S (some (.int (iI 0))) (st S 23 0 3) := by
  refine bodyG (by decide +kernel) (Nat.le_of_ble_eq_true rfl) ?_
  intro p e s m args below meth c ls C0 hret hlk hl hH
  have zx := C0.1
  have zb := C0.2.1
  have hl : lv_has ls 6 [(0, .ref (g.1 23)), (1, .int (iI f)), (2, .int (iI a)), (3, .int (iI b))] := hl
  obtain ⟨H, hHe⟩ : ∃ H : Heap, H = s.heap := ⟨_, rfl⟩
  rw [show (Hp g S s s.heap []) = Hp g S s H [] by rw [hHe]] at hH
  rw [← hHe]
  refine lv_aload_n zx zb dX7_draw_0 rfl (lv_at hl 0 rfl) ?_
  refine lv_iload_n zx zb dX7_draw_1 rfl (lv_at hl 1 rfl) ?_
  refine cvI (rest := []) (As := [.int (iI f)]) (b := g.1 23) C0 hH (c_X7_isFigure l g S f (by omega) (by omega)) kw_X7_80 ky_X7_isFigure ⟨Nat.le_of_ble_eq_true rfl, Nat.le_of_ble_eq_true rfl⟩ ⟨Nat.zero_le _, Nat.zero_le _⟩ 23 rfl rfl rfl hl.1 rfl (Nat.le_of_ble_eq_true rfl) dX7_draw_2 (fun H locs hH => ?_)
  rw [show (if 0 ≤ f ∧ f < S 23 7 then (1 : Int) else 0) = 1 from if_pos hfo]
  refine bz_eq (tgt := 28) zx zb dX7_draw_5 (by decide) ⟨by omega, by omega⟩ (fun zq5 => ?_) (fun zq5 => ?_)
  · exact absurd zq5 (by decide)
  · refine lv_aload_n zx zb dX7_draw_8 rfl (lv_at hl 0 rfl) ?_
    refine lv_iload_n zx zb dX7_draw_9 rfl (lv_at hl 2 rfl) ?_
    refine cvI (rest := []) (As := [.int (iI a)]) (b := g.1 23) C0 hH (c_X7_isStar l g S a (by omega) (by omega)) kw_X7_62 ky_X7_isStar ⟨Nat.le_of_ble_eq_true rfl, Nat.le_of_ble_eq_true rfl⟩ ⟨Nat.zero_le _, Nat.zero_le _⟩ 23 rfl rfl rfl hl.1 rfl (Nat.le_of_ble_eq_true rfl) dX7_draw_10 (fun H locs hH => ?_)
    rw [show (if 0 ≤ a ∧ a < S 23 3 then (1 : Int) else 0) = 1 from if_pos hao]
    refine bz_eq (tgt := 28) zx zb dX7_draw_13 (by decide) ⟨by omega, by omega⟩ (fun zq13 => ?_) (fun zq13 => ?_)
    · exact absurd zq13 (by decide)
    · refine lv_aload_n zx zb dX7_draw_16 rfl (lv_at hl 0 rfl) ?_
      refine lv_iload_n zx zb dX7_draw_17 rfl (lv_at hl 3 rfl) ?_
      refine cvI (rest := []) (As := [.int (iI b)]) (b := g.1 23) C0 hH (c_X7_isStar l g S b (by omega) (by omega)) kw_X7_62 ky_X7_isStar ⟨Nat.le_of_ble_eq_true rfl, Nat.le_of_ble_eq_true rfl⟩ ⟨Nat.zero_le _, Nat.zero_le _⟩ 23 rfl rfl rfl hl.1 rfl (Nat.le_of_ble_eq_true rfl) dX7_draw_18 (fun H locs hH => ?_)
      rw [show (if 0 ≤ b ∧ b < S 23 3 then (1 : Int) else 0) = 1 from if_pos hbo]
      refine bz_eq (tgt := 28) zx zb dX7_draw_21 (by decide) ⟨by omega, by omega⟩ (fun zq21 => ?_) (fun zq21 => ?_)
      · exact absurd zq21 (by decide)
      · refine bi_const (n := 1) zx zb dX7_draw_24 ?_
        refine lv_goto (tgt := 29) zx zb dX7_draw_25 (by decide) ?_
        refine lv_istore (lv' := [(4, .int (iI 1)), (0, .ref (g.1 23)), (1, .int (iI f)), (2, .int (iI a)), (3, .int (iI b))]) zx zb dX7_draw_29 hl (by decide) rfl (fun ls hl => ?_)
        refine lv_iload zx zb dX7_draw_31 (lv_at hl 0 rfl) ?_
        refine bz_eq (tgt := 79) zx zb dX7_draw_33 (by decide) ⟨by omega, by omega⟩ (fun zq33 => ?_) (fun zq33 => ?_)
        · exact absurd zq33 (by decide)
        · have hn := hN f (by omega) (by omega)
          refine lv_aload_n zx zb dX7_draw_36 rfl (lv_at hl 1 rfl) ?_
          refine gf_X7_22 C0 hH dX7_draw_37 ?_
          refine lv_iload_n zx zb dX7_draw_40 rfl (lv_at hl 2 rfl) ?_
          refine al_28 C0 hH (by omega) (by omega) dX7_draw_41 ?_
          refine bi_bip (n := 10) zx zb dX7_draw_42 (by decide) ?_
          refine bq_ge (tgt := 79) zx zb dX7_draw_44 (by decide) ⟨by omega, by omega⟩ ⟨by omega, by omega⟩ (fun zq44 => ?_) (fun zq44 => ?_)
          · refine bi_const (n := 0) zx zb dX7_draw_79 ?_
            refine lv_istore (lv' := [(5, .int (iI 0)), (4, .int (iI 1)), (0, .ref (g.1 23)), (1, .int (iI f)), (2, .int (iI a)), (3, .int (iI b))]) zx zb dX7_draw_80 hl (by decide) rfl (fun ls hl => ?_)
            refine lv_aload_n zx zb dX7_draw_82 rfl (lv_at hl 2 rfl) ?_
            refine lv_iload zx zb dX7_draw_83 (lv_at hl 1 rfl) ?_
            refine bz_ne (tgt := 92) zx zb dX7_draw_85 (by decide) ⟨by omega, by omega⟩ (fun zq85 => ?_) (fun zq85 => ?_)
            · refine lv_iload_n zx zb dX7_draw_92 rfl (lv_at hl 4 rfl) ?_
              refine lv_iload_n zx zb dX7_draw_93 rfl (lv_at hl 5 rfl) ?_
              refine bq_ne (tgt := 101) zx zb dX7_draw_94 (by decide) ⟨by omega, by omega⟩ ⟨by omega, by omega⟩ (fun zq94 => ?_) (fun zq94 => ?_)
              · refine lv_iload zx zb dX7_draw_101 (lv_at hl 0 rfl) ?_
                refine bz_ne (tgt := 110) zx zb dX7_draw_103 (by decide) ⟨by omega, by omega⟩ (fun zq103 => ?_) (fun zq103 => ?_)
                · exact absurd zq103 (by decide)
                · refine bi_const (n := 3) zx zb dX7_draw_106 ?_
                  refine lv_goto (tgt := 111) zx zb dX7_draw_107 (by decide) ?_
                  refine cvI (rest := []) (As := [.int (iI 3)]) (b := g.1 23) C0 hH (c_X7_isFine l g S 3 (by omega)) kw_X7_55 ky_X7_isFine ⟨Nat.le_of_ble_eq_true rfl, Nat.le_of_ble_eq_true rfl⟩ ⟨Nat.zero_le _, Nat.zero_le _⟩ 23 rfl rfl rfl hl.1 rfl (Nat.le_of_ble_eq_true rfl) dX7_draw_111 (fun H locs hH => ?_)
                  show W p l e _ s m args below meth c H _ _ _ _ (F0 m 114 ls [.int (iI 0)])
                  refine bz_ne (tgt := 119) zx zb dX7_draw_114 (by decide) ⟨by omega, by omega⟩ (fun zq114 => ?_) (fun zq114 => ?_)
                  · exact absurd zq114 (by decide)
                  · refine bi_const (n := 0) zx zb dX7_draw_117 ?_
                    exact retI C0 hret hlk hH (by rfl) (rfl) dX7_draw_118
              · exact absurd zq94 hab
            · exact absurd zq85 (by decide)
          · refine lv_aload_n zx zb dX7_draw_47 rfl (lv_at hl 1 rfl) ?_
            refine lv_iload_n zx zb dX7_draw_48 rfl (lv_at hl 2 rfl) ?_
            refine lv_iload_n zx zb dX7_draw_49 rfl (lv_at hl 3 rfl) ?_
            refine lv_iload_n zx zb dX7_draw_50 rfl (lv_at hl 4 rfl) ?_
            refine cvI (rest := []) (As := [.int (iI f), .int (iI a), .int (iI b)]) (b := g.1 23) C0 hH (c_X7_hasLine l g S f a b (by omega) (by omega) (by omega) (hN) (hE) (hO)) kw_X7_83 ky_X7_hasLine ⟨Nat.le_of_ble_eq_true rfl, Nat.le_of_ble_eq_true rfl⟩ ⟨Nat.zero_le _, Nat.zero_le _⟩ 23 rfl rfl rfl hl.1 rfl (Nat.le_of_ble_eq_true rfl) dX7_draw_51 (fun H locs hH => ?_)
            have hpr54 := brg (jnB (S 28) (S 26) (S 27) f a b)
            refine bz_ne (tgt := 79) zx zb dX7_draw_54 (by decide) ⟨by omega, by omega⟩ (fun zq54 => ?_) (fun zq54 => ?_)
            · refine bi_const (n := 0) zx zb dX7_draw_79 ?_
              refine lv_istore (lv' := [(5, .int (iI 0)), (4, .int (iI 1)), (0, .ref (g.1 23)), (1, .int (iI f)), (2, .int (iI a)), (3, .int (iI b))]) zx zb dX7_draw_80 hl (by decide) rfl (fun ls hl => ?_)
              refine lv_aload_n zx zb dX7_draw_82 rfl (lv_at hl 2 rfl) ?_
              refine lv_iload zx zb dX7_draw_83 (lv_at hl 1 rfl) ?_
              refine bz_ne (tgt := 92) zx zb dX7_draw_85 (by decide) ⟨by omega, by omega⟩ (fun zq85 => ?_) (fun zq85 => ?_)
              · refine lv_iload_n zx zb dX7_draw_92 rfl (lv_at hl 4 rfl) ?_
                refine lv_iload_n zx zb dX7_draw_93 rfl (lv_at hl 5 rfl) ?_
                refine bq_ne (tgt := 101) zx zb dX7_draw_94 (by decide) ⟨by omega, by omega⟩ ⟨by omega, by omega⟩ (fun zq94 => ?_) (fun zq94 => ?_)
                · refine lv_iload zx zb dX7_draw_101 (lv_at hl 0 rfl) ?_
                  refine bz_ne (tgt := 110) zx zb dX7_draw_103 (by decide) ⟨by omega, by omega⟩ (fun zq103 => ?_) (fun zq103 => ?_)
                  · exact absurd zq103 (by decide)
                  · refine bi_const (n := 3) zx zb dX7_draw_106 ?_
                    refine lv_goto (tgt := 111) zx zb dX7_draw_107 (by decide) ?_
                    refine cvI (rest := []) (As := [.int (iI 3)]) (b := g.1 23) C0 hH (c_X7_isFine l g S 3 (by omega)) kw_X7_55 ky_X7_isFine ⟨Nat.le_of_ble_eq_true rfl, Nat.le_of_ble_eq_true rfl⟩ ⟨Nat.zero_le _, Nat.zero_le _⟩ 23 rfl rfl rfl hl.1 rfl (Nat.le_of_ble_eq_true rfl) dX7_draw_111 (fun H locs hH => ?_)
                    show W p l e _ s m args below meth c H _ _ _ _ (F0 m 114 ls [.int (iI 0)])
                    refine bz_ne (tgt := 119) zx zb dX7_draw_114 (by decide) ⟨by omega, by omega⟩ (fun zq114 => ?_) (fun zq114 => ?_)
                    · exact absurd zq114 (by decide)
                    · refine bi_const (n := 0) zx zb dX7_draw_117 ?_
                      exact retI C0 hret hlk hH (by rfl) (rfl) dX7_draw_118
                · exact absurd zq94 hab
              · exact absurd zq85 (by decide)
            · refine lv_aload_n zx zb dX7_draw_57 rfl (lv_at hl 1 rfl) ?_
              refine lv_iload_n zx zb dX7_draw_58 rfl (lv_at hl 2 rfl) ?_
              refine lv_iload_n zx zb dX7_draw_59 rfl (lv_at hl 3 rfl) ?_
              refine cvI (rest := []) (As := [.int (iI f), .int (iI a)]) (b := g.1 23) C0 hH (c_X7_isFree l g S f a (by omega) (by omega) (hnf) (hN) (hE) (hO)) kw_X7_86 ky_X7_isFree ⟨Nat.le_of_ble_eq_true rfl, Nat.le_of_ble_eq_true rfl⟩ ⟨Nat.zero_le _, Nat.zero_le _⟩ 23 rfl rfl rfl hl.1 rfl (Nat.le_of_ble_eq_true rfl) dX7_draw_60 (fun H locs hH => ?_)
              have hpr63 := prg (laI (S 23 7) (S 28) (S 26) (S 27) a = -1 ∨ laI (S 23 7) (S 28) (S 26) (S 27) a = f)
              refine bz_eq (tgt := 79) zx zb dX7_draw_63 (by decide) ⟨by omega, by omega⟩ (fun zq63 => ?_) (fun zq63 => ?_)
              · refine bi_const (n := 0) zx zb dX7_draw_79 ?_
                refine lv_istore (lv' := [(5, .int (iI 0)), (4, .int (iI 1)), (0, .ref (g.1 23)), (1, .int (iI f)), (2, .int (iI a)), (3, .int (iI b))]) zx zb dX7_draw_80 hl (by decide) rfl (fun ls hl => ?_)
                refine lv_aload_n zx zb dX7_draw_82 rfl (lv_at hl 2 rfl) ?_
                refine lv_iload zx zb dX7_draw_83 (lv_at hl 1 rfl) ?_
                refine bz_ne (tgt := 92) zx zb dX7_draw_85 (by decide) ⟨by omega, by omega⟩ (fun zq85 => ?_) (fun zq85 => ?_)
                · refine lv_iload_n zx zb dX7_draw_92 rfl (lv_at hl 4 rfl) ?_
                  refine lv_iload_n zx zb dX7_draw_93 rfl (lv_at hl 5 rfl) ?_
                  refine bq_ne (tgt := 101) zx zb dX7_draw_94 (by decide) ⟨by omega, by omega⟩ ⟨by omega, by omega⟩ (fun zq94 => ?_) (fun zq94 => ?_)
                  · refine lv_iload zx zb dX7_draw_101 (lv_at hl 0 rfl) ?_
                    refine bz_ne (tgt := 110) zx zb dX7_draw_103 (by decide) ⟨by omega, by omega⟩ (fun zq103 => ?_) (fun zq103 => ?_)
                    · exact absurd zq103 (by decide)
                    · refine bi_const (n := 3) zx zb dX7_draw_106 ?_
                      refine lv_goto (tgt := 111) zx zb dX7_draw_107 (by decide) ?_
                      refine cvI (rest := []) (As := [.int (iI 3)]) (b := g.1 23) C0 hH (c_X7_isFine l g S 3 (by omega)) kw_X7_55 ky_X7_isFine ⟨Nat.le_of_ble_eq_true rfl, Nat.le_of_ble_eq_true rfl⟩ ⟨Nat.zero_le _, Nat.zero_le _⟩ 23 rfl rfl rfl hl.1 rfl (Nat.le_of_ble_eq_true rfl) dX7_draw_111 (fun H locs hH => ?_)
                      show W p l e _ s m args below meth c H _ _ _ _ (F0 m 114 ls [.int (iI 0)])
                      refine bz_ne (tgt := 119) zx zb dX7_draw_114 (by decide) ⟨by omega, by omega⟩ (fun zq114 => ?_) (fun zq114 => ?_)
                      · exact absurd zq114 (by decide)
                      · refine bi_const (n := 0) zx zb dX7_draw_117 ?_
                        exact retI C0 hret hlk hH (by rfl) (rfl) dX7_draw_118
                  · exact absurd zq94 hab
                · exact absurd zq85 (by decide)
              · refine lv_aload_n zx zb dX7_draw_66 rfl (lv_at hl 1 rfl) ?_
                refine lv_iload_n zx zb dX7_draw_67 rfl (lv_at hl 2 rfl) ?_
                refine lv_iload_n zx zb dX7_draw_68 rfl (lv_at hl 4 rfl) ?_
                refine cvI (rest := []) (As := [.int (iI f), .int (iI b)]) (b := g.1 23) C0 hH (c_X7_isFree l g S f b (by omega) (by omega) (hnf) (hN) (hE) (hO)) kw_X7_86 ky_X7_isFree ⟨Nat.le_of_ble_eq_true rfl, Nat.le_of_ble_eq_true rfl⟩ ⟨Nat.zero_le _, Nat.zero_le _⟩ 23 rfl rfl rfl hl.1 rfl (Nat.le_of_ble_eq_true rfl) dX7_draw_69 (fun H locs hH => ?_)
                have hpr72 := prg (laI (S 23 7) (S 28) (S 26) (S 27) b = -1 ∨ laI (S 23 7) (S 28) (S 26) (S 27) b = f)
                refine bz_eq (tgt := 79) zx zb dX7_draw_72 (by decide) ⟨by omega, by omega⟩ (fun zq72 => ?_) (fun zq72 => ?_)
                · refine bi_const (n := 0) zx zb dX7_draw_79 ?_
                  refine lv_istore (lv' := [(5, .int (iI 0)), (4, .int (iI 1)), (0, .ref (g.1 23)), (1, .int (iI f)), (2, .int (iI a)), (3, .int (iI b))]) zx zb dX7_draw_80 hl (by decide) rfl (fun ls hl => ?_)
                  refine lv_aload_n zx zb dX7_draw_82 rfl (lv_at hl 2 rfl) ?_
                  refine lv_iload zx zb dX7_draw_83 (lv_at hl 1 rfl) ?_
                  refine bz_ne (tgt := 92) zx zb dX7_draw_85 (by decide) ⟨by omega, by omega⟩ (fun zq85 => ?_) (fun zq85 => ?_)
                  · refine lv_iload_n zx zb dX7_draw_92 rfl (lv_at hl 4 rfl) ?_
                    refine lv_iload_n zx zb dX7_draw_93 rfl (lv_at hl 5 rfl) ?_
                    refine bq_ne (tgt := 101) zx zb dX7_draw_94 (by decide) ⟨by omega, by omega⟩ ⟨by omega, by omega⟩ (fun zq94 => ?_) (fun zq94 => ?_)
                    · refine lv_iload zx zb dX7_draw_101 (lv_at hl 0 rfl) ?_
                      refine bz_ne (tgt := 110) zx zb dX7_draw_103 (by decide) ⟨by omega, by omega⟩ (fun zq103 => ?_) (fun zq103 => ?_)
                      · exact absurd zq103 (by decide)
                      · refine bi_const (n := 3) zx zb dX7_draw_106 ?_
                        refine lv_goto (tgt := 111) zx zb dX7_draw_107 (by decide) ?_
                        refine cvI (rest := []) (As := [.int (iI 3)]) (b := g.1 23) C0 hH (c_X7_isFine l g S 3 (by omega)) kw_X7_55 ky_X7_isFine ⟨Nat.le_of_ble_eq_true rfl, Nat.le_of_ble_eq_true rfl⟩ ⟨Nat.zero_le _, Nat.zero_le _⟩ 23 rfl rfl rfl hl.1 rfl (Nat.le_of_ble_eq_true rfl) dX7_draw_111 (fun H locs hH => ?_)
                        show W p l e _ s m args below meth c H _ _ _ _ (F0 m 114 ls [.int (iI 0)])
                        refine bz_ne (tgt := 119) zx zb dX7_draw_114 (by decide) ⟨by omega, by omega⟩ (fun zq114 => ?_) (fun zq114 => ?_)
                        · exact absurd zq114 (by decide)
                        · refine bi_const (n := 0) zx zb dX7_draw_117 ?_
                          exact retI C0 hret hlk hH (by rfl) (rfl) dX7_draw_118
                    · exact absurd zq94 hab
                  · exact absurd zq85 (by decide)
                · exact absurd ⟨zq44, b0 zq54, p1 zq63, p1 zq72⟩ hbad
set_option maxRecDepth 100000 in
set_option maxHeartbeats 4000000 in
theorem c_X7_erase (l : Launch) (g : gT) (S : gSt) (f k : Int) (hnf : 0 ≤ S 23 7 ∧ S 23 7 ≤ 8) (hfo : 0 ≤ f ∧ f < S 23 7) (hko : 0 ≤ k ∧ k ≤ S 28 f - 1) (hdn : 0 ≤ S 23 13 ∧ S 23 13 ≤ 30) (hN : okN (S 28)) : MetG l g yX7_erase cX7_erase 4 (some .int) 2 43 [.ref (g.1 23), .int (iI f), .int (iI k)] S (some (.int (iI (S 28 f - 1)))) (lnOut (ntS (st S 23 0 0) 2 f k (S 26 ((10 * f) + k)) (S 27 ((10 * f) + k))) 28 26 27 f k) := by
  refine bodyG (by decide +kernel) (Nat.le_of_ble_eq_true rfl) ?_
  intro p e s m args below meth c ls C0 hret hlk hl hH
  have zx := C0.1
  have zb := C0.2.1
  have hl : lv_has ls 4 [(0, .ref (g.1 23)), (1, .int (iI f)), (2, .int (iI k))] := hl
  obtain ⟨H, hHe⟩ : ∃ H : Heap, H = s.heap := ⟨_, rfl⟩
  rw [show (Hp g S s s.heap []) = Hp g S s H [] by rw [hHe]] at hH
  rw [← hHe]
  refine lv_aload_n zx zb dX7_erase_0 rfl (lv_at hl 0 rfl) ?_
  refine lv_iload_n zx zb dX7_erase_1 rfl (lv_at hl 1 rfl) ?_
  refine cvI (rest := []) (As := [.int (iI f)]) (b := g.1 23) C0 hH (c_X7_isFigure l g S f (by omega) (by omega)) kw_X7_80 ky_X7_isFigure ⟨Nat.le_of_ble_eq_true rfl, Nat.le_of_ble_eq_true rfl⟩ ⟨Nat.zero_le _, Nat.zero_le _⟩ 23 rfl rfl rfl hl.1 rfl (Nat.le_of_ble_eq_true rfl) dX7_erase_2 (fun H locs hH => ?_)
  rw [show (if 0 ≤ f ∧ f < S 23 7 then (1 : Int) else 0) = 1 from if_pos hfo]
  refine bz_eq (tgt := 28) zx zb dX7_erase_5 (by decide) ⟨by omega, by omega⟩ (fun zq5 => ?_) (fun zq5 => ?_)
  · exact absurd zq5 (by decide)
  · have hn := hN f (by omega) (by omega)
    refine lv_iload_n zx zb dX7_erase_8 rfl (lv_at hl 2 rfl) ?_
    refine bi_const (n := 0) zx zb dX7_erase_9 ?_
    refine lv_aload_n zx zb dX7_erase_10 rfl (lv_at hl 0 rfl) ?_
    refine gf_X7_22 C0 hH dX7_erase_11 ?_
    refine lv_iload_n zx zb dX7_erase_14 rfl (lv_at hl 1 rfl) ?_
    refine al_28 C0 hH (by omega) (by omega) dX7_erase_15 ?_
    refine bi_const (n := 1) zx zb dX7_erase_16 ?_
    refine bi_sub zx zb dX7_erase_17 ?_
    refine csI (rest := []) (As := [.int (iI k), .int (iI 0), .int (iI ((S 28 f) - 1))]) C0 hH (c_X7_isIn l g S k 0 ((S 28 f) - 1) (by omega) (by omega) (by omega)) kw_X7_44 ky_X7_isIn ⟨Nat.le_of_ble_eq_true rfl, Nat.le_of_ble_eq_true rfl⟩ ⟨Nat.zero_le _, Nat.zero_le _⟩ rfl hl.1 rfl (Nat.le_of_ble_eq_true rfl) dX7_erase_18 (fun H locs hH => ?_)
    rw [show (if 0 ≤ k ∧ k ≤ S 28 f - 1 then (1 : Int) else 0) = 1 from if_pos hko]
    refine bz_eq (tgt := 28) zx zb dX7_erase_21 (by decide) ⟨by omega, by omega⟩ (fun zq21 => ?_) (fun zq21 => ?_)
    · exact absurd zq21 (by decide)
    · refine bi_const (n := 1) zx zb dX7_erase_24 ?_
      refine lv_goto (tgt := 29) zx zb dX7_erase_25 (by decide) ?_
      refine lv_istore_n (lv' := [(3, .int (iI 1)), (0, .ref (g.1 23)), (1, .int (iI f)), (2, .int (iI k))]) zx zb dX7_erase_29 rfl hl (by decide) rfl (fun ls hl => ?_)
      refine lv_aload_n zx zb dX7_erase_30 rfl (lv_at hl 1 rfl) ?_
      refine lv_iload_n zx zb dX7_erase_31 rfl (lv_at hl 0 rfl) ?_
      refine bz_eq (tgt := 39) zx zb dX7_erase_32 (by decide) ⟨by omega, by omega⟩ (fun zq32 => ?_) (fun zq32 => ?_)
      · exact absurd zq32 (by decide)
      · refine bi_const (n := 0) zx zb dX7_erase_35 ?_
        refine lv_goto (tgt := 40) zx zb dX7_erase_36 (by decide) ?_
        refine cvI (rest := []) (As := [.int (iI 0)]) (b := g.1 23) C0 hH (c_X7_isFine l g S 0 (by omega)) kw_X7_55 ky_X7_isFine ⟨Nat.le_of_ble_eq_true rfl, Nat.le_of_ble_eq_true rfl⟩ ⟨Nat.zero_le _, Nat.zero_le _⟩ 23 rfl rfl rfl hl.1 rfl (Nat.le_of_ble_eq_true rfl) dX7_erase_40 (fun H locs hH => ?_)
        show W p l e _ s m args below meth c H _ _ _ _ (F0 m 43 ls [.int (iI 1)])
        refine bz_ne (tgt := 48) zx zb dX7_erase_43 (by decide) ⟨by omega, by omega⟩ (fun zq43 => ?_) (fun zq43 => ?_)
        · refine lv_aload_n zx zb dX7_erase_48 rfl (lv_at hl 1 rfl) ?_
          refine bi_const (n := 2) zx zb dX7_erase_49 ?_
          refine lv_iload_n zx zb dX7_erase_50 rfl (lv_at hl 2 rfl) ?_
          refine lv_iload_n zx zb dX7_erase_51 rfl (lv_at hl 3 rfl) ?_
          refine lv_aload_n zx zb dX7_erase_52 rfl (lv_at hl 1 rfl) ?_
          refine gf_X7_16 C0 hH dX7_erase_53 ?_
          refine bi_bip (n := 10) zx zb dX7_erase_56 (by decide) ?_
          refine lv_iload_n zx zb dX7_erase_58 rfl (lv_at hl 2 rfl) ?_
          refine bi_mul zx zb dX7_erase_59 ?_
          refine lv_iload_n zx zb dX7_erase_60 rfl (lv_at hl 3 rfl) ?_
          refine bi_add zx zb dX7_erase_61 ?_
          refine al_26 C0 hH (by omega) (by omega) dX7_erase_62 ?_
          show W p l e _ s m args below meth c H _ _ _ _ (F0 m 63 ls [.int (iI (S 26 ((10 * f) + k))), .int (iI k), .int (iI f), .int (iI 2), .ref (g.1 23)])
          refine lv_aload_n zx zb dX7_erase_63 rfl (lv_at hl 1 rfl) ?_
          refine gf_X7_19 C0 hH dX7_erase_64 ?_
          refine bi_bip (n := 10) zx zb dX7_erase_67 (by decide) ?_
          refine lv_iload_n zx zb dX7_erase_69 rfl (lv_at hl 2 rfl) ?_
          refine bi_mul zx zb dX7_erase_70 ?_
          refine lv_iload_n zx zb dX7_erase_71 rfl (lv_at hl 3 rfl) ?_
          refine bi_add zx zb dX7_erase_72 ?_
          refine al_27 C0 hH (by omega) (by omega) dX7_erase_73 ?_
          show W p l e _ s m args below meth c H _ _ _ _ (F0 m 74 ls [.int (iI (S 27 ((10 * f) + k))), .int (iI (S 26 ((10 * f) + k))), .int (iI k), .int (iI f), .int (iI 2), .ref (g.1 23)])
          refine cvN (rest := []) (As := [.int (iI 2), .int (iI f), .int (iI k), .int (iI (S 26 ((10 * f) + k))), .int (iI (S 27 ((10 * f) + k)))]) (b := g.1 23) C0 hH (c_X7_notes l g (st S 23 0 0) 2 f k (S 26 ((10 * f) + k)) (S 27 ((10 * f) + k)) (hdn)) kw_X7_65 ky_X7_notes ⟨Nat.le_of_ble_eq_true rfl, Nat.le_of_ble_eq_true rfl⟩ ⟨Nat.zero_le _, Nat.zero_le _⟩ 23 rfl rfl rfl hl.1 rfl (Nat.le_of_ble_eq_true rfl) dX7_erase_74 (fun H locs hH => ?_)
          refine lv_aload_n zx zb dX7_erase_77 rfl (lv_at hl 1 rfl) ?_
          refine lv_iload_n zx zb dX7_erase_78 rfl (lv_at hl 2 rfl) ?_
          refine lv_iload_n zx zb dX7_erase_79 rfl (lv_at hl 3 rfl) ?_
          refine cvN (rest := []) (As := [.int (iI f), .int (iI k)]) (b := g.1 23) C0 hH (c_X7_takes l g (ntS (st S 23 0 0) 2 f k (S 26 ((10 * f) + k)) (S 27 ((10 * f) + k))) f k (by omega) (by show 0 ≤ k ∧ k < S 28 f; omega) (by exact hn.2)) kw_X7_93 ky_X7_takes ⟨Nat.le_of_ble_eq_true rfl, Nat.le_of_ble_eq_true rfl⟩ ⟨Nat.zero_le _, Nat.zero_le _⟩ 23 rfl rfl rfl hl.1 rfl (Nat.le_of_ble_eq_true rfl) dX7_erase_80 (fun H locs hH => ?_)
          refine lv_aload_n zx zb dX7_erase_83 rfl (lv_at hl 1 rfl) ?_
          refine gf_X7_22 C0 hH dX7_erase_84 ?_
          refine lv_iload_n zx zb dX7_erase_87 rfl (lv_at hl 2 rfl) ?_
          refine al_28 C0 hH (by omega) (by omega) dX7_erase_88 ?_
          show W p l e _ s m args below meth c H _ _ _ _ (F0 m 89 ls [.int (iI ((lnOut (ntS (st S 23 0 0) 2 f k (S 26 ((10 * f) + k)) (S 27 ((10 * f) + k))) 28 26 27 f k) 28 f))])
          exact retI C0 hret hlk hH (by exact ud_s _ _ _) (rfl) dX7_erase_89
        · exact absurd zq43 (by decide)
set_option maxRecDepth 100000 in
set_option maxHeartbeats 4000000 in
theorem f1_X7_erase (l : Launch) (g : gT) (S : gSt) (f k : Int) (hnf : 0 ≤ S 23 7 ∧ S 23 7 ≤ 8) (hr_f : -2147483648 ≤ f ∧ f < 2147483648) (hr_k : -2147483648 ≤ k ∧ k < 2147483648) (hN : okN (S 28)) (hbad : ¬((0 ≤ f ∧ f < S 23 7) ∧ (0 ≤ k ∧ k ≤ S 28 f - 1))) : MetG l g yX7_erase cX7_erase 4 (some .int) 2 43 [.ref (g.1 23), .int (iI f), .int (iI k)] S (some (.int (iI 0))) (st S 23 0 1) := by
  refine bodyG (by decide +kernel) (Nat.le_of_ble_eq_true rfl) ?_
  intro p e s m args below meth c ls C0 hret hlk hl hH
  have zx := C0.1
  have zb := C0.2.1
  have hl : lv_has ls 4 [(0, .ref (g.1 23)), (1, .int (iI f)), (2, .int (iI k))] := hl
  obtain ⟨H, hHe⟩ : ∃ H : Heap, H = s.heap := ⟨_, rfl⟩
  rw [show (Hp g S s s.heap []) = Hp g S s H [] by rw [hHe]] at hH
  rw [← hHe]
  refine lv_aload_n zx zb dX7_erase_0 rfl (lv_at hl 0 rfl) ?_
  refine lv_iload_n zx zb dX7_erase_1 rfl (lv_at hl 1 rfl) ?_
  refine cvI (rest := []) (As := [.int (iI f)]) (b := g.1 23) C0 hH (c_X7_isFigure l g S f (by omega) (by omega)) kw_X7_80 ky_X7_isFigure ⟨Nat.le_of_ble_eq_true rfl, Nat.le_of_ble_eq_true rfl⟩ ⟨Nat.zero_le _, Nat.zero_le _⟩ 23 rfl rfl rfl hl.1 rfl (Nat.le_of_ble_eq_true rfl) dX7_erase_2 (fun H locs hH => ?_)
  have hpr5 := prg (0 ≤ f ∧ f < S 23 7)
  refine bz_eq (tgt := 28) zx zb dX7_erase_5 (by decide) ⟨by omega, by omega⟩ (fun zq5 => ?_) (fun zq5 => ?_)
  · refine bi_const (n := 0) zx zb dX7_erase_28 ?_
    refine lv_istore_n (lv' := [(3, .int (iI 0)), (0, .ref (g.1 23)), (1, .int (iI f)), (2, .int (iI k))]) zx zb dX7_erase_29 rfl hl (by decide) rfl (fun ls hl => ?_)
    refine lv_aload_n zx zb dX7_erase_30 rfl (lv_at hl 1 rfl) ?_
    refine lv_iload_n zx zb dX7_erase_31 rfl (lv_at hl 0 rfl) ?_
    refine bz_eq (tgt := 39) zx zb dX7_erase_32 (by decide) ⟨by omega, by omega⟩ (fun zq32 => ?_) (fun zq32 => ?_)
    · refine bi_const (n := 1) zx zb dX7_erase_39 ?_
      refine cvI (rest := []) (As := [.int (iI 1)]) (b := g.1 23) C0 hH (c_X7_isFine l g S 1 (by omega)) kw_X7_55 ky_X7_isFine ⟨Nat.le_of_ble_eq_true rfl, Nat.le_of_ble_eq_true rfl⟩ ⟨Nat.zero_le _, Nat.zero_le _⟩ 23 rfl rfl rfl hl.1 rfl (Nat.le_of_ble_eq_true rfl) dX7_erase_40 (fun H locs hH => ?_)
      show W p l e _ s m args below meth c H _ _ _ _ (F0 m 43 ls [.int (iI 0)])
      refine bz_ne (tgt := 48) zx zb dX7_erase_43 (by decide) ⟨by omega, by omega⟩ (fun zq43 => ?_) (fun zq43 => ?_)
      · exact absurd zq43 (by decide)
      · refine bi_const (n := 0) zx zb dX7_erase_46 ?_
        exact retI C0 hret hlk hH (by rfl) (rfl) dX7_erase_47
    · exact absurd zq32 (by decide)
  · have hn := hN f (p1 zq5).1 (by have := (p1 zq5).2; omega)
    have hfx := p1 zq5
    refine lv_iload_n zx zb dX7_erase_8 rfl (lv_at hl 2 rfl) ?_
    refine bi_const (n := 0) zx zb dX7_erase_9 ?_
    refine lv_aload_n zx zb dX7_erase_10 rfl (lv_at hl 0 rfl) ?_
    refine gf_X7_22 C0 hH dX7_erase_11 ?_
    refine lv_iload_n zx zb dX7_erase_14 rfl (lv_at hl 1 rfl) ?_
    refine al_28 C0 hH (by omega) (by omega) dX7_erase_15 ?_
    refine bi_const (n := 1) zx zb dX7_erase_16 ?_
    refine bi_sub zx zb dX7_erase_17 ?_
    refine csI (rest := []) (As := [.int (iI k), .int (iI 0), .int (iI ((S 28 f) - 1))]) C0 hH (c_X7_isIn l g S k 0 ((S 28 f) - 1) (by omega) (by omega) (by omega)) kw_X7_44 ky_X7_isIn ⟨Nat.le_of_ble_eq_true rfl, Nat.le_of_ble_eq_true rfl⟩ ⟨Nat.zero_le _, Nat.zero_le _⟩ rfl hl.1 rfl (Nat.le_of_ble_eq_true rfl) dX7_erase_18 (fun H locs hH => ?_)
    have hpr21 := prg (0 ≤ k ∧ k ≤ S 28 f - 1)
    refine bz_eq (tgt := 28) zx zb dX7_erase_21 (by decide) ⟨by omega, by omega⟩ (fun zq21 => ?_) (fun zq21 => ?_)
    · refine bi_const (n := 0) zx zb dX7_erase_28 ?_
      refine lv_istore_n (lv' := [(3, .int (iI 0)), (0, .ref (g.1 23)), (1, .int (iI f)), (2, .int (iI k))]) zx zb dX7_erase_29 rfl hl (by decide) rfl (fun ls hl => ?_)
      refine lv_aload_n zx zb dX7_erase_30 rfl (lv_at hl 1 rfl) ?_
      refine lv_iload_n zx zb dX7_erase_31 rfl (lv_at hl 0 rfl) ?_
      refine bz_eq (tgt := 39) zx zb dX7_erase_32 (by decide) ⟨by omega, by omega⟩ (fun zq32 => ?_) (fun zq32 => ?_)
      · refine bi_const (n := 1) zx zb dX7_erase_39 ?_
        refine cvI (rest := []) (As := [.int (iI 1)]) (b := g.1 23) C0 hH (c_X7_isFine l g S 1 (by omega)) kw_X7_55 ky_X7_isFine ⟨Nat.le_of_ble_eq_true rfl, Nat.le_of_ble_eq_true rfl⟩ ⟨Nat.zero_le _, Nat.zero_le _⟩ 23 rfl rfl rfl hl.1 rfl (Nat.le_of_ble_eq_true rfl) dX7_erase_40 (fun H locs hH => ?_)
        show W p l e _ s m args below meth c H _ _ _ _ (F0 m 43 ls [.int (iI 0)])
        refine bz_ne (tgt := 48) zx zb dX7_erase_43 (by decide) ⟨by omega, by omega⟩ (fun zq43 => ?_) (fun zq43 => ?_)
        · exact absurd zq43 (by decide)
        · refine bi_const (n := 0) zx zb dX7_erase_46 ?_
          exact retI C0 hret hlk hH (by rfl) (rfl) dX7_erase_47
      · exact absurd zq32 (by decide)
    · exact absurd ⟨p1 zq5, p1 zq21⟩ hbad
set_option maxRecDepth 100000 in
set_option maxHeartbeats 4000000 in
theorem c0_X7_undo (l : Launch) (g : gT) (S : gSt) (hdn : 0 ≤ S 23 13 ∧ S 23 13 ≤ 30) (hdp : 0 < S 23 13) (hk : (S 32 (5 * (S 23 13 - 1))) = 0) (hz : 0 ≤ (S 32 (5 * (S 23 13 - 1) + 1)) ∧ (S 32 (5 * (S 23 13 - 1) + 1)) < 24) : MetG l g yX7_undo cX7_undo 3 (some .int) 1 21 [.ref (g.1 23)] S (some (.int (iI (S 23 13 - 1)))) (st (st (st (st S 23 0 0) 23 13 ((S 23 13) - 1)) 24 (S 32 ((5 * ((S 23 13) - 1)) + 1)) (S 32 ((5 * ((S 23 13) - 1)) + 2))) 25 (S 32 ((5 * ((S 23 13) - 1)) + 1)) (S 32 ((5 * ((S 23 13) - 1)) + 3))) := by
  refine bodyG (by decide +kernel) (Nat.le_of_ble_eq_true rfl) ?_
  intro p e s m args below meth c ls C0 hret hlk hl hH
  have zx := C0.1
  have zb := C0.2.1
  have hl : lv_has ls 3 [(0, .ref (g.1 23))] := hl
  obtain ⟨H, hHe⟩ : ∃ H : Heap, H = s.heap := ⟨_, rfl⟩
  rw [show (Hp g S s s.heap []) = Hp g S s H [] by rw [hHe]] at hH
  rw [← hHe]
  refine lv_aload_n zx zb dX7_undo_0 rfl (lv_at hl 0 rfl) ?_
  refine lv_aload_n zx zb dX7_undo_1 rfl (lv_at hl 0 rfl) ?_
  refine gf_X7_59 C0 hH dX7_undo_2 ?_
  refine bz_ne (tgt := 12) zx zb dX7_undo_5 (by decide) ⟨by omega, by omega⟩ (fun zq5 => ?_) (fun zq5 => ?_)
  · refine bi_const (n := 0) zx zb dX7_undo_12 ?_
    refine cvI (rest := []) (As := [.int (iI 0)]) (b := g.1 23) C0 hH (c_X7_isFine l g S 0 (by omega)) kw_X7_55 ky_X7_isFine ⟨Nat.le_of_ble_eq_true rfl, Nat.le_of_ble_eq_true rfl⟩ ⟨Nat.zero_le _, Nat.zero_le _⟩ 23 rfl rfl rfl hl.1 rfl (Nat.le_of_ble_eq_true rfl) dX7_undo_13 (fun H locs hH => ?_)
    show W p l e _ s m args below meth c H _ _ _ _ (F0 m 16 ls [.int (iI 1)])
    refine bz_ne (tgt := 21) zx zb dX7_undo_16 (by decide) ⟨by omega, by omega⟩ (fun zq16 => ?_) (fun zq16 => ?_)
    · refine lv_aload_n zx zb dX7_undo_21 rfl (lv_at hl 0 rfl) ?_
      refine lv_dup zx zb dX7_undo_22 rfl ?_
      refine gf_X7_59 C0 hH dX7_undo_23 ?_
      show W p l e _ s m args below meth c H _ _ _ _ (F0 m 26 ls [.int (iI (S 23 13)), .ref (g.1 23)])
      refine bi_const (n := 1) zx zb dX7_undo_26 ?_
      refine bi_sub zx zb dX7_undo_27 ?_
      refine pf_X7_59 C0 hH dX7_undo_28 (fun H locs hH => ?_)
      refine bi_const (n := 5) zx zb dX7_undo_31 ?_
      refine lv_aload_n zx zb dX7_undo_32 rfl (lv_at hl 0 rfl) ?_
      refine gf_X7_59 C0 hH dX7_undo_33 ?_
      show W p l e _ s m args below meth c H _ _ _ _ (F0 m 36 ls [.int (iI ((S 23 13) - 1)), .int (iI 5)])
      refine bi_mul zx zb dX7_undo_36 ?_
      refine lv_istore_n (lv' := [(1, .int (iI (5 * ((S 23 13) - 1)))), (0, .ref (g.1 23))]) zx zb dX7_undo_37 rfl hl (by decide) rfl (fun ls hl => ?_)
      refine lv_aload_n zx zb dX7_undo_38 rfl (lv_at hl 1 rfl) ?_
      refine gf_X7_34 C0 hH dX7_undo_39 ?_
      refine lv_iload_n zx zb dX7_undo_42 rfl (lv_at hl 0 rfl) ?_
      refine bi_const (n := 1) zx zb dX7_undo_43 ?_
      refine bi_add zx zb dX7_undo_44 ?_
      refine al_32 C0 hH (by omega) (by omega) dX7_undo_45 ?_
      show W p l e _ s m args below meth c H _ _ _ _ (F0 m 46 ls [.int (iI (S 32 ((5 * ((S 23 13) - 1)) + 1)))])
      refine lv_istore_n (lv' := [(2, .int (iI (S 32 ((5 * ((S 23 13) - 1)) + 1)))), (1, .int (iI (5 * ((S 23 13) - 1)))), (0, .ref (g.1 23))]) zx zb dX7_undo_46 rfl hl (by decide) rfl (fun ls hl => ?_)
      refine lv_aload_n zx zb dX7_undo_47 rfl (lv_at hl 2 rfl) ?_
      refine gf_X7_34 C0 hH dX7_undo_48 ?_
      refine lv_iload_n zx zb dX7_undo_51 rfl (lv_at hl 1 rfl) ?_
      refine al_32 C0 hH (by omega) (by omega) dX7_undo_52 ?_
      show W p l e _ s m args below meth c H _ _ _ _ (F0 m 53 ls [.int (iI (S 32 (5 * ((S 23 13) - 1))))])
      refine bz_ne (tgt := 87) zx zb dX7_undo_53 (by decide) ⟨by omega, by omega⟩ (fun zq53 => ?_) (fun zq53 => ?_)
      · exact absurd hk zq53
      · refine lv_aload_n zx zb dX7_undo_56 rfl (lv_at hl 2 rfl) ?_
        refine gf_X7_7 C0 hH dX7_undo_57 ?_
        refine lv_iload_n zx zb dX7_undo_60 rfl (lv_at hl 0 rfl) ?_
        refine lv_aload_n zx zb dX7_undo_61 rfl (lv_at hl 2 rfl) ?_
        refine gf_X7_34 C0 hH dX7_undo_62 ?_
        refine lv_iload_n zx zb dX7_undo_65 rfl (lv_at hl 1 rfl) ?_
        refine bi_const (n := 2) zx zb dX7_undo_66 ?_
        refine bi_add zx zb dX7_undo_67 ?_
        refine al_32 C0 hH (by omega) (by omega) dX7_undo_68 ?_
        show W p l e _ s m args below meth c H _ _ _ _ (F0 m 69 ls [.int (iI (S 32 ((5 * ((S 23 13) - 1)) + 2))), .int (iI (S 32 ((5 * ((S 23 13) - 1)) + 1))), .ref (g.1 24)])
        refine as_24 C0 hH (by omega) (by omega) dX7_undo_69 (fun H locs hH => ?_)
        refine lv_aload_n zx zb dX7_undo_70 rfl (lv_at hl 2 rfl) ?_
        refine gf_X7_13 C0 hH dX7_undo_71 ?_
        refine lv_iload_n zx zb dX7_undo_74 rfl (lv_at hl 0 rfl) ?_
        refine lv_aload_n zx zb dX7_undo_75 rfl (lv_at hl 2 rfl) ?_
        refine gf_X7_34 C0 hH dX7_undo_76 ?_
        refine lv_iload_n zx zb dX7_undo_79 rfl (lv_at hl 1 rfl) ?_
        refine bi_const (n := 3) zx zb dX7_undo_80 ?_
        refine bi_add zx zb dX7_undo_81 ?_
        refine al_32 C0 hH (by omega) (by omega) dX7_undo_82 ?_
        show W p l e _ s m args below meth c H _ _ _ _ (F0 m 83 ls [.int (iI (S 32 ((5 * ((S 23 13) - 1)) + 3))), .int (iI (S 32 ((5 * ((S 23 13) - 1)) + 1))), .ref (g.1 25)])
        refine as_25 C0 hH (by omega) (by omega) dX7_undo_83 (fun H locs hH => ?_)
        refine lv_goto (tgt := 142) zx zb dX7_undo_84 (by decide) ?_
        refine lv_aload_n zx zb dX7_undo_142 rfl (lv_at hl 2 rfl) ?_
        refine gf_X7_59 C0 hH dX7_undo_143 ?_
        show W p l e _ s m args below meth c H _ _ _ _ (F0 m 146 ls [.int (iI ((S 23 13) - 1))])
        exact retI C0 hret hlk hH (by rfl) (rfl) dX7_undo_146
    · exact absurd zq16 (by decide)
  · exact absurd zq5 (by omega)
set_option maxRecDepth 100000 in
set_option maxHeartbeats 4000000 in
theorem c1_X7_undo (l : Launch) (g : gT) (S : gSt) (hdn : 0 ≤ S 23 13 ∧ S 23 13 ≤ 30) (hdp : 0 < S 23 13) (hk : (S 32 (5 * (S 23 13 - 1))) = 1) (hz : 0 ≤ (S 32 (5 * (S 23 13 - 1) + 1)) ∧ (S 32 (5 * (S 23 13 - 1) + 1)) < 8) (hl0 : 0 ≤ (S 32 (5 * (S 23 13 - 1) + 2)) ∧ (S 32 (5 * (S 23 13 - 1) + 2)) < S 28 (S 32 (5 * (S 23 13 - 1) + 1))) (hc : S 28 (S 32 (5 * (S 23 13 - 1) + 1)) ≤ 10) : MetG l g yX7_undo cX7_undo 3 (some .int) 1 23 [.ref (g.1 23)] S (some (.int (iI (S 23 13 - 1)))) (lnOut (st (st S 23 0 0) 23 13 ((S 23 13) - 1)) 28 26 27 (S 32 ((5 * ((S 23 13) - 1)) + 1)) (S 32 ((5 * ((S 23 13) - 1)) + 2))) := by
  refine bodyG (by decide +kernel) (Nat.le_of_ble_eq_true rfl) ?_
  intro p e s m args below meth c ls C0 hret hlk hl hH
  have zx := C0.1
  have zb := C0.2.1
  have hl : lv_has ls 3 [(0, .ref (g.1 23))] := hl
  obtain ⟨H, hHe⟩ : ∃ H : Heap, H = s.heap := ⟨_, rfl⟩
  rw [show (Hp g S s s.heap []) = Hp g S s H [] by rw [hHe]] at hH
  rw [← hHe]
  refine lv_aload_n zx zb dX7_undo_0 rfl (lv_at hl 0 rfl) ?_
  refine lv_aload_n zx zb dX7_undo_1 rfl (lv_at hl 0 rfl) ?_
  refine gf_X7_59 C0 hH dX7_undo_2 ?_
  refine bz_ne (tgt := 12) zx zb dX7_undo_5 (by decide) ⟨by omega, by omega⟩ (fun zq5 => ?_) (fun zq5 => ?_)
  · refine bi_const (n := 0) zx zb dX7_undo_12 ?_
    refine cvI (rest := []) (As := [.int (iI 0)]) (b := g.1 23) C0 hH (c_X7_isFine l g S 0 (by omega)) kw_X7_55 ky_X7_isFine ⟨Nat.le_of_ble_eq_true rfl, Nat.le_of_ble_eq_true rfl⟩ ⟨Nat.zero_le _, Nat.zero_le _⟩ 23 rfl rfl rfl hl.1 rfl (Nat.le_of_ble_eq_true rfl) dX7_undo_13 (fun H locs hH => ?_)
    show W p l e _ s m args below meth c H _ _ _ _ (F0 m 16 ls [.int (iI 1)])
    refine bz_ne (tgt := 21) zx zb dX7_undo_16 (by decide) ⟨by omega, by omega⟩ (fun zq16 => ?_) (fun zq16 => ?_)
    · refine lv_aload_n zx zb dX7_undo_21 rfl (lv_at hl 0 rfl) ?_
      refine lv_dup zx zb dX7_undo_22 rfl ?_
      refine gf_X7_59 C0 hH dX7_undo_23 ?_
      show W p l e _ s m args below meth c H _ _ _ _ (F0 m 26 ls [.int (iI (S 23 13)), .ref (g.1 23)])
      refine bi_const (n := 1) zx zb dX7_undo_26 ?_
      refine bi_sub zx zb dX7_undo_27 ?_
      refine pf_X7_59 C0 hH dX7_undo_28 (fun H locs hH => ?_)
      refine bi_const (n := 5) zx zb dX7_undo_31 ?_
      refine lv_aload_n zx zb dX7_undo_32 rfl (lv_at hl 0 rfl) ?_
      refine gf_X7_59 C0 hH dX7_undo_33 ?_
      show W p l e _ s m args below meth c H _ _ _ _ (F0 m 36 ls [.int (iI ((S 23 13) - 1)), .int (iI 5)])
      refine bi_mul zx zb dX7_undo_36 ?_
      refine lv_istore_n (lv' := [(1, .int (iI (5 * ((S 23 13) - 1)))), (0, .ref (g.1 23))]) zx zb dX7_undo_37 rfl hl (by decide) rfl (fun ls hl => ?_)
      refine lv_aload_n zx zb dX7_undo_38 rfl (lv_at hl 1 rfl) ?_
      refine gf_X7_34 C0 hH dX7_undo_39 ?_
      refine lv_iload_n zx zb dX7_undo_42 rfl (lv_at hl 0 rfl) ?_
      refine bi_const (n := 1) zx zb dX7_undo_43 ?_
      refine bi_add zx zb dX7_undo_44 ?_
      refine al_32 C0 hH (by omega) (by omega) dX7_undo_45 ?_
      show W p l e _ s m args below meth c H _ _ _ _ (F0 m 46 ls [.int (iI (S 32 ((5 * ((S 23 13) - 1)) + 1)))])
      refine lv_istore_n (lv' := [(2, .int (iI (S 32 ((5 * ((S 23 13) - 1)) + 1)))), (1, .int (iI (5 * ((S 23 13) - 1)))), (0, .ref (g.1 23))]) zx zb dX7_undo_46 rfl hl (by decide) rfl (fun ls hl => ?_)
      refine lv_aload_n zx zb dX7_undo_47 rfl (lv_at hl 2 rfl) ?_
      refine gf_X7_34 C0 hH dX7_undo_48 ?_
      refine lv_iload_n zx zb dX7_undo_51 rfl (lv_at hl 1 rfl) ?_
      refine al_32 C0 hH (by omega) (by omega) dX7_undo_52 ?_
      show W p l e _ s m args below meth c H _ _ _ _ (F0 m 53 ls [.int (iI (S 32 (5 * ((S 23 13) - 1))))])
      refine bz_ne (tgt := 87) zx zb dX7_undo_53 (by decide) ⟨by omega, by omega⟩ (fun zq53 => ?_) (fun zq53 => ?_)
      · refine lv_aload_n zx zb dX7_undo_87 rfl (lv_at hl 2 rfl) ?_
        refine gf_X7_34 C0 hH dX7_undo_88 ?_
        refine lv_iload_n zx zb dX7_undo_91 rfl (lv_at hl 1 rfl) ?_
        refine al_32 C0 hH (by omega) (by omega) dX7_undo_92 ?_
        show W p l e _ s m args below meth c H _ _ _ _ (F0 m 93 ls [.int (iI (S 32 (5 * ((S 23 13) - 1))))])
        refine bi_const (n := 1) zx zb dX7_undo_93 ?_
        refine bq_ne (tgt := 113) zx zb dX7_undo_94 (by decide) ⟨by omega, by omega⟩ ⟨by omega, by omega⟩ (fun zq94 => ?_) (fun zq94 => ?_)
        · exact absurd hk zq94
        · refine lv_aload_n zx zb dX7_undo_97 rfl (lv_at hl 2 rfl) ?_
          refine lv_iload_n zx zb dX7_undo_98 rfl (lv_at hl 0 rfl) ?_
          refine lv_aload_n zx zb dX7_undo_99 rfl (lv_at hl 2 rfl) ?_
          refine gf_X7_34 C0 hH dX7_undo_100 ?_
          refine lv_iload_n zx zb dX7_undo_103 rfl (lv_at hl 1 rfl) ?_
          refine bi_const (n := 2) zx zb dX7_undo_104 ?_
          refine bi_add zx zb dX7_undo_105 ?_
          refine al_32 C0 hH (by omega) (by omega) dX7_undo_106 ?_
          show W p l e _ s m args below meth c H _ _ _ _ (F0 m 107 ls [.int (iI (S 32 ((5 * ((S 23 13) - 1)) + 2))), .int (iI (S 32 ((5 * ((S 23 13) - 1)) + 1))), .ref (g.1 23)])
          refine cvN (rest := []) (As := [.int (iI (S 32 ((5 * ((S 23 13) - 1)) + 1))), .int (iI (S 32 ((5 * ((S 23 13) - 1)) + 2)))]) (b := g.1 23) C0 hH (c_X7_takes l g (st (st S 23 0 0) 23 13 ((S 23 13) - 1)) (S 32 ((5 * ((S 23 13) - 1)) + 1)) (S 32 ((5 * ((S 23 13) - 1)) + 2)) (by exact hz) (by exact hl0) (by exact hc)) kw_X7_93 ky_X7_takes ⟨Nat.le_of_ble_eq_true rfl, Nat.le_of_ble_eq_true rfl⟩ ⟨Nat.zero_le _, Nat.zero_le _⟩ 23 rfl rfl rfl hl.1 rfl (Nat.le_of_ble_eq_true rfl) dX7_undo_107 (fun H locs hH => ?_)
          refine lv_goto (tgt := 142) zx zb dX7_undo_110 (by decide) ?_
          refine lv_aload_n zx zb dX7_undo_142 rfl (lv_at hl 2 rfl) ?_
          refine gf_X7_59 C0 hH dX7_undo_143 ?_
          show W p l e _ s m args below meth c H _ _ _ _ (F0 m 146 ls [.int (iI ((S 23 13) - 1))])
          exact retI C0 hret hlk hH (by rfl) (rfl) dX7_undo_146
      · exact absurd (hk.symm.trans zq53) (by decide)
    · exact absurd zq16 (by decide)
  · exact absurd zq5 (by omega)
set_option maxRecDepth 100000 in
set_option maxHeartbeats 4000000 in
theorem c2_X7_undo (l : Launch) (g : gT) (S : gSt) (hdn : 0 ≤ S 23 13 ∧ S 23 13 ≤ 30) (hdp : 0 < S 23 13) (hk : (S 32 (5 * (S 23 13 - 1))) = 2) (hz : 0 ≤ (S 32 (5 * (S 23 13 - 1) + 1)) ∧ (S 32 (5 * (S 23 13 - 1) + 1)) < 8) (hl0 : 0 ≤ (S 32 (5 * (S 23 13 - 1) + 2)) ∧ (S 32 (5 * (S 23 13 - 1) + 2)) ≤ S 28 (S 32 (5 * (S 23 13 - 1) + 1))) (hc : S 28 (S 32 (5 * (S 23 13 - 1) + 1)) < 10) : MetG l g yX7_undo cX7_undo 3 (some .int) 1 25 [.ref (g.1 23)] S (some (.int (iI (S 23 13 - 1)))) (lnIn (st (st S 23 0 0) 23 13 ((S 23 13) - 1)) 28 26 27 (S 32 ((5 * ((S 23 13) - 1)) + 1)) (S 32 ((5 * ((S 23 13) - 1)) + 2)) (S 32 ((5 * ((S 23 13) - 1)) + 3)) (S 32 ((5 * ((S 23 13) - 1)) + 4))) := by
  refine bodyG (by decide +kernel) (Nat.le_of_ble_eq_true rfl) ?_
  intro p e s m args below meth c ls C0 hret hlk hl hH
  have zx := C0.1
  have zb := C0.2.1
  have hl : lv_has ls 3 [(0, .ref (g.1 23))] := hl
  obtain ⟨H, hHe⟩ : ∃ H : Heap, H = s.heap := ⟨_, rfl⟩
  rw [show (Hp g S s s.heap []) = Hp g S s H [] by rw [hHe]] at hH
  rw [← hHe]
  refine lv_aload_n zx zb dX7_undo_0 rfl (lv_at hl 0 rfl) ?_
  refine lv_aload_n zx zb dX7_undo_1 rfl (lv_at hl 0 rfl) ?_
  refine gf_X7_59 C0 hH dX7_undo_2 ?_
  refine bz_ne (tgt := 12) zx zb dX7_undo_5 (by decide) ⟨by omega, by omega⟩ (fun zq5 => ?_) (fun zq5 => ?_)
  · refine bi_const (n := 0) zx zb dX7_undo_12 ?_
    refine cvI (rest := []) (As := [.int (iI 0)]) (b := g.1 23) C0 hH (c_X7_isFine l g S 0 (by omega)) kw_X7_55 ky_X7_isFine ⟨Nat.le_of_ble_eq_true rfl, Nat.le_of_ble_eq_true rfl⟩ ⟨Nat.zero_le _, Nat.zero_le _⟩ 23 rfl rfl rfl hl.1 rfl (Nat.le_of_ble_eq_true rfl) dX7_undo_13 (fun H locs hH => ?_)
    show W p l e _ s m args below meth c H _ _ _ _ (F0 m 16 ls [.int (iI 1)])
    refine bz_ne (tgt := 21) zx zb dX7_undo_16 (by decide) ⟨by omega, by omega⟩ (fun zq16 => ?_) (fun zq16 => ?_)
    · refine lv_aload_n zx zb dX7_undo_21 rfl (lv_at hl 0 rfl) ?_
      refine lv_dup zx zb dX7_undo_22 rfl ?_
      refine gf_X7_59 C0 hH dX7_undo_23 ?_
      show W p l e _ s m args below meth c H _ _ _ _ (F0 m 26 ls [.int (iI (S 23 13)), .ref (g.1 23)])
      refine bi_const (n := 1) zx zb dX7_undo_26 ?_
      refine bi_sub zx zb dX7_undo_27 ?_
      refine pf_X7_59 C0 hH dX7_undo_28 (fun H locs hH => ?_)
      refine bi_const (n := 5) zx zb dX7_undo_31 ?_
      refine lv_aload_n zx zb dX7_undo_32 rfl (lv_at hl 0 rfl) ?_
      refine gf_X7_59 C0 hH dX7_undo_33 ?_
      show W p l e _ s m args below meth c H _ _ _ _ (F0 m 36 ls [.int (iI ((S 23 13) - 1)), .int (iI 5)])
      refine bi_mul zx zb dX7_undo_36 ?_
      refine lv_istore_n (lv' := [(1, .int (iI (5 * ((S 23 13) - 1)))), (0, .ref (g.1 23))]) zx zb dX7_undo_37 rfl hl (by decide) rfl (fun ls hl => ?_)
      refine lv_aload_n zx zb dX7_undo_38 rfl (lv_at hl 1 rfl) ?_
      refine gf_X7_34 C0 hH dX7_undo_39 ?_
      refine lv_iload_n zx zb dX7_undo_42 rfl (lv_at hl 0 rfl) ?_
      refine bi_const (n := 1) zx zb dX7_undo_43 ?_
      refine bi_add zx zb dX7_undo_44 ?_
      refine al_32 C0 hH (by omega) (by omega) dX7_undo_45 ?_
      show W p l e _ s m args below meth c H _ _ _ _ (F0 m 46 ls [.int (iI (S 32 ((5 * ((S 23 13) - 1)) + 1)))])
      refine lv_istore_n (lv' := [(2, .int (iI (S 32 ((5 * ((S 23 13) - 1)) + 1)))), (1, .int (iI (5 * ((S 23 13) - 1)))), (0, .ref (g.1 23))]) zx zb dX7_undo_46 rfl hl (by decide) rfl (fun ls hl => ?_)
      refine lv_aload_n zx zb dX7_undo_47 rfl (lv_at hl 2 rfl) ?_
      refine gf_X7_34 C0 hH dX7_undo_48 ?_
      refine lv_iload_n zx zb dX7_undo_51 rfl (lv_at hl 1 rfl) ?_
      refine al_32 C0 hH (by omega) (by omega) dX7_undo_52 ?_
      show W p l e _ s m args below meth c H _ _ _ _ (F0 m 53 ls [.int (iI (S 32 (5 * ((S 23 13) - 1))))])
      refine bz_ne (tgt := 87) zx zb dX7_undo_53 (by decide) ⟨by omega, by omega⟩ (fun zq53 => ?_) (fun zq53 => ?_)
      · refine lv_aload_n zx zb dX7_undo_87 rfl (lv_at hl 2 rfl) ?_
        refine gf_X7_34 C0 hH dX7_undo_88 ?_
        refine lv_iload_n zx zb dX7_undo_91 rfl (lv_at hl 1 rfl) ?_
        refine al_32 C0 hH (by omega) (by omega) dX7_undo_92 ?_
        show W p l e _ s m args below meth c H _ _ _ _ (F0 m 93 ls [.int (iI (S 32 (5 * ((S 23 13) - 1))))])
        refine bi_const (n := 1) zx zb dX7_undo_93 ?_
        refine bq_ne (tgt := 113) zx zb dX7_undo_94 (by decide) ⟨by omega, by omega⟩ ⟨by omega, by omega⟩ (fun zq94 => ?_) (fun zq94 => ?_)
        · refine lv_aload_n zx zb dX7_undo_113 rfl (lv_at hl 2 rfl) ?_
          refine lv_iload_n zx zb dX7_undo_114 rfl (lv_at hl 0 rfl) ?_
          refine lv_aload_n zx zb dX7_undo_115 rfl (lv_at hl 2 rfl) ?_
          refine gf_X7_34 C0 hH dX7_undo_116 ?_
          refine lv_iload_n zx zb dX7_undo_119 rfl (lv_at hl 1 rfl) ?_
          refine bi_const (n := 2) zx zb dX7_undo_120 ?_
          refine bi_add zx zb dX7_undo_121 ?_
          refine al_32 C0 hH (by omega) (by omega) dX7_undo_122 ?_
          show W p l e _ s m args below meth c H _ _ _ _ (F0 m 123 ls [.int (iI (S 32 ((5 * ((S 23 13) - 1)) + 2))), .int (iI (S 32 ((5 * ((S 23 13) - 1)) + 1))), .ref (g.1 23)])
          refine lv_aload_n zx zb dX7_undo_123 rfl (lv_at hl 2 rfl) ?_
          refine gf_X7_34 C0 hH dX7_undo_124 ?_
          refine lv_iload_n zx zb dX7_undo_127 rfl (lv_at hl 1 rfl) ?_
          refine bi_const (n := 3) zx zb dX7_undo_128 ?_
          refine bi_add zx zb dX7_undo_129 ?_
          refine al_32 C0 hH (by omega) (by omega) dX7_undo_130 ?_
          show W p l e _ s m args below meth c H _ _ _ _ (F0 m 131 ls [.int (iI (S 32 ((5 * ((S 23 13) - 1)) + 3))), .int (iI (S 32 ((5 * ((S 23 13) - 1)) + 2))), .int (iI (S 32 ((5 * ((S 23 13) - 1)) + 1))), .ref (g.1 23)])
          refine lv_aload_n zx zb dX7_undo_131 rfl (lv_at hl 2 rfl) ?_
          refine gf_X7_34 C0 hH dX7_undo_132 ?_
          refine lv_iload_n zx zb dX7_undo_135 rfl (lv_at hl 1 rfl) ?_
          refine bi_const (n := 4) zx zb dX7_undo_136 ?_
          refine bi_add zx zb dX7_undo_137 ?_
          refine al_32 C0 hH (by omega) (by omega) dX7_undo_138 ?_
          show W p l e _ s m args below meth c H _ _ _ _ (F0 m 139 ls [.int (iI (S 32 ((5 * ((S 23 13) - 1)) + 4))), .int (iI (S 32 ((5 * ((S 23 13) - 1)) + 3))), .int (iI (S 32 ((5 * ((S 23 13) - 1)) + 2))), .int (iI (S 32 ((5 * ((S 23 13) - 1)) + 1))), .ref (g.1 23)])
          refine cvN (rest := []) (As := [.int (iI (S 32 ((5 * ((S 23 13) - 1)) + 1))), .int (iI (S 32 ((5 * ((S 23 13) - 1)) + 2))), .int (iI (S 32 ((5 * ((S 23 13) - 1)) + 3))), .int (iI (S 32 ((5 * ((S 23 13) - 1)) + 4)))]) (b := g.1 23) C0 hH (c_X7_puts l g (st (st S 23 0 0) 23 13 ((S 23 13) - 1)) (S 32 ((5 * ((S 23 13) - 1)) + 1)) (S 32 ((5 * ((S 23 13) - 1)) + 2)) (S 32 ((5 * ((S 23 13) - 1)) + 3)) (S 32 ((5 * ((S 23 13) - 1)) + 4)) (by exact hz) (by exact hl0) (by exact hc)) kw_X7_89 ky_X7_puts ⟨Nat.le_of_ble_eq_true rfl, Nat.le_of_ble_eq_true rfl⟩ ⟨Nat.zero_le _, Nat.zero_le _⟩ 23 rfl rfl rfl hl.1 rfl (Nat.le_of_ble_eq_true rfl) dX7_undo_139 (fun H locs hH => ?_)
          refine lv_aload_n zx zb dX7_undo_142 rfl (lv_at hl 2 rfl) ?_
          refine gf_X7_59 C0 hH dX7_undo_143 ?_
          show W p l e _ s m args below meth c H _ _ _ _ (F0 m 146 ls [.int (iI ((S 23 13) - 1))])
          exact retI C0 hret hlk hH (by rfl) (rfl) dX7_undo_146
        · exact absurd (hk.symm.trans zq94) (by decide)
      · exact absurd (hk.symm.trans zq53) (by decide)
    · exact absurd zq16 (by decide)
  · exact absurd zq5 (by omega)
set_option maxRecDepth 100000 in
set_option maxHeartbeats 4000000 in
theorem f1_X7_undo (l : Launch) (g : gT) (S : gSt) (hdp : S 23 13 = 0) : MetG l g yX7_undo cX7_undo 3 (some .int) 1 21 [.ref (g.1 23)] S (some (.int (iI 0))) (st S 23 0 1) := by
  refine bodyG (by decide +kernel) (Nat.le_of_ble_eq_true rfl) ?_
  intro p e s m args below meth c ls C0 hret hlk hl hH
  have zx := C0.1
  have zb := C0.2.1
  have hl : lv_has ls 3 [(0, .ref (g.1 23))] := hl
  obtain ⟨H, hHe⟩ : ∃ H : Heap, H = s.heap := ⟨_, rfl⟩
  rw [show (Hp g S s s.heap []) = Hp g S s H [] by rw [hHe]] at hH
  rw [← hHe]
  refine lv_aload_n zx zb dX7_undo_0 rfl (lv_at hl 0 rfl) ?_
  refine lv_aload_n zx zb dX7_undo_1 rfl (lv_at hl 0 rfl) ?_
  refine gf_X7_59 C0 hH dX7_undo_2 ?_
  refine bz_ne (tgt := 12) zx zb dX7_undo_5 (by decide) ⟨by omega, by omega⟩ (fun zq5 => ?_) (fun zq5 => ?_)
  · exact absurd hdp zq5
  · refine bi_const (n := 1) zx zb dX7_undo_8 ?_
    refine lv_goto (tgt := 13) zx zb dX7_undo_9 (by decide) ?_
    refine cvI (rest := []) (As := [.int (iI 1)]) (b := g.1 23) C0 hH (c_X7_isFine l g S 1 (by omega)) kw_X7_55 ky_X7_isFine ⟨Nat.le_of_ble_eq_true rfl, Nat.le_of_ble_eq_true rfl⟩ ⟨Nat.zero_le _, Nat.zero_le _⟩ 23 rfl rfl rfl hl.1 rfl (Nat.le_of_ble_eq_true rfl) dX7_undo_13 (fun H locs hH => ?_)
    show W p l e _ s m args below meth c H _ _ _ _ (F0 m 16 ls [.int (iI 0)])
    refine bz_ne (tgt := 21) zx zb dX7_undo_16 (by decide) ⟨by omega, by omega⟩ (fun zq16 => ?_) (fun zq16 => ?_)
    · exact absurd zq16 (by decide)
    · refine bi_const (n := 0) zx zb dX7_undo_19 ?_
      exact retI C0 hret hlk hH (by rfl) (rfl) dX7_undo_20
set_option maxRecDepth 100000 in
set_option maxHeartbeats 4000000 in
theorem c_X7_stars (l : Launch) (g : gT) (S : gSt)  : MetG l g yX7_stars cX7_stars 1 (some .int) 0 0 [.ref (g.1 23)] S (some (.int (iI (S 23 3)))) (st S 23 0 0) := by
  refine bodyG (by decide +kernel) (Nat.le_of_ble_eq_true rfl) ?_
  intro p e s m args below meth c ls C0 hret hlk hl hH
  have zx := C0.1
  have zb := C0.2.1
  have hl : lv_has ls 1 [(0, .ref (g.1 23))] := hl
  obtain ⟨H, hHe⟩ : ∃ H : Heap, H = s.heap := ⟨_, rfl⟩
  rw [show (Hp g S s s.heap []) = Hp g S s H [] by rw [hHe]] at hH
  rw [← hHe]
  refine lv_aload_n zx zb dX7_stars_0 rfl (lv_at hl 0 rfl) ?_
  refine bi_const (n := 0) zx zb dX7_stars_1 ?_
  refine pf_X7_37 C0 hH dX7_stars_2 (fun H locs hH => ?_)
  refine lv_aload_n zx zb dX7_stars_5 rfl (lv_at hl 0 rfl) ?_
  refine gf_X7_41 C0 hH dX7_stars_6 ?_
  show W p l e _ s m args below meth c H _ _ _ _ (F0 m 9 ls [.int (iI (S 23 3))])
  exact retI C0 hret hlk hH (by rfl) (rfl) dX7_stars_9
set_option maxRecDepth 100000 in
set_option maxHeartbeats 4000000 in
theorem c_X7_figures (l : Launch) (g : gT) (S : gSt)  : MetG l g yX7_figures cX7_figures 1 (some .int) 0 0 [.ref (g.1 23)] S (some (.int (iI (S 23 7)))) (st S 23 0 0) := by
  refine bodyG (by decide +kernel) (Nat.le_of_ble_eq_true rfl) ?_
  intro p e s m args below meth c ls C0 hret hlk hl hH
  have zx := C0.1
  have zb := C0.2.1
  have hl : lv_has ls 1 [(0, .ref (g.1 23))] := hl
  obtain ⟨H, hHe⟩ : ∃ H : Heap, H = s.heap := ⟨_, rfl⟩
  rw [show (Hp g S s s.heap []) = Hp g S s H [] by rw [hHe]] at hH
  rw [← hHe]
  refine lv_aload_n zx zb dX7_figures_0 rfl (lv_at hl 0 rfl) ?_
  refine bi_const (n := 0) zx zb dX7_figures_1 ?_
  refine pf_X7_37 C0 hH dX7_figures_2 (fun H locs hH => ?_)
  refine lv_aload_n zx zb dX7_figures_5 rfl (lv_at hl 0 rfl) ?_
  refine gf_X7_48 C0 hH dX7_figures_6 ?_
  show W p l e _ s m args below meth c H _ _ _ _ (F0 m 9 ls [.int (iI (S 23 7))])
  exact retI C0 hret hlk hH (by rfl) (rfl) dX7_figures_9
set_option maxRecDepth 100000 in
set_option maxHeartbeats 4000000 in
theorem c_X7_lines (l : Launch) (g : gT) (S : gSt) (f : Int) (hnf : 0 ≤ S 23 7 ∧ S 23 7 ≤ 8) (hfo : 0 ≤ f ∧ f < S 23 7) : MetG l g yX7_lines cX7_lines 2 (some .int) 2 43 [.ref (g.1 23), .int (iI f)] S (some (.int (iI (S 28 f)))) (st S 23 0 0) := by
  refine bodyG (by decide +kernel) (Nat.le_of_ble_eq_true rfl) ?_
  intro p e s m args below meth c ls C0 hret hlk hl hH
  have zx := C0.1
  have zb := C0.2.1
  have hl : lv_has ls 2 [(0, .ref (g.1 23)), (1, .int (iI f))] := hl
  obtain ⟨H, hHe⟩ : ∃ H : Heap, H = s.heap := ⟨_, rfl⟩
  rw [show (Hp g S s s.heap []) = Hp g S s H [] by rw [hHe]] at hH
  rw [← hHe]
  refine lv_aload_n zx zb dX7_lines_0 rfl (lv_at hl 0 rfl) ?_
  refine lv_aload_n zx zb dX7_lines_1 rfl (lv_at hl 0 rfl) ?_
  refine lv_iload_n zx zb dX7_lines_2 rfl (lv_at hl 1 rfl) ?_
  refine cvI (rest := [.ref (g.1 23)]) (As := [.int (iI f)]) (b := g.1 23) C0 hH (c_X7_isFigure l g S f (by omega) (by omega)) kw_X7_80 ky_X7_isFigure ⟨Nat.le_of_ble_eq_true rfl, Nat.le_of_ble_eq_true rfl⟩ ⟨Nat.zero_le _, Nat.zero_le _⟩ 23 rfl rfl rfl hl.1 rfl (Nat.le_of_ble_eq_true rfl) dX7_lines_3 (fun H locs hH => ?_)
  rw [show (if 0 ≤ f ∧ f < S 23 7 then (1 : Int) else 0) = 1 from if_pos hfo]
  refine bz_eq (tgt := 13) zx zb dX7_lines_6 (by decide) ⟨by omega, by omega⟩ (fun zq6 => ?_) (fun zq6 => ?_)
  · exact absurd zq6 (by decide)
  · refine bi_const (n := 0) zx zb dX7_lines_9 ?_
    refine lv_goto (tgt := 14) zx zb dX7_lines_10 (by decide) ?_
    refine cvI (rest := []) (As := [.int (iI 0)]) (b := g.1 23) C0 hH (c_X7_isFine l g S 0 (by omega)) kw_X7_55 ky_X7_isFine ⟨Nat.le_of_ble_eq_true rfl, Nat.le_of_ble_eq_true rfl⟩ ⟨Nat.zero_le _, Nat.zero_le _⟩ 23 rfl rfl rfl hl.1 rfl (Nat.le_of_ble_eq_true rfl) dX7_lines_14 (fun H locs hH => ?_)
    show W p l e _ s m args below meth c H _ _ _ _ (F0 m 17 ls [.int (iI 1)])
    refine bz_eq (tgt := 29) zx zb dX7_lines_17 (by decide) ⟨by omega, by omega⟩ (fun zq17 => ?_) (fun zq17 => ?_)
    · exact absurd zq17 (by decide)
    · refine lv_aload_n zx zb dX7_lines_20 rfl (lv_at hl 0 rfl) ?_
      refine gf_X7_22 C0 hH dX7_lines_21 ?_
      refine lv_iload_n zx zb dX7_lines_24 rfl (lv_at hl 1 rfl) ?_
      refine al_28 C0 hH (by omega) (by omega) dX7_lines_25 ?_
      show W p l e _ s m args below meth c H _ _ _ _ (F0 m 26 ls [.int (iI (S 28 f))])
      refine lv_goto (tgt := 30) zx zb dX7_lines_26 (by decide) ?_
      exact retI C0 hret hlk hH (by rfl) (rfl) dX7_lines_30
set_option maxRecDepth 100000 in
set_option maxHeartbeats 4000000 in
theorem f1_X7_lines (l : Launch) (g : gT) (S : gSt) (f : Int) (hnf : 0 ≤ S 23 7 ∧ S 23 7 ≤ 8) (hr_f : -2147483648 ≤ f ∧ f < 2147483648) (hfb : ¬(0 ≤ f ∧ f < S 23 7)) : MetG l g yX7_lines cX7_lines 2 (some .int) 2 43 [.ref (g.1 23), .int (iI f)] S (some (.int (iI 0))) (st S 23 0 1) := by
  refine bodyG (by decide +kernel) (Nat.le_of_ble_eq_true rfl) ?_
  intro p e s m args below meth c ls C0 hret hlk hl hH
  have zx := C0.1
  have zb := C0.2.1
  have hl : lv_has ls 2 [(0, .ref (g.1 23)), (1, .int (iI f))] := hl
  obtain ⟨H, hHe⟩ : ∃ H : Heap, H = s.heap := ⟨_, rfl⟩
  rw [show (Hp g S s s.heap []) = Hp g S s H [] by rw [hHe]] at hH
  rw [← hHe]
  refine lv_aload_n zx zb dX7_lines_0 rfl (lv_at hl 0 rfl) ?_
  refine lv_aload_n zx zb dX7_lines_1 rfl (lv_at hl 0 rfl) ?_
  refine lv_iload_n zx zb dX7_lines_2 rfl (lv_at hl 1 rfl) ?_
  refine cvI (rest := [.ref (g.1 23)]) (As := [.int (iI f)]) (b := g.1 23) C0 hH (c_X7_isFigure l g S f (by omega) (by omega)) kw_X7_80 ky_X7_isFigure ⟨Nat.le_of_ble_eq_true rfl, Nat.le_of_ble_eq_true rfl⟩ ⟨Nat.zero_le _, Nat.zero_le _⟩ 23 rfl rfl rfl hl.1 rfl (Nat.le_of_ble_eq_true rfl) dX7_lines_3 (fun H locs hH => ?_)
  rw [show (if 0 ≤ f ∧ f < S 23 7 then (1 : Int) else 0) = 0 from if_neg hfb]
  refine bz_eq (tgt := 13) zx zb dX7_lines_6 (by decide) ⟨by omega, by omega⟩ (fun zq6 => ?_) (fun zq6 => ?_)
  · refine bi_const (n := 1) zx zb dX7_lines_13 ?_
    refine cvI (rest := []) (As := [.int (iI 1)]) (b := g.1 23) C0 hH (c_X7_isFine l g S 1 (by omega)) kw_X7_55 ky_X7_isFine ⟨Nat.le_of_ble_eq_true rfl, Nat.le_of_ble_eq_true rfl⟩ ⟨Nat.zero_le _, Nat.zero_le _⟩ 23 rfl rfl rfl hl.1 rfl (Nat.le_of_ble_eq_true rfl) dX7_lines_14 (fun H locs hH => ?_)
    show W p l e _ s m args below meth c H _ _ _ _ (F0 m 17 ls [.int (iI 0)])
    refine bz_eq (tgt := 29) zx zb dX7_lines_17 (by decide) ⟨by omega, by omega⟩ (fun zq17 => ?_) (fun zq17 => ?_)
    · refine bi_const (n := 0) zx zb dX7_lines_29 ?_
      exact retI C0 hret hlk hH (by rfl) (rfl) dX7_lines_30
    · exact absurd zq17 (by decide)
  · exact absurd zq6 (by decide)
set_option maxRecDepth 100000 in
set_option maxHeartbeats 4000000 in
theorem c_X7_placeOf (l : Launch) (g : gT) (S : gSt) (z : Int) (hn1 : 0 ≤ S 23 3 ∧ S 23 3 ≤ 24) (hzo : 0 ≤ z ∧ z < S 23 3) : MetG l g yX7_placeOf cX7_placeOf 2 (some .int) 2 43 [.ref (g.1 23), .int (iI z)] S (some (.int (iI (1000 * S 24 z + S 25 z + 90)))) (st S 23 0 0) := by
  refine bodyG (by decide +kernel) (Nat.le_of_ble_eq_true rfl) ?_
  intro p e s m args below meth c ls C0 hret hlk hl hH
  have zx := C0.1
  have zb := C0.2.1
  have hl : lv_has ls 2 [(0, .ref (g.1 23)), (1, .int (iI z))] := hl
  obtain ⟨H, hHe⟩ : ∃ H : Heap, H = s.heap := ⟨_, rfl⟩
  rw [show (Hp g S s s.heap []) = Hp g S s H [] by rw [hHe]] at hH
  rw [← hHe]
  refine lv_aload_n zx zb dX7_placeOf_0 rfl (lv_at hl 0 rfl) ?_
  refine lv_aload_n zx zb dX7_placeOf_1 rfl (lv_at hl 0 rfl) ?_
  refine lv_iload_n zx zb dX7_placeOf_2 rfl (lv_at hl 1 rfl) ?_
  refine cvI (rest := [.ref (g.1 23)]) (As := [.int (iI z)]) (b := g.1 23) C0 hH (c_X7_isStar l g S z (by omega) (by omega)) kw_X7_62 ky_X7_isStar ⟨Nat.le_of_ble_eq_true rfl, Nat.le_of_ble_eq_true rfl⟩ ⟨Nat.zero_le _, Nat.zero_le _⟩ 23 rfl rfl rfl hl.1 rfl (Nat.le_of_ble_eq_true rfl) dX7_placeOf_3 (fun H locs hH => ?_)
  rw [show (if 0 ≤ z ∧ z < S 23 3 then (1 : Int) else 0) = 1 from if_pos hzo]
  refine bz_eq (tgt := 13) zx zb dX7_placeOf_6 (by decide) ⟨by omega, by omega⟩ (fun zq6 => ?_) (fun zq6 => ?_)
  · exact absurd zq6 (by decide)
  · refine bi_const (n := 0) zx zb dX7_placeOf_9 ?_
    refine lv_goto (tgt := 14) zx zb dX7_placeOf_10 (by decide) ?_
    refine cvI (rest := []) (As := [.int (iI 0)]) (b := g.1 23) C0 hH (c_X7_isFine l g S 0 (by omega)) kw_X7_55 ky_X7_isFine ⟨Nat.le_of_ble_eq_true rfl, Nat.le_of_ble_eq_true rfl⟩ ⟨Nat.zero_le _, Nat.zero_le _⟩ 23 rfl rfl rfl hl.1 rfl (Nat.le_of_ble_eq_true rfl) dX7_placeOf_14 (fun H locs hH => ?_)
    show W p l e _ s m args below meth c H _ _ _ _ (F0 m 17 ls [.int (iI 1)])
    refine bz_eq (tgt := 43) zx zb dX7_placeOf_17 (by decide) ⟨by omega, by omega⟩ (fun zq17 => ?_) (fun zq17 => ?_)
    · exact absurd zq17 (by decide)
    · refine bi_sip (n := 1000) zx zb dX7_placeOf_20 (by decide) ?_
      refine lv_aload_n zx zb dX7_placeOf_23 rfl (lv_at hl 0 rfl) ?_
      refine gf_X7_7 C0 hH dX7_placeOf_24 ?_
      refine lv_iload_n zx zb dX7_placeOf_27 rfl (lv_at hl 1 rfl) ?_
      refine al_24 C0 hH (by omega) (by omega) dX7_placeOf_28 ?_
      show W p l e _ s m args below meth c H _ _ _ _ (F0 m 29 ls [.int (iI (S 24 z)), .int (iI 1000)])
      refine bi_mul zx zb dX7_placeOf_29 ?_
      refine lv_aload_n zx zb dX7_placeOf_30 rfl (lv_at hl 0 rfl) ?_
      refine gf_X7_13 C0 hH dX7_placeOf_31 ?_
      refine lv_iload_n zx zb dX7_placeOf_34 rfl (lv_at hl 1 rfl) ?_
      refine al_25 C0 hH (by omega) (by omega) dX7_placeOf_35 ?_
      show W p l e _ s m args below meth c H _ _ _ _ (F0 m 36 ls [.int (iI (S 25 z)), .int (iI (1000 * (S 24 z)))])
      refine bi_add zx zb dX7_placeOf_36 ?_
      refine bi_bip (n := 90) zx zb dX7_placeOf_37 (by decide) ?_
      refine bi_add zx zb dX7_placeOf_39 ?_
      refine lv_goto (tgt := 44) zx zb dX7_placeOf_40 (by decide) ?_
      exact retI C0 hret hlk hH (by rfl) (rfl) dX7_placeOf_44
set_option maxRecDepth 100000 in
set_option maxHeartbeats 4000000 in
theorem f1_X7_placeOf (l : Launch) (g : gT) (S : gSt) (z : Int) (hn1 : 0 ≤ S 23 3 ∧ S 23 3 ≤ 24) (hr_z : -2147483648 ≤ z ∧ z < 2147483648) (hzb : ¬(0 ≤ z ∧ z < S 23 3)) : MetG l g yX7_placeOf cX7_placeOf 2 (some .int) 2 43 [.ref (g.1 23), .int (iI z)] S (some (.int (iI 0))) (st S 23 0 1) := by
  refine bodyG (by decide +kernel) (Nat.le_of_ble_eq_true rfl) ?_
  intro p e s m args below meth c ls C0 hret hlk hl hH
  have zx := C0.1
  have zb := C0.2.1
  have hl : lv_has ls 2 [(0, .ref (g.1 23)), (1, .int (iI z))] := hl
  obtain ⟨H, hHe⟩ : ∃ H : Heap, H = s.heap := ⟨_, rfl⟩
  rw [show (Hp g S s s.heap []) = Hp g S s H [] by rw [hHe]] at hH
  rw [← hHe]
  refine lv_aload_n zx zb dX7_placeOf_0 rfl (lv_at hl 0 rfl) ?_
  refine lv_aload_n zx zb dX7_placeOf_1 rfl (lv_at hl 0 rfl) ?_
  refine lv_iload_n zx zb dX7_placeOf_2 rfl (lv_at hl 1 rfl) ?_
  refine cvI (rest := [.ref (g.1 23)]) (As := [.int (iI z)]) (b := g.1 23) C0 hH (c_X7_isStar l g S z (by omega) (by omega)) kw_X7_62 ky_X7_isStar ⟨Nat.le_of_ble_eq_true rfl, Nat.le_of_ble_eq_true rfl⟩ ⟨Nat.zero_le _, Nat.zero_le _⟩ 23 rfl rfl rfl hl.1 rfl (Nat.le_of_ble_eq_true rfl) dX7_placeOf_3 (fun H locs hH => ?_)
  rw [show (if 0 ≤ z ∧ z < S 23 3 then (1 : Int) else 0) = 0 from if_neg hzb]
  refine bz_eq (tgt := 13) zx zb dX7_placeOf_6 (by decide) ⟨by omega, by omega⟩ (fun zq6 => ?_) (fun zq6 => ?_)
  · refine bi_const (n := 1) zx zb dX7_placeOf_13 ?_
    refine cvI (rest := []) (As := [.int (iI 1)]) (b := g.1 23) C0 hH (c_X7_isFine l g S 1 (by omega)) kw_X7_55 ky_X7_isFine ⟨Nat.le_of_ble_eq_true rfl, Nat.le_of_ble_eq_true rfl⟩ ⟨Nat.zero_le _, Nat.zero_le _⟩ 23 rfl rfl rfl hl.1 rfl (Nat.le_of_ble_eq_true rfl) dX7_placeOf_14 (fun H locs hH => ?_)
    show W p l e _ s m args below meth c H _ _ _ _ (F0 m 17 ls [.int (iI 0)])
    refine bz_eq (tgt := 43) zx zb dX7_placeOf_17 (by decide) ⟨by omega, by omega⟩ (fun zq17 => ?_) (fun zq17 => ?_)
    · refine bi_const (n := 0) zx zb dX7_placeOf_43 ?_
      exact retI C0 hret hlk hH (by rfl) (rfl) dX7_placeOf_44
    · exact absurd zq17 (by decide)
  · exact absurd zq6 (by decide)
set_option maxRecDepth 100000 in
set_option maxHeartbeats 4000000 in
theorem c_X7_figureOf (l : Launch) (g : gT) (S : gSt) (z : Int) (hn1 : 0 ≤ S 23 3 ∧ S 23 3 ≤ 24) (hzo : 0 ≤ z ∧ z < S 23 3) (hnf : 0 ≤ S 23 7 ∧ S 23 7 ≤ 8) (hN : okN (S 28)) (hE : okE (S 28) (S 26)) (hO : okE (S 28) (S 27)) : MetG l g yX7_figureOf cX7_figureOf 2 (some .int) 2 47 [.ref (g.1 23), .int (iI z)] S (some (.int (iI (laI (S 23 7) (S 28) (S 26) (S 27) z)))) (st S 23 0 0) := by
  refine bodyG (by decide +kernel) (Nat.le_of_ble_eq_true rfl) ?_
  intro p e s m args below meth c ls C0 hret hlk hl hH
  have zx := C0.1
  have zb := C0.2.1
  have hl : lv_has ls 2 [(0, .ref (g.1 23)), (1, .int (iI z))] := hl
  obtain ⟨H, hHe⟩ : ∃ H : Heap, H = s.heap := ⟨_, rfl⟩
  rw [show (Hp g S s s.heap []) = Hp g S s H [] by rw [hHe]] at hH
  rw [← hHe]
  refine lv_aload_n zx zb dX7_figureOf_0 rfl (lv_at hl 0 rfl) ?_
  refine lv_aload_n zx zb dX7_figureOf_1 rfl (lv_at hl 0 rfl) ?_
  refine lv_iload_n zx zb dX7_figureOf_2 rfl (lv_at hl 1 rfl) ?_
  refine cvI (rest := [.ref (g.1 23)]) (As := [.int (iI z)]) (b := g.1 23) C0 hH (c_X7_isStar l g S z (by omega) (by omega)) kw_X7_62 ky_X7_isStar ⟨Nat.le_of_ble_eq_true rfl, Nat.le_of_ble_eq_true rfl⟩ ⟨Nat.zero_le _, Nat.zero_le _⟩ 23 rfl rfl rfl hl.1 rfl (Nat.le_of_ble_eq_true rfl) dX7_figureOf_3 (fun H locs hH => ?_)
  rw [show (if 0 ≤ z ∧ z < S 23 3 then (1 : Int) else 0) = 1 from if_pos hzo]
  refine bz_eq (tgt := 13) zx zb dX7_figureOf_6 (by decide) ⟨by omega, by omega⟩ (fun zq6 => ?_) (fun zq6 => ?_)
  · exact absurd zq6 (by decide)
  · refine bi_const (n := 0) zx zb dX7_figureOf_9 ?_
    refine lv_goto (tgt := 14) zx zb dX7_figureOf_10 (by decide) ?_
    refine cvI (rest := []) (As := [.int (iI 0)]) (b := g.1 23) C0 hH (c_X7_isFine l g S 0 (by omega)) kw_X7_55 ky_X7_isFine ⟨Nat.le_of_ble_eq_true rfl, Nat.le_of_ble_eq_true rfl⟩ ⟨Nat.zero_le _, Nat.zero_le _⟩ 23 rfl rfl rfl hl.1 rfl (Nat.le_of_ble_eq_true rfl) dX7_figureOf_14 (fun H locs hH => ?_)
    show W p l e _ s m args below meth c H _ _ _ _ (F0 m 17 ls [.int (iI 1)])
    refine bz_eq (tgt := 28) zx zb dX7_figureOf_17 (by decide) ⟨by omega, by omega⟩ (fun zq17 => ?_) (fun zq17 => ?_)
    · exact absurd zq17 (by decide)
    · refine lv_aload_n zx zb dX7_figureOf_20 rfl (lv_at hl 0 rfl) ?_
      refine lv_iload_n zx zb dX7_figureOf_21 rfl (lv_at hl 1 rfl) ?_
      refine cvI (rest := []) (As := [.int (iI z)]) (b := g.1 23) C0 hH (c_X7_figureNow l g (st S 23 0 0) z (by omega) (hnf) (hN) (hE) (hO)) kw_X7_76 ky_X7_figureNow ⟨Nat.le_of_ble_eq_true rfl, Nat.le_of_ble_eq_true rfl⟩ ⟨Nat.zero_le _, Nat.zero_le _⟩ 23 rfl rfl rfl hl.1 rfl (Nat.le_of_ble_eq_true rfl) dX7_figureOf_22 (fun H locs hH => ?_)
      show W p l e _ s m args below meth c H _ _ _ _ (F0 m 25 ls [.int (iI (laI (S 23 7) (S 28) (S 26) (S 27) z))])
      refine lv_goto (tgt := 29) zx zb dX7_figureOf_25 (by decide) ?_
      exact retI C0 hret hlk hH (by rfl) (rfl) dX7_figureOf_29
set_option maxRecDepth 100000 in
set_option maxHeartbeats 4000000 in
theorem f1_X7_figureOf (l : Launch) (g : gT) (S : gSt) (z : Int) (hn1 : 0 ≤ S 23 3 ∧ S 23 3 ≤ 24) (hr_z : -2147483648 ≤ z ∧ z < 2147483648) (hzb : ¬(0 ≤ z ∧ z < S 23 3)) : MetG l g yX7_figureOf cX7_figureOf 2 (some .int) 2 43 [.ref (g.1 23), .int (iI z)] S (some (.int (iI 0))) (st S 23 0 1) := by
  refine bodyG (by decide +kernel) (Nat.le_of_ble_eq_true rfl) ?_
  intro p e s m args below meth c ls C0 hret hlk hl hH
  have zx := C0.1
  have zb := C0.2.1
  have hl : lv_has ls 2 [(0, .ref (g.1 23)), (1, .int (iI z))] := hl
  obtain ⟨H, hHe⟩ : ∃ H : Heap, H = s.heap := ⟨_, rfl⟩
  rw [show (Hp g S s s.heap []) = Hp g S s H [] by rw [hHe]] at hH
  rw [← hHe]
  refine lv_aload_n zx zb dX7_figureOf_0 rfl (lv_at hl 0 rfl) ?_
  refine lv_aload_n zx zb dX7_figureOf_1 rfl (lv_at hl 0 rfl) ?_
  refine lv_iload_n zx zb dX7_figureOf_2 rfl (lv_at hl 1 rfl) ?_
  refine cvI (rest := [.ref (g.1 23)]) (As := [.int (iI z)]) (b := g.1 23) C0 hH (c_X7_isStar l g S z (by omega) (by omega)) kw_X7_62 ky_X7_isStar ⟨Nat.le_of_ble_eq_true rfl, Nat.le_of_ble_eq_true rfl⟩ ⟨Nat.zero_le _, Nat.zero_le _⟩ 23 rfl rfl rfl hl.1 rfl (Nat.le_of_ble_eq_true rfl) dX7_figureOf_3 (fun H locs hH => ?_)
  rw [show (if 0 ≤ z ∧ z < S 23 3 then (1 : Int) else 0) = 0 from if_neg hzb]
  refine bz_eq (tgt := 13) zx zb dX7_figureOf_6 (by decide) ⟨by omega, by omega⟩ (fun zq6 => ?_) (fun zq6 => ?_)
  · refine bi_const (n := 1) zx zb dX7_figureOf_13 ?_
    refine cvI (rest := []) (As := [.int (iI 1)]) (b := g.1 23) C0 hH (c_X7_isFine l g S 1 (by omega)) kw_X7_55 ky_X7_isFine ⟨Nat.le_of_ble_eq_true rfl, Nat.le_of_ble_eq_true rfl⟩ ⟨Nat.zero_le _, Nat.zero_le _⟩ 23 rfl rfl rfl hl.1 rfl (Nat.le_of_ble_eq_true rfl) dX7_figureOf_14 (fun H locs hH => ?_)
    show W p l e _ s m args below meth c H _ _ _ _ (F0 m 17 ls [.int (iI 0)])
    refine bz_eq (tgt := 28) zx zb dX7_figureOf_17 (by decide) ⟨by omega, by omega⟩ (fun zq17 => ?_) (fun zq17 => ?_)
    · refine bi_const (n := 0) zx zb dX7_figureOf_28 ?_
      exact retI C0 hret hlk hH (by rfl) (rfl) dX7_figureOf_29
    · exact absurd zq17 (by decide)
  · exact absurd zq6 (by decide)
set_option maxRecDepth 100000 in
set_option maxHeartbeats 4000000 in
theorem c_X7_crossings (l : Launch) (g : gT) (S : gSt) (f q : Int) (hnf : 0 ≤ S 23 7 ∧ S 23 7 ≤ 8) (hfo : 0 ≤ f ∧ f < S 23 7) (hqo : 0 ≤ q ∧ q < S 23 7) (hN : okN (S 28)) (hE : okE (S 28) (S 26)) (hO : okE (S 28) (S 27)) (hC : okC (S 24) (S 25)) : MetG l g yX7_crossings cX7_crossings 6 (some .int) 2 52 [.ref (g.1 23), .int (iI f), .int (iI q)] S (some (.int (iI (cmI (S 28) (S 26) (S 27) (S 24) (S 25) f q)))) (st S 23 0 0) := by
  refine bodyG (by decide +kernel) (Nat.le_of_ble_eq_true rfl) ?_
  intro p e s m args below meth c ls C0 hret hlk hl hH
  have zx := C0.1
  have zb := C0.2.1
  have hl : lv_has ls 6 [(0, .ref (g.1 23)), (1, .int (iI f)), (2, .int (iI q))] := hl
  have L38 : ∀ (μ : Nat) (i : Int) (a : Int), (10 * f + S 28 f - i).toNat = μ → (10 * f ≤ i ∧ i ≤ 10 * f + S 28 f) → (cmI (S 28) (S 26) (S 27) (S 24) (S 25) f q = lpF (cmF (S 28 q) (S 24) (S 25) (S 26) (S 27) f q) (10 * f + S 28 f - i).toNat i a) → ∀ (H : Heap) (locs : List Loc), Hp g (st S 23 0 0) s H locs → ∀ ls : Array Slot, lv_has ls 6 [(0, .ref (g.1 23)), (1, .int (iI f)), (2, .int (iI q)), (3, .int (iI a)), (4, .int (iI i))] → W p l e { frames := 2, cells := 0, slots := 0, locals := 52 } s m args below meth c H locs 0 0 (MQ below (RetG g (some (.int (iI (cmI (S 28) (S 26) (S 27) (S 24) (S 25) f q)))) (st S 23 0 0)) args s 0 0 (oA g)) (F0 m 38 ls []) := by
    refine lpN (fun μ38 ih38 => ?_)
    intro i a hμ38 hi hR H locs hH ls hl
    have L60 : ∀ (μ : Nat) (b : Int) (j : Int), (10 * q + S 28 q - j).toNat = μ → (i < 10 * f + S 28 f) → (10 * q ≤ j ∧ j ≤ 10 * q + S 28 q) → (cmI (S 28) (S 26) (S 27) (S 24) (S 25) f q = lpF (cmF (S 28 q) (S 24) (S 25) (S 26) (S 27) f q) (10 * f + S 28 f - (i + 1)).toNat (i + 1) (lpF (cmN (S 24) (S 25) (S 26) (S 27) f q i) (10 * q + S 28 q - j).toNat j b)) → ∀ (H : Heap) (locs : List Loc), Hp g (st S 23 0 0) s H locs → ∀ ls : Array Slot, lv_has ls 6 [(0, .ref (g.1 23)), (1, .int (iI f)), (2, .int (iI q)), (3, .int (iI b)), (4, .int (iI i)), (5, .int (iI j))] → W p l e { frames := 2, cells := 0, slots := 0, locals := 52 } s m args below meth c H locs 0 0 (MQ below (RetG g (some (.int (iI (cmI (S 28) (S 26) (S 27) (S 24) (S 25) f q)))) (st S 23 0 0)) args s 0 0 (oA g)) (F0 m 60 ls []) := by
      refine lpN (fun μ60 ih60 => ?_)
      intro b j hμ60 hi2 hj hS H locs hH ls hl
      have hn2 := hN q (by omega) (by omega)
      have hn := hN f (by omega) (by omega)
      refine lv_iload zx zb dX7_crossings_60 (lv_at hl 5 rfl) ?_
      refine bi_bip (n := 10) zx zb dX7_crossings_62 (by decide) ?_
      refine lv_iload_n zx zb dX7_crossings_64 rfl (lv_at hl 2 rfl) ?_
      refine bi_mul zx zb dX7_crossings_65 ?_
      refine lv_aload_n zx zb dX7_crossings_66 rfl (lv_at hl 0 rfl) ?_
      refine gf_X7_22 C0 hH dX7_crossings_67 ?_
      refine lv_iload_n zx zb dX7_crossings_70 rfl (lv_at hl 2 rfl) ?_
      refine al_28 C0 hH (by omega) (by omega) dX7_crossings_71 ?_
      show W p l e _ s m args below meth c H _ _ _ _ (F0 m 72 ls [.int (iI (S 28 q)), .int (iI (10 * q)), .int (iI j)])
      refine bi_add zx zb dX7_crossings_72 ?_
      refine bq_ge (tgt := 113) zx zb dX7_crossings_73 (by decide) ⟨by omega, by omega⟩ ⟨by omega, by omega⟩ (fun zq73 => ?_) (fun zq73 => ?_)
      · refine bi_inc (k0 := 4) (n := 1) (lv' := [(4, .int (iI (i + 1))), (0, .ref (g.1 23)), (1, .int (iI f)), (2, .int (iI q)), (3, .int (iI b)), (5, .int (iI j))]) zx zb dX7_crossings_113 hl rfl (by decide) rfl (fun ls hl => ?_)
        refine lv_goto (tgt := 38) zx zb dX7_crossings_116 (by decide) ?_
        exact ih38 ((10 * f + S 28 f - (i + 1)).toNat) (by omega) (i + 1) b rfl (by omega) (by rw [hS, lpF_e (n := 10 * q + S 28 q) zq73]) _ _ hH ls (lv_sub hl [1, 2, 3, 4, 0] rfl)
      · refine lv_iload_n zx zb dX7_crossings_76 rfl (lv_at hl 3 rfl) ?_
        refine lv_iload_n zx zb dX7_crossings_77 rfl (lv_at hl 1 rfl) ?_
        refine lv_iload_n zx zb dX7_crossings_78 rfl (lv_at hl 2 rfl) ?_
        refine bq_ne (tgt := 89) zx zb dX7_crossings_79 (by decide) ⟨by omega, by omega⟩ ⟨by omega, by omega⟩ (fun zq79 => ?_) (fun zq79 => ?_)
        · have e1 := hE f (i - 10 * f) (by omega) (by omega) (by omega) (by omega)
          have o1 := hO f (i - 10 * f) (by omega) (by omega) (by omega) (by omega)
          have e2 := hE q (j - 10 * q) (by omega) (by omega) (by omega) (by omega)
          have o2 := hO q (j - 10 * q) (by omega) (by omega) (by omega) (by omega)
          rw [show 10 * f + (i - 10 * f) = i by omega] at e1 o1
          rw [show 10 * q + (j - 10 * q) = j by omega] at e2 o2
          refine lv_aload_n zx zb dX7_crossings_89 rfl (lv_at hl 0 rfl) ?_
          refine lv_iload zx zb dX7_crossings_90 (lv_at hl 4 rfl) ?_
          refine lv_iload zx zb dX7_crossings_92 (lv_at hl 5 rfl) ?_
          refine cvI (rest := [.int (iI b)]) (As := [.int (iI i), .int (iI j)]) (b := g.1 23) C0 hH (c_X7_cross l g (st S 23 0 0) i j (by omega) (by omega) (by exact e1) (by exact o1) (by exact e2) (by exact o2) (hC)) kw_X7_105 ky_X7_cross ⟨Nat.le_of_ble_eq_true rfl, Nat.le_of_ble_eq_true rfl⟩ ⟨Nat.zero_le _, Nat.zero_le _⟩ 23 rfl rfl rfl hl.1 rfl (Nat.le_of_ble_eq_true rfl) dX7_crossings_94 (fun H locs hH => ?_)
          show W p l e _ s m args below meth c H _ _ _ _ (F0 m 97 ls [.int (iI (if crM (S 24) (S 25) (S 26) (S 27) i j = true then 1 else 0)), .int (iI b)])
          have hb97 := brg (crM (S 24) (S 25) (S 26) (S 27) i j)
          refine bz_eq (tgt := 104) zx zb dX7_crossings_97 (by decide) ⟨by omega, by omega⟩ (fun zq97 => ?_) (fun zq97 => ?_)
          · refine bi_const (n := 0) zx zb dX7_crossings_104 ?_
            refine bi_add zx zb dX7_crossings_105 ?_
            refine lv_istore_n (lv' := [(3, .int (iI (b + 0))), (0, .ref (g.1 23)), (1, .int (iI f)), (2, .int (iI q)), (4, .int (iI i)), (5, .int (iI j))]) zx zb dX7_crossings_106 rfl hl (by decide) rfl (fun ls hl => ?_)
            refine bi_inc (k0 := 5) (n := 1) (lv' := [(5, .int (iI (j + 1))), (3, .int (iI (b + 0))), (0, .ref (g.1 23)), (1, .int (iI f)), (2, .int (iI q)), (4, .int (iI i))]) zx zb dX7_crossings_107 hl rfl (by decide) rfl (fun ls hl => ?_)
            refine lv_goto (tgt := 60) zx zb dX7_crossings_110 (by decide) ?_
            exact ih60 ((10 * q + S 28 q - (j + 1)).toNat) (by omega) (b + 0) (j + 1) rfl (by omega) (by omega) (by first | (rw [hS, lpF_s2 (n := 10 * q + S 28 q) zq73, show (cmN (S 24) (S 25) (S 26) (S 27) f q i) j b = b + 0 from (cmN_0a (b0 zq97)).trans (Int.add_zero b).symm]; done) | (rw [hS, lpF_s2 (n := 10 * q + S 28 q) zq73, show (cmN (S 24) (S 25) (S 26) (S 27) f q i) j b = b + 0 from (cmN_0b zq79 zq86).trans (Int.add_zero b).symm]; done) | (rw [hS, lpF_s2 (n := 10 * q + S 28 q) zq73, show (cmN (S 24) (S 25) (S 26) (S 27) f q i) j b = b + 1 from cmN_1a (b1 zq97) zq79]; done) | (rw [hS, lpF_s2 (n := 10 * q + S 28 q) zq73, show (cmN (S 24) (S 25) (S 26) (S 27) f q i) j b = b + 1 from cmN_1b (b1 zq97) zq86]; done)) _ _ hH ls (lv_sub hl [2, 3, 4, 1, 5, 0] rfl)
          · refine bi_const (n := 1) zx zb dX7_crossings_100 ?_
            refine lv_goto (tgt := 105) zx zb dX7_crossings_101 (by decide) ?_
            refine bi_add zx zb dX7_crossings_105 ?_
            refine lv_istore_n (lv' := [(3, .int (iI (b + 1))), (0, .ref (g.1 23)), (1, .int (iI f)), (2, .int (iI q)), (4, .int (iI i)), (5, .int (iI j))]) zx zb dX7_crossings_106 rfl hl (by decide) rfl (fun ls hl => ?_)
            refine bi_inc (k0 := 5) (n := 1) (lv' := [(5, .int (iI (j + 1))), (3, .int (iI (b + 1))), (0, .ref (g.1 23)), (1, .int (iI f)), (2, .int (iI q)), (4, .int (iI i))]) zx zb dX7_crossings_107 hl rfl (by decide) rfl (fun ls hl => ?_)
            refine lv_goto (tgt := 60) zx zb dX7_crossings_110 (by decide) ?_
            exact ih60 ((10 * q + S 28 q - (j + 1)).toNat) (by omega) (b + 1) (j + 1) rfl (by omega) (by omega) (by first | (rw [hS, lpF_s2 (n := 10 * q + S 28 q) zq73, show (cmN (S 24) (S 25) (S 26) (S 27) f q i) j b = b + 0 from (cmN_0a (b0 zq97)).trans (Int.add_zero b).symm]; done) | (rw [hS, lpF_s2 (n := 10 * q + S 28 q) zq73, show (cmN (S 24) (S 25) (S 26) (S 27) f q i) j b = b + 0 from (cmN_0b zq79 zq86).trans (Int.add_zero b).symm]; done) | (rw [hS, lpF_s2 (n := 10 * q + S 28 q) zq73, show (cmN (S 24) (S 25) (S 26) (S 27) f q i) j b = b + 1 from cmN_1a (b1 zq97) zq79]; done) | (rw [hS, lpF_s2 (n := 10 * q + S 28 q) zq73, show (cmN (S 24) (S 25) (S 26) (S 27) f q i) j b = b + 1 from cmN_1b (b1 zq97) zq86]; done)) _ _ hH ls (lv_sub hl [2, 3, 4, 1, 5, 0] rfl)
        · refine lv_iload zx zb dX7_crossings_82 (lv_at hl 4 rfl) ?_
          refine lv_iload zx zb dX7_crossings_84 (lv_at hl 5 rfl) ?_
          refine bq_ge (tgt := 104) zx zb dX7_crossings_86 (by decide) ⟨by omega, by omega⟩ ⟨by omega, by omega⟩ (fun zq86 => ?_) (fun zq86 => ?_)
          · refine bi_const (n := 0) zx zb dX7_crossings_104 ?_
            refine bi_add zx zb dX7_crossings_105 ?_
            refine lv_istore_n (lv' := [(3, .int (iI (b + 0))), (0, .ref (g.1 23)), (1, .int (iI f)), (2, .int (iI q)), (4, .int (iI i)), (5, .int (iI j))]) zx zb dX7_crossings_106 rfl hl (by decide) rfl (fun ls hl => ?_)
            refine bi_inc (k0 := 5) (n := 1) (lv' := [(5, .int (iI (j + 1))), (3, .int (iI (b + 0))), (0, .ref (g.1 23)), (1, .int (iI f)), (2, .int (iI q)), (4, .int (iI i))]) zx zb dX7_crossings_107 hl rfl (by decide) rfl (fun ls hl => ?_)
            refine lv_goto (tgt := 60) zx zb dX7_crossings_110 (by decide) ?_
            exact ih60 ((10 * q + S 28 q - (j + 1)).toNat) (by omega) (b + 0) (j + 1) rfl (by omega) (by omega) (by first | (rw [hS, lpF_s2 (n := 10 * q + S 28 q) zq73, show (cmN (S 24) (S 25) (S 26) (S 27) f q i) j b = b + 0 from (cmN_0a (b0 zq97)).trans (Int.add_zero b).symm]; done) | (rw [hS, lpF_s2 (n := 10 * q + S 28 q) zq73, show (cmN (S 24) (S 25) (S 26) (S 27) f q i) j b = b + 0 from (cmN_0b zq79 zq86).trans (Int.add_zero b).symm]; done) | (rw [hS, lpF_s2 (n := 10 * q + S 28 q) zq73, show (cmN (S 24) (S 25) (S 26) (S 27) f q i) j b = b + 1 from cmN_1a (b1 zq97) zq79]; done) | (rw [hS, lpF_s2 (n := 10 * q + S 28 q) zq73, show (cmN (S 24) (S 25) (S 26) (S 27) f q i) j b = b + 1 from cmN_1b (b1 zq97) zq86]; done)) _ _ hH ls (lv_sub hl [2, 3, 4, 1, 5, 0] rfl)
          · have e1 := hE f (i - 10 * f) (by omega) (by omega) (by omega) (by omega)
            have o1 := hO f (i - 10 * f) (by omega) (by omega) (by omega) (by omega)
            have e2 := hE q (j - 10 * q) (by omega) (by omega) (by omega) (by omega)
            have o2 := hO q (j - 10 * q) (by omega) (by omega) (by omega) (by omega)
            rw [show 10 * f + (i - 10 * f) = i by omega] at e1 o1
            rw [show 10 * q + (j - 10 * q) = j by omega] at e2 o2
            refine lv_aload_n zx zb dX7_crossings_89 rfl (lv_at hl 0 rfl) ?_
            refine lv_iload zx zb dX7_crossings_90 (lv_at hl 4 rfl) ?_
            refine lv_iload zx zb dX7_crossings_92 (lv_at hl 5 rfl) ?_
            refine cvI (rest := [.int (iI b)]) (As := [.int (iI i), .int (iI j)]) (b := g.1 23) C0 hH (c_X7_cross l g (st S 23 0 0) i j (by omega) (by omega) (by exact e1) (by exact o1) (by exact e2) (by exact o2) (hC)) kw_X7_105 ky_X7_cross ⟨Nat.le_of_ble_eq_true rfl, Nat.le_of_ble_eq_true rfl⟩ ⟨Nat.zero_le _, Nat.zero_le _⟩ 23 rfl rfl rfl hl.1 rfl (Nat.le_of_ble_eq_true rfl) dX7_crossings_94 (fun H locs hH => ?_)
            show W p l e _ s m args below meth c H _ _ _ _ (F0 m 97 ls [.int (iI (if crM (S 24) (S 25) (S 26) (S 27) i j = true then 1 else 0)), .int (iI b)])
            have hb97 := brg (crM (S 24) (S 25) (S 26) (S 27) i j)
            refine bz_eq (tgt := 104) zx zb dX7_crossings_97 (by decide) ⟨by omega, by omega⟩ (fun zq97 => ?_) (fun zq97 => ?_)
            · refine bi_const (n := 0) zx zb dX7_crossings_104 ?_
              refine bi_add zx zb dX7_crossings_105 ?_
              refine lv_istore_n (lv' := [(3, .int (iI (b + 0))), (0, .ref (g.1 23)), (1, .int (iI f)), (2, .int (iI q)), (4, .int (iI i)), (5, .int (iI j))]) zx zb dX7_crossings_106 rfl hl (by decide) rfl (fun ls hl => ?_)
              refine bi_inc (k0 := 5) (n := 1) (lv' := [(5, .int (iI (j + 1))), (3, .int (iI (b + 0))), (0, .ref (g.1 23)), (1, .int (iI f)), (2, .int (iI q)), (4, .int (iI i))]) zx zb dX7_crossings_107 hl rfl (by decide) rfl (fun ls hl => ?_)
              refine lv_goto (tgt := 60) zx zb dX7_crossings_110 (by decide) ?_
              exact ih60 ((10 * q + S 28 q - (j + 1)).toNat) (by omega) (b + 0) (j + 1) rfl (by omega) (by omega) (by first | (rw [hS, lpF_s2 (n := 10 * q + S 28 q) zq73, show (cmN (S 24) (S 25) (S 26) (S 27) f q i) j b = b + 0 from (cmN_0a (b0 zq97)).trans (Int.add_zero b).symm]; done) | (rw [hS, lpF_s2 (n := 10 * q + S 28 q) zq73, show (cmN (S 24) (S 25) (S 26) (S 27) f q i) j b = b + 0 from (cmN_0b zq79 zq86).trans (Int.add_zero b).symm]; done) | (rw [hS, lpF_s2 (n := 10 * q + S 28 q) zq73, show (cmN (S 24) (S 25) (S 26) (S 27) f q i) j b = b + 1 from cmN_1a (b1 zq97) zq79]; done) | (rw [hS, lpF_s2 (n := 10 * q + S 28 q) zq73, show (cmN (S 24) (S 25) (S 26) (S 27) f q i) j b = b + 1 from cmN_1b (b1 zq97) zq86]; done)) _ _ hH ls (lv_sub hl [2, 3, 4, 1, 5, 0] rfl)
            · refine bi_const (n := 1) zx zb dX7_crossings_100 ?_
              refine lv_goto (tgt := 105) zx zb dX7_crossings_101 (by decide) ?_
              refine bi_add zx zb dX7_crossings_105 ?_
              refine lv_istore_n (lv' := [(3, .int (iI (b + 1))), (0, .ref (g.1 23)), (1, .int (iI f)), (2, .int (iI q)), (4, .int (iI i)), (5, .int (iI j))]) zx zb dX7_crossings_106 rfl hl (by decide) rfl (fun ls hl => ?_)
              refine bi_inc (k0 := 5) (n := 1) (lv' := [(5, .int (iI (j + 1))), (3, .int (iI (b + 1))), (0, .ref (g.1 23)), (1, .int (iI f)), (2, .int (iI q)), (4, .int (iI i))]) zx zb dX7_crossings_107 hl rfl (by decide) rfl (fun ls hl => ?_)
              refine lv_goto (tgt := 60) zx zb dX7_crossings_110 (by decide) ?_
              exact ih60 ((10 * q + S 28 q - (j + 1)).toNat) (by omega) (b + 1) (j + 1) rfl (by omega) (by omega) (by first | (rw [hS, lpF_s2 (n := 10 * q + S 28 q) zq73, show (cmN (S 24) (S 25) (S 26) (S 27) f q i) j b = b + 0 from (cmN_0a (b0 zq97)).trans (Int.add_zero b).symm]; done) | (rw [hS, lpF_s2 (n := 10 * q + S 28 q) zq73, show (cmN (S 24) (S 25) (S 26) (S 27) f q i) j b = b + 0 from (cmN_0b zq79 zq86).trans (Int.add_zero b).symm]; done) | (rw [hS, lpF_s2 (n := 10 * q + S 28 q) zq73, show (cmN (S 24) (S 25) (S 26) (S 27) f q i) j b = b + 1 from cmN_1a (b1 zq97) zq79]; done) | (rw [hS, lpF_s2 (n := 10 * q + S 28 q) zq73, show (cmN (S 24) (S 25) (S 26) (S 27) f q i) j b = b + 1 from cmN_1b (b1 zq97) zq86]; done)) _ _ hH ls (lv_sub hl [2, 3, 4, 1, 5, 0] rfl)
    have hn := hN f (by omega) (by omega)
    refine lv_iload zx zb dX7_crossings_38 (lv_at hl 4 rfl) ?_
    refine bi_bip (n := 10) zx zb dX7_crossings_40 (by decide) ?_
    refine lv_iload_n zx zb dX7_crossings_42 rfl (lv_at hl 1 rfl) ?_
    refine bi_mul zx zb dX7_crossings_43 ?_
    refine lv_aload_n zx zb dX7_crossings_44 rfl (lv_at hl 0 rfl) ?_
    refine gf_X7_22 C0 hH dX7_crossings_45 ?_
    refine lv_iload_n zx zb dX7_crossings_48 rfl (lv_at hl 1 rfl) ?_
    refine al_28 C0 hH (by omega) (by omega) dX7_crossings_49 ?_
    show W p l e _ s m args below meth c H _ _ _ _ (F0 m 50 ls [.int (iI (S 28 f)), .int (iI (10 * f)), .int (iI i)])
    refine bi_add zx zb dX7_crossings_50 ?_
    refine bq_ge (tgt := 119) zx zb dX7_crossings_51 (by decide) ⟨by omega, by omega⟩ ⟨by omega, by omega⟩ (fun zq51 => ?_) (fun zq51 => ?_)
    · refine lv_iload_n zx zb dX7_crossings_119 rfl (lv_at hl 3 rfl) ?_
      exact retI C0 hret hlk hH (by rw [hR, lpF_e zq51]) (rfl) dX7_crossings_120
    · have hn2 := hN q (by omega) (by omega)
      refine bi_bip (n := 10) zx zb dX7_crossings_54 (by decide) ?_
      refine lv_iload_n zx zb dX7_crossings_56 rfl (lv_at hl 2 rfl) ?_
      refine bi_mul zx zb dX7_crossings_57 ?_
      refine lv_istore (lv' := [(5, .int (iI (10 * q))), (0, .ref (g.1 23)), (1, .int (iI f)), (2, .int (iI q)), (3, .int (iI a)), (4, .int (iI i))]) zx zb dX7_crossings_58 hl (by decide) rfl (fun ls hl => ?_)
      exact L60 _ a (10 * q) rfl (by omega) (by omega) (by rw [hR, lpF_s zq51]; unfold cmF; rw [show 10 * q + S 28 q - 10 * q = S 28 q by omega]) _ _ hH ls (lv_sub hl [1, 2, 3, 4, 5, 0] rfl)
  obtain ⟨H, hHe⟩ : ∃ H : Heap, H = s.heap := ⟨_, rfl⟩
  rw [show (Hp g S s s.heap []) = Hp g S s H [] by rw [hHe]] at hH
  rw [← hHe]
  refine lv_aload_n zx zb dX7_crossings_0 rfl (lv_at hl 0 rfl) ?_
  refine lv_aload_n zx zb dX7_crossings_1 rfl (lv_at hl 0 rfl) ?_
  refine lv_iload_n zx zb dX7_crossings_2 rfl (lv_at hl 1 rfl) ?_
  refine cvI (rest := [.ref (g.1 23)]) (As := [.int (iI f)]) (b := g.1 23) C0 hH (c_X7_isFigure l g S f (by omega) (by omega)) kw_X7_80 ky_X7_isFigure ⟨Nat.le_of_ble_eq_true rfl, Nat.le_of_ble_eq_true rfl⟩ ⟨Nat.zero_le _, Nat.zero_le _⟩ 23 rfl rfl rfl hl.1 rfl (Nat.le_of_ble_eq_true rfl) dX7_crossings_3 (fun H locs hH => ?_)
  rw [show (if 0 ≤ f ∧ f < S 23 7 then (1 : Int) else 0) = 1 from if_pos hfo]
  refine bz_eq (tgt := 21) zx zb dX7_crossings_6 (by decide) ⟨by omega, by omega⟩ (fun zq6 => ?_) (fun zq6 => ?_)
  · exact absurd zq6 (by decide)
  · refine lv_aload_n zx zb dX7_crossings_9 rfl (lv_at hl 0 rfl) ?_
    refine lv_iload_n zx zb dX7_crossings_10 rfl (lv_at hl 2 rfl) ?_
    refine cvI (rest := [.ref (g.1 23)]) (As := [.int (iI q)]) (b := g.1 23) C0 hH (c_X7_isFigure l g S q (by omega) (by omega)) kw_X7_80 ky_X7_isFigure ⟨Nat.le_of_ble_eq_true rfl, Nat.le_of_ble_eq_true rfl⟩ ⟨Nat.zero_le _, Nat.zero_le _⟩ 23 rfl rfl rfl hl.1 rfl (Nat.le_of_ble_eq_true rfl) dX7_crossings_11 (fun H locs hH => ?_)
    rw [show (if 0 ≤ q ∧ q < S 23 7 then (1 : Int) else 0) = 1 from if_pos hqo]
    refine bz_eq (tgt := 21) zx zb dX7_crossings_14 (by decide) ⟨by omega, by omega⟩ (fun zq14 => ?_) (fun zq14 => ?_)
    · exact absurd zq14 (by decide)
    · refine bi_const (n := 0) zx zb dX7_crossings_17 ?_
      refine lv_goto (tgt := 22) zx zb dX7_crossings_18 (by decide) ?_
      refine cvI (rest := []) (As := [.int (iI 0)]) (b := g.1 23) C0 hH (c_X7_isFine l g S 0 (by omega)) kw_X7_55 ky_X7_isFine ⟨Nat.le_of_ble_eq_true rfl, Nat.le_of_ble_eq_true rfl⟩ ⟨Nat.zero_le _, Nat.zero_le _⟩ 23 rfl rfl rfl hl.1 rfl (Nat.le_of_ble_eq_true rfl) dX7_crossings_22 (fun H locs hH => ?_)
      show W p l e _ s m args below meth c H _ _ _ _ (F0 m 25 ls [.int (iI 1)])
      refine bz_ne (tgt := 30) zx zb dX7_crossings_25 (by decide) ⟨by omega, by omega⟩ (fun zq25 => ?_) (fun zq25 => ?_)
      · have hn := hN f (by omega) (by omega)
        refine bi_const (n := 0) zx zb dX7_crossings_30 ?_
        refine lv_istore_n (lv' := [(3, .int (iI 0)), (0, .ref (g.1 23)), (1, .int (iI f)), (2, .int (iI q))]) zx zb dX7_crossings_31 rfl hl (by decide) rfl (fun ls hl => ?_)
        refine bi_bip (n := 10) zx zb dX7_crossings_32 (by decide) ?_
        refine lv_iload_n zx zb dX7_crossings_34 rfl (lv_at hl 2 rfl) ?_
        refine bi_mul zx zb dX7_crossings_35 ?_
        refine lv_istore (lv' := [(4, .int (iI (10 * f))), (3, .int (iI 0)), (0, .ref (g.1 23)), (1, .int (iI f)), (2, .int (iI q))]) zx zb dX7_crossings_36 hl (by decide) rfl (fun ls hl => ?_)
        exact L38 _ (10 * f) 0 rfl (by omega) (by unfold cmI; rw [show 10 * f + S 28 f - 10 * f = S 28 f by omega]) _ _ hH ls (lv_sub hl [2, 3, 4, 1, 0] rfl)
      · exact absurd zq25 (by decide)
set_option maxRecDepth 100000 in
set_option maxHeartbeats 4000000 in
theorem f1_X7_crossings (l : Launch) (g : gT) (S : gSt) (f q : Int) (hnf : 0 ≤ S 23 7 ∧ S 23 7 ≤ 8) (hr_f : -2147483648 ≤ f ∧ f < 2147483648) (hr_q : -2147483648 ≤ q ∧ q < 2147483648) (hbad : ¬((0 ≤ f ∧ f < S 23 7) ∧ (0 ≤ q ∧ q < S 23 7))) : MetG l g yX7_crossings cX7_crossings 6 (some .int) 2 43 [.ref (g.1 23), .int (iI f), .int (iI q)] S (some (.int (iI 0))) (st S 23 0 1) := by
  refine bodyG (by decide +kernel) (Nat.le_of_ble_eq_true rfl) ?_
  intro p e s m args below meth c ls C0 hret hlk hl hH
  have zx := C0.1
  have zb := C0.2.1
  have hl : lv_has ls 6 [(0, .ref (g.1 23)), (1, .int (iI f)), (2, .int (iI q))] := hl
  obtain ⟨H, hHe⟩ : ∃ H : Heap, H = s.heap := ⟨_, rfl⟩
  rw [show (Hp g S s s.heap []) = Hp g S s H [] by rw [hHe]] at hH
  rw [← hHe]
  refine lv_aload_n zx zb dX7_crossings_0 rfl (lv_at hl 0 rfl) ?_
  refine lv_aload_n zx zb dX7_crossings_1 rfl (lv_at hl 0 rfl) ?_
  refine lv_iload_n zx zb dX7_crossings_2 rfl (lv_at hl 1 rfl) ?_
  refine cvI (rest := [.ref (g.1 23)]) (As := [.int (iI f)]) (b := g.1 23) C0 hH (c_X7_isFigure l g S f (by omega) (by omega)) kw_X7_80 ky_X7_isFigure ⟨Nat.le_of_ble_eq_true rfl, Nat.le_of_ble_eq_true rfl⟩ ⟨Nat.zero_le _, Nat.zero_le _⟩ 23 rfl rfl rfl hl.1 rfl (Nat.le_of_ble_eq_true rfl) dX7_crossings_3 (fun H locs hH => ?_)
  have hpr6 := prg (0 ≤ f ∧ f < S 23 7)
  refine bz_eq (tgt := 21) zx zb dX7_crossings_6 (by decide) ⟨by omega, by omega⟩ (fun zq6 => ?_) (fun zq6 => ?_)
  · refine bi_const (n := 1) zx zb dX7_crossings_21 ?_
    refine cvI (rest := []) (As := [.int (iI 1)]) (b := g.1 23) C0 hH (c_X7_isFine l g S 1 (by omega)) kw_X7_55 ky_X7_isFine ⟨Nat.le_of_ble_eq_true rfl, Nat.le_of_ble_eq_true rfl⟩ ⟨Nat.zero_le _, Nat.zero_le _⟩ 23 rfl rfl rfl hl.1 rfl (Nat.le_of_ble_eq_true rfl) dX7_crossings_22 (fun H locs hH => ?_)
    show W p l e _ s m args below meth c H _ _ _ _ (F0 m 25 ls [.int (iI 0)])
    refine bz_ne (tgt := 30) zx zb dX7_crossings_25 (by decide) ⟨by omega, by omega⟩ (fun zq25 => ?_) (fun zq25 => ?_)
    · exact absurd zq25 (by decide)
    · refine bi_const (n := 0) zx zb dX7_crossings_28 ?_
      exact retI C0 hret hlk hH (by rfl) (rfl) dX7_crossings_29
  · refine lv_aload_n zx zb dX7_crossings_9 rfl (lv_at hl 0 rfl) ?_
    refine lv_iload_n zx zb dX7_crossings_10 rfl (lv_at hl 2 rfl) ?_
    refine cvI (rest := [.ref (g.1 23)]) (As := [.int (iI q)]) (b := g.1 23) C0 hH (c_X7_isFigure l g S q (by omega) (by omega)) kw_X7_80 ky_X7_isFigure ⟨Nat.le_of_ble_eq_true rfl, Nat.le_of_ble_eq_true rfl⟩ ⟨Nat.zero_le _, Nat.zero_le _⟩ 23 rfl rfl rfl hl.1 rfl (Nat.le_of_ble_eq_true rfl) dX7_crossings_11 (fun H locs hH => ?_)
    have hpr14 := prg (0 ≤ q ∧ q < S 23 7)
    refine bz_eq (tgt := 21) zx zb dX7_crossings_14 (by decide) ⟨by omega, by omega⟩ (fun zq14 => ?_) (fun zq14 => ?_)
    · refine bi_const (n := 1) zx zb dX7_crossings_21 ?_
      refine cvI (rest := []) (As := [.int (iI 1)]) (b := g.1 23) C0 hH (c_X7_isFine l g S 1 (by omega)) kw_X7_55 ky_X7_isFine ⟨Nat.le_of_ble_eq_true rfl, Nat.le_of_ble_eq_true rfl⟩ ⟨Nat.zero_le _, Nat.zero_le _⟩ 23 rfl rfl rfl hl.1 rfl (Nat.le_of_ble_eq_true rfl) dX7_crossings_22 (fun H locs hH => ?_)
      show W p l e _ s m args below meth c H _ _ _ _ (F0 m 25 ls [.int (iI 0)])
      refine bz_ne (tgt := 30) zx zb dX7_crossings_25 (by decide) ⟨by omega, by omega⟩ (fun zq25 => ?_) (fun zq25 => ?_)
      · exact absurd zq25 (by decide)
      · refine bi_const (n := 0) zx zb dX7_crossings_28 ?_
        exact retI C0 hret hlk hH (by rfl) (rfl) dX7_crossings_29
    · exact absurd ⟨p1 zq6, p1 zq14⟩ hbad
set_option maxRecDepth 100000 in
set_option maxHeartbeats 4000000 in
theorem c_X7_vote (l : Launch) (g : gT) (S : gSt) (v f n : Int) (hvo : 0 ≤ v ∧ v ≤ 5) (hnf : 0 ≤ S 23 7 ∧ S 23 7 ≤ 8) (hfo : 0 ≤ f ∧ f < S 23 7) (hn : -1 ≤ n ∧ n ≤ 9) : MetG l g yX7_vote cX7_vote 6 (some .int) 2 43 [.ref (g.1 23), .int (iI v), .int (iI f), .int (iI n)] S (some (.int (iI (S 29 (6 * f + v) - 1)))) (st (st S 23 0 0) 29 ((6 * f) + v) (n + 1)) := by
  refine bodyG (by decide +kernel) (Nat.le_of_ble_eq_true rfl) ?_
  intro p e s m args below meth c ls C0 hret hlk hl hH
  have zx := C0.1
  have zb := C0.2.1
  have hl : lv_has ls 6 [(0, .ref (g.1 23)), (1, .int (iI v)), (2, .int (iI f)), (3, .int (iI n))] := hl
  obtain ⟨H, hHe⟩ : ∃ H : Heap, H = s.heap := ⟨_, rfl⟩
  rw [show (Hp g S s s.heap []) = Hp g S s H [] by rw [hHe]] at hH
  rw [← hHe]
  refine lv_iload_n zx zb dX7_vote_0 rfl (lv_at hl 1 rfl) ?_
  refine bi_const (n := 0) zx zb dX7_vote_1 ?_
  refine bi_const (n := 5) zx zb dX7_vote_2 ?_
  refine csI (rest := []) (As := [.int (iI v), .int (iI 0), .int (iI 5)]) C0 hH (c_X7_isIn l g S v 0 5 (by omega) (by omega) (by omega)) kw_X7_44 ky_X7_isIn ⟨Nat.le_of_ble_eq_true rfl, Nat.le_of_ble_eq_true rfl⟩ ⟨Nat.zero_le _, Nat.zero_le _⟩ rfl hl.1 rfl (Nat.le_of_ble_eq_true rfl) dX7_vote_3 (fun H locs hH => ?_)
  rw [show (if 0 ≤ v ∧ v ≤ 5 then (1 : Int) else 0) = 1 from if_pos hvo]
  refine bz_eq (tgt := 21) zx zb dX7_vote_6 (by decide) ⟨by omega, by omega⟩ (fun zq6 => ?_) (fun zq6 => ?_)
  · exact absurd zq6 (by decide)
  · refine lv_aload_n zx zb dX7_vote_9 rfl (lv_at hl 0 rfl) ?_
    refine lv_iload_n zx zb dX7_vote_10 rfl (lv_at hl 2 rfl) ?_
    refine cvI (rest := []) (As := [.int (iI f)]) (b := g.1 23) C0 hH (c_X7_isFigure l g S f (by omega) (by omega)) kw_X7_80 ky_X7_isFigure ⟨Nat.le_of_ble_eq_true rfl, Nat.le_of_ble_eq_true rfl⟩ ⟨Nat.zero_le _, Nat.zero_le _⟩ 23 rfl rfl rfl hl.1 rfl (Nat.le_of_ble_eq_true rfl) dX7_vote_11 (fun H locs hH => ?_)
    rw [show (if 0 ≤ f ∧ f < S 23 7 then (1 : Int) else 0) = 1 from if_pos hfo]
    refine bz_eq (tgt := 21) zx zb dX7_vote_14 (by decide) ⟨by omega, by omega⟩ (fun zq14 => ?_) (fun zq14 => ?_)
    · exact absurd zq14 (by decide)
    · refine bi_const (n := 1) zx zb dX7_vote_17 ?_
      refine lv_goto (tgt := 22) zx zb dX7_vote_18 (by decide) ?_
      refine lv_istore (lv' := [(4, .int (iI 1)), (0, .ref (g.1 23)), (1, .int (iI v)), (2, .int (iI f)), (3, .int (iI n))]) zx zb dX7_vote_22 hl (by decide) rfl (fun ls hl => ?_)
      refine lv_aload_n zx zb dX7_vote_24 rfl (lv_at hl 1 rfl) ?_
      refine lv_iload zx zb dX7_vote_25 (lv_at hl 0 rfl) ?_
      refine bz_ne (tgt := 34) zx zb dX7_vote_27 (by decide) ⟨by omega, by omega⟩ (fun zq27 => ?_) (fun zq27 => ?_)
      · refine lv_iload_n zx zb dX7_vote_34 rfl (lv_at hl 4 rfl) ?_
        refine bi_const (n := (-1)) zx zb dX7_vote_35 ?_
        refine bi_bip (n := 9) zx zb dX7_vote_36 (by decide) ?_
        refine csI (rest := [.ref (g.1 23)]) (As := [.int (iI n), .int (iI (-1)), .int (iI 9)]) C0 hH (c_X7_isIn l g S n (-1) 9 (by omega) (by omega) (by omega)) kw_X7_44 ky_X7_isIn ⟨Nat.le_of_ble_eq_true rfl, Nat.le_of_ble_eq_true rfl⟩ ⟨Nat.zero_le _, Nat.zero_le _⟩ rfl hl.1 rfl (Nat.le_of_ble_eq_true rfl) dX7_vote_38 (fun H locs hH => ?_)
        rw [show (if -1 ≤ n ∧ n ≤ 9 then (1 : Int) else 0) = 1 from if_pos hn]
        refine bz_ne (tgt := 48) zx zb dX7_vote_41 (by decide) ⟨by omega, by omega⟩ (fun zq41 => ?_) (fun zq41 => ?_)
        · refine bi_const (n := 0) zx zb dX7_vote_48 ?_
          refine cvI (rest := []) (As := [.int (iI 0)]) (b := g.1 23) C0 hH (c_X7_isFine l g S 0 (by omega)) kw_X7_55 ky_X7_isFine ⟨Nat.le_of_ble_eq_true rfl, Nat.le_of_ble_eq_true rfl⟩ ⟨Nat.zero_le _, Nat.zero_le _⟩ 23 rfl rfl rfl hl.1 rfl (Nat.le_of_ble_eq_true rfl) dX7_vote_49 (fun H locs hH => ?_)
          show W p l e _ s m args below meth c H _ _ _ _ (F0 m 52 ls [.int (iI 1)])
          refine bz_ne (tgt := 57) zx zb dX7_vote_52 (by decide) ⟨by omega, by omega⟩ (fun zq52 => ?_) (fun zq52 => ?_)
          · refine lv_aload_n zx zb dX7_vote_57 rfl (lv_at hl 1 rfl) ?_
            refine gf_X7_25 C0 hH dX7_vote_58 ?_
            refine bi_bip (n := 6) zx zb dX7_vote_61 (by decide) ?_
            refine lv_iload_n zx zb dX7_vote_63 rfl (lv_at hl 3 rfl) ?_
            refine bi_mul zx zb dX7_vote_64 ?_
            refine lv_iload_n zx zb dX7_vote_65 rfl (lv_at hl 2 rfl) ?_
            refine bi_add zx zb dX7_vote_66 ?_
            refine al_29 C0 hH (by omega) (by omega) dX7_vote_67 ?_
            show W p l e _ s m args below meth c H _ _ _ _ (F0 m 68 ls [.int (iI (S 29 ((6 * f) + v)))])
            refine bi_const (n := 1) zx zb dX7_vote_68 ?_
            refine bi_sub zx zb dX7_vote_69 ?_
            refine lv_istore (lv' := [(5, .int (iI ((S 29 ((6 * f) + v)) - 1))), (4, .int (iI 1)), (0, .ref (g.1 23)), (1, .int (iI v)), (2, .int (iI f)), (3, .int (iI n))]) zx zb dX7_vote_70 hl (by decide) rfl (fun ls hl => ?_)
            refine lv_aload_n zx zb dX7_vote_72 rfl (lv_at hl 2 rfl) ?_
            refine gf_X7_25 C0 hH dX7_vote_73 ?_
            refine bi_bip (n := 6) zx zb dX7_vote_76 (by decide) ?_
            refine lv_iload_n zx zb dX7_vote_78 rfl (lv_at hl 4 rfl) ?_
            refine bi_mul zx zb dX7_vote_79 ?_
            refine lv_iload_n zx zb dX7_vote_80 rfl (lv_at hl 3 rfl) ?_
            refine bi_add zx zb dX7_vote_81 ?_
            refine lv_iload_n zx zb dX7_vote_82 rfl (lv_at hl 5 rfl) ?_
            refine bi_const (n := 1) zx zb dX7_vote_83 ?_
            refine bi_add zx zb dX7_vote_84 ?_
            refine as_29 C0 hH (by omega) (by omega) dX7_vote_85 (fun H locs hH => ?_)
            refine lv_iload zx zb dX7_vote_86 (lv_at hl 0 rfl) ?_
            exact retI C0 hret hlk hH (by rfl) (rfl) dX7_vote_88
          · exact absurd zq52 (by decide)
        · exact absurd zq41 (by decide)
      · exact absurd zq27 (by decide)
set_option maxRecDepth 100000 in
set_option maxHeartbeats 4000000 in
theorem f1_X7_vote (l : Launch) (g : gT) (S : gSt) (v f n : Int) (hnf : 0 ≤ S 23 7 ∧ S 23 7 ≤ 8) (hr_v : -2147483648 ≤ v ∧ v < 2147483648) (hr_f : -2147483648 ≤ f ∧ f < 2147483648) (hr_n : -2147483648 ≤ n ∧ n < 2147483648) (hbad : ¬((0 ≤ v ∧ v ≤ 5) ∧ (0 ≤ f ∧ f < S 23 7))) : MetG l g yX7_vote cX7_vote 6 (some .int) 2 43 [.ref (g.1 23), .int (iI v), .int (iI f), .int (iI n)] S (some (.int (iI 0))) (st S 23 0 1) := by
  refine bodyG (by decide +kernel) (Nat.le_of_ble_eq_true rfl) ?_
  intro p e s m args below meth c ls C0 hret hlk hl hH
  have zx := C0.1
  have zb := C0.2.1
  have hl : lv_has ls 6 [(0, .ref (g.1 23)), (1, .int (iI v)), (2, .int (iI f)), (3, .int (iI n))] := hl
  obtain ⟨H, hHe⟩ : ∃ H : Heap, H = s.heap := ⟨_, rfl⟩
  rw [show (Hp g S s s.heap []) = Hp g S s H [] by rw [hHe]] at hH
  rw [← hHe]
  refine lv_iload_n zx zb dX7_vote_0 rfl (lv_at hl 1 rfl) ?_
  refine bi_const (n := 0) zx zb dX7_vote_1 ?_
  refine bi_const (n := 5) zx zb dX7_vote_2 ?_
  refine csI (rest := []) (As := [.int (iI v), .int (iI 0), .int (iI 5)]) C0 hH (c_X7_isIn l g S v 0 5 (by omega) (by omega) (by omega)) kw_X7_44 ky_X7_isIn ⟨Nat.le_of_ble_eq_true rfl, Nat.le_of_ble_eq_true rfl⟩ ⟨Nat.zero_le _, Nat.zero_le _⟩ rfl hl.1 rfl (Nat.le_of_ble_eq_true rfl) dX7_vote_3 (fun H locs hH => ?_)
  have hpr6 := prg (0 ≤ v ∧ v ≤ 5)
  refine bz_eq (tgt := 21) zx zb dX7_vote_6 (by decide) ⟨by omega, by omega⟩ (fun zq6 => ?_) (fun zq6 => ?_)
  · refine bi_const (n := 0) zx zb dX7_vote_21 ?_
    refine lv_istore (lv' := [(4, .int (iI 0)), (0, .ref (g.1 23)), (1, .int (iI v)), (2, .int (iI f)), (3, .int (iI n))]) zx zb dX7_vote_22 hl (by decide) rfl (fun ls hl => ?_)
    refine lv_aload_n zx zb dX7_vote_24 rfl (lv_at hl 1 rfl) ?_
    refine lv_iload zx zb dX7_vote_25 (lv_at hl 0 rfl) ?_
    refine bz_ne (tgt := 34) zx zb dX7_vote_27 (by decide) ⟨by omega, by omega⟩ (fun zq27 => ?_) (fun zq27 => ?_)
    · exact absurd zq27 (by decide)
    · refine bi_const (n := 1) zx zb dX7_vote_30 ?_
      refine lv_goto (tgt := 49) zx zb dX7_vote_31 (by decide) ?_
      refine cvI (rest := []) (As := [.int (iI 1)]) (b := g.1 23) C0 hH (c_X7_isFine l g S 1 (by omega)) kw_X7_55 ky_X7_isFine ⟨Nat.le_of_ble_eq_true rfl, Nat.le_of_ble_eq_true rfl⟩ ⟨Nat.zero_le _, Nat.zero_le _⟩ 23 rfl rfl rfl hl.1 rfl (Nat.le_of_ble_eq_true rfl) dX7_vote_49 (fun H locs hH => ?_)
      show W p l e _ s m args below meth c H _ _ _ _ (F0 m 52 ls [.int (iI 0)])
      refine bz_ne (tgt := 57) zx zb dX7_vote_52 (by decide) ⟨by omega, by omega⟩ (fun zq52 => ?_) (fun zq52 => ?_)
      · exact absurd zq52 (by decide)
      · refine bi_const (n := 0) zx zb dX7_vote_55 ?_
        exact retI C0 hret hlk hH (by rfl) (rfl) dX7_vote_56
  · refine lv_aload_n zx zb dX7_vote_9 rfl (lv_at hl 0 rfl) ?_
    refine lv_iload_n zx zb dX7_vote_10 rfl (lv_at hl 2 rfl) ?_
    refine cvI (rest := []) (As := [.int (iI f)]) (b := g.1 23) C0 hH (c_X7_isFigure l g S f (by omega) (by omega)) kw_X7_80 ky_X7_isFigure ⟨Nat.le_of_ble_eq_true rfl, Nat.le_of_ble_eq_true rfl⟩ ⟨Nat.zero_le _, Nat.zero_le _⟩ 23 rfl rfl rfl hl.1 rfl (Nat.le_of_ble_eq_true rfl) dX7_vote_11 (fun H locs hH => ?_)
    have hpr14 := prg (0 ≤ f ∧ f < S 23 7)
    refine bz_eq (tgt := 21) zx zb dX7_vote_14 (by decide) ⟨by omega, by omega⟩ (fun zq14 => ?_) (fun zq14 => ?_)
    · refine bi_const (n := 0) zx zb dX7_vote_21 ?_
      refine lv_istore (lv' := [(4, .int (iI 0)), (0, .ref (g.1 23)), (1, .int (iI v)), (2, .int (iI f)), (3, .int (iI n))]) zx zb dX7_vote_22 hl (by decide) rfl (fun ls hl => ?_)
      refine lv_aload_n zx zb dX7_vote_24 rfl (lv_at hl 1 rfl) ?_
      refine lv_iload zx zb dX7_vote_25 (lv_at hl 0 rfl) ?_
      refine bz_ne (tgt := 34) zx zb dX7_vote_27 (by decide) ⟨by omega, by omega⟩ (fun zq27 => ?_) (fun zq27 => ?_)
      · exact absurd zq27 (by decide)
      · refine bi_const (n := 1) zx zb dX7_vote_30 ?_
        refine lv_goto (tgt := 49) zx zb dX7_vote_31 (by decide) ?_
        refine cvI (rest := []) (As := [.int (iI 1)]) (b := g.1 23) C0 hH (c_X7_isFine l g S 1 (by omega)) kw_X7_55 ky_X7_isFine ⟨Nat.le_of_ble_eq_true rfl, Nat.le_of_ble_eq_true rfl⟩ ⟨Nat.zero_le _, Nat.zero_le _⟩ 23 rfl rfl rfl hl.1 rfl (Nat.le_of_ble_eq_true rfl) dX7_vote_49 (fun H locs hH => ?_)
        show W p l e _ s m args below meth c H _ _ _ _ (F0 m 52 ls [.int (iI 0)])
        refine bz_ne (tgt := 57) zx zb dX7_vote_52 (by decide) ⟨by omega, by omega⟩ (fun zq52 => ?_) (fun zq52 => ?_)
        · exact absurd zq52 (by decide)
        · refine bi_const (n := 0) zx zb dX7_vote_55 ?_
          exact retI C0 hret hlk hH (by rfl) (rfl) dX7_vote_56
    · exact absurd ⟨p1 zq6, p1 zq14⟩ hbad
set_option maxRecDepth 100000 in
set_option maxHeartbeats 4000000 in
theorem f2_X7_vote (l : Launch) (g : gT) (S : gSt) (v f n : Int) (hvo : 0 ≤ v ∧ v ≤ 5) (hnf : 0 ≤ S 23 7 ∧ S 23 7 ≤ 8) (hfo : 0 ≤ f ∧ f < S 23 7) (hr_n : -2147483648 ≤ n ∧ n < 2147483648) (hbad : ¬(-1 ≤ n ∧ n ≤ 9)) : MetG l g yX7_vote cX7_vote 6 (some .int) 2 43 [.ref (g.1 23), .int (iI v), .int (iI f), .int (iI n)] S (some (.int (iI 0))) (st S 23 0 2) := by
  refine bodyG (by decide +kernel) (Nat.le_of_ble_eq_true rfl) ?_
  intro p e s m args below meth c ls C0 hret hlk hl hH
  have zx := C0.1
  have zb := C0.2.1
  have hl : lv_has ls 6 [(0, .ref (g.1 23)), (1, .int (iI v)), (2, .int (iI f)), (3, .int (iI n))] := hl
  obtain ⟨H, hHe⟩ : ∃ H : Heap, H = s.heap := ⟨_, rfl⟩
  rw [show (Hp g S s s.heap []) = Hp g S s H [] by rw [hHe]] at hH
  rw [← hHe]
  refine lv_iload_n zx zb dX7_vote_0 rfl (lv_at hl 1 rfl) ?_
  refine bi_const (n := 0) zx zb dX7_vote_1 ?_
  refine bi_const (n := 5) zx zb dX7_vote_2 ?_
  refine csI (rest := []) (As := [.int (iI v), .int (iI 0), .int (iI 5)]) C0 hH (c_X7_isIn l g S v 0 5 (by omega) (by omega) (by omega)) kw_X7_44 ky_X7_isIn ⟨Nat.le_of_ble_eq_true rfl, Nat.le_of_ble_eq_true rfl⟩ ⟨Nat.zero_le _, Nat.zero_le _⟩ rfl hl.1 rfl (Nat.le_of_ble_eq_true rfl) dX7_vote_3 (fun H locs hH => ?_)
  rw [show (if 0 ≤ v ∧ v ≤ 5 then (1 : Int) else 0) = 1 from if_pos hvo]
  refine bz_eq (tgt := 21) zx zb dX7_vote_6 (by decide) ⟨by omega, by omega⟩ (fun zq6 => ?_) (fun zq6 => ?_)
  · exact absurd zq6 (by decide)
  · refine lv_aload_n zx zb dX7_vote_9 rfl (lv_at hl 0 rfl) ?_
    refine lv_iload_n zx zb dX7_vote_10 rfl (lv_at hl 2 rfl) ?_
    refine cvI (rest := []) (As := [.int (iI f)]) (b := g.1 23) C0 hH (c_X7_isFigure l g S f (by omega) (by omega)) kw_X7_80 ky_X7_isFigure ⟨Nat.le_of_ble_eq_true rfl, Nat.le_of_ble_eq_true rfl⟩ ⟨Nat.zero_le _, Nat.zero_le _⟩ 23 rfl rfl rfl hl.1 rfl (Nat.le_of_ble_eq_true rfl) dX7_vote_11 (fun H locs hH => ?_)
    rw [show (if 0 ≤ f ∧ f < S 23 7 then (1 : Int) else 0) = 1 from if_pos hfo]
    refine bz_eq (tgt := 21) zx zb dX7_vote_14 (by decide) ⟨by omega, by omega⟩ (fun zq14 => ?_) (fun zq14 => ?_)
    · exact absurd zq14 (by decide)
    · refine bi_const (n := 1) zx zb dX7_vote_17 ?_
      refine lv_goto (tgt := 22) zx zb dX7_vote_18 (by decide) ?_
      refine lv_istore (lv' := [(4, .int (iI 1)), (0, .ref (g.1 23)), (1, .int (iI v)), (2, .int (iI f)), (3, .int (iI n))]) zx zb dX7_vote_22 hl (by decide) rfl (fun ls hl => ?_)
      refine lv_aload_n zx zb dX7_vote_24 rfl (lv_at hl 1 rfl) ?_
      refine lv_iload zx zb dX7_vote_25 (lv_at hl 0 rfl) ?_
      refine bz_ne (tgt := 34) zx zb dX7_vote_27 (by decide) ⟨by omega, by omega⟩ (fun zq27 => ?_) (fun zq27 => ?_)
      · refine lv_iload_n zx zb dX7_vote_34 rfl (lv_at hl 4 rfl) ?_
        refine bi_const (n := (-1)) zx zb dX7_vote_35 ?_
        refine bi_bip (n := 9) zx zb dX7_vote_36 (by decide) ?_
        refine csI (rest := [.ref (g.1 23)]) (As := [.int (iI n), .int (iI (-1)), .int (iI 9)]) C0 hH (c_X7_isIn l g S n (-1) 9 (by omega) (by omega) (by omega)) kw_X7_44 ky_X7_isIn ⟨Nat.le_of_ble_eq_true rfl, Nat.le_of_ble_eq_true rfl⟩ ⟨Nat.zero_le _, Nat.zero_le _⟩ rfl hl.1 rfl (Nat.le_of_ble_eq_true rfl) dX7_vote_38 (fun H locs hH => ?_)
        rw [show (if -1 ≤ n ∧ n ≤ 9 then (1 : Int) else 0) = 0 from if_neg hbad]
        refine bz_ne (tgt := 48) zx zb dX7_vote_41 (by decide) ⟨by omega, by omega⟩ (fun zq41 => ?_) (fun zq41 => ?_)
        · exact absurd zq41 (by decide)
        · refine bi_const (n := 2) zx zb dX7_vote_44 ?_
          refine lv_goto (tgt := 49) zx zb dX7_vote_45 (by decide) ?_
          refine cvI (rest := []) (As := [.int (iI 2)]) (b := g.1 23) C0 hH (c_X7_isFine l g S 2 (by omega)) kw_X7_55 ky_X7_isFine ⟨Nat.le_of_ble_eq_true rfl, Nat.le_of_ble_eq_true rfl⟩ ⟨Nat.zero_le _, Nat.zero_le _⟩ 23 rfl rfl rfl hl.1 rfl (Nat.le_of_ble_eq_true rfl) dX7_vote_49 (fun H locs hH => ?_)
          show W p l e _ s m args below meth c H _ _ _ _ (F0 m 52 ls [.int (iI 0)])
          refine bz_ne (tgt := 57) zx zb dX7_vote_52 (by decide) ⟨by omega, by omega⟩ (fun zq52 => ?_) (fun zq52 => ?_)
          · exact absurd zq52 (by decide)
          · refine bi_const (n := 0) zx zb dX7_vote_55 ?_
            exact retI C0 hret hlk hH (by rfl) (rfl) dX7_vote_56
      · exact absurd zq27 (by decide)
set_option maxRecDepth 100000 in
set_option maxHeartbeats 4000000 in
theorem c_X7_votes (l : Launch) (g : gT) (S : gSt) (f n : Int) (hnf : 0 ≤ S 23 7 ∧ S 23 7 ≤ 8) (hfo : 0 ≤ f ∧ f < S 23 7) (hn : 0 ≤ n ∧ n ≤ 9) (hV : okV (S 29)) : MetG l g yX7_votes cX7_votes 3 (some .int) 2 43 [.ref (g.1 23), .int (iI f), .int (iI n)] S (some (.int (iI (vtI (S 29) f n)))) (st S 23 0 0) := by
  refine bodyG (by decide +kernel) (Nat.le_of_ble_eq_true rfl) ?_
  intro p e s m args below meth c ls C0 hret hlk hl hH
  have zx := C0.1
  have zb := C0.2.1
  have hl : lv_has ls 3 [(0, .ref (g.1 23)), (1, .int (iI f)), (2, .int (iI n))] := hl
  obtain ⟨H, hHe⟩ : ∃ H : Heap, H = s.heap := ⟨_, rfl⟩
  rw [show (Hp g S s s.heap []) = Hp g S s H [] by rw [hHe]] at hH
  rw [← hHe]
  refine lv_aload_n zx zb dX7_votes_0 rfl (lv_at hl 0 rfl) ?_
  refine lv_aload_n zx zb dX7_votes_1 rfl (lv_at hl 0 rfl) ?_
  refine lv_iload_n zx zb dX7_votes_2 rfl (lv_at hl 1 rfl) ?_
  refine cvI (rest := [.ref (g.1 23)]) (As := [.int (iI f)]) (b := g.1 23) C0 hH (c_X7_isFigure l g S f (by omega) (by omega)) kw_X7_80 ky_X7_isFigure ⟨Nat.le_of_ble_eq_true rfl, Nat.le_of_ble_eq_true rfl⟩ ⟨Nat.zero_le _, Nat.zero_le _⟩ 23 rfl rfl rfl hl.1 rfl (Nat.le_of_ble_eq_true rfl) dX7_votes_3 (fun H locs hH => ?_)
  rw [show (if 0 ≤ f ∧ f < S 23 7 then (1 : Int) else 0) = 1 from if_pos hfo]
  refine bz_ne (tgt := 13) zx zb dX7_votes_6 (by decide) ⟨by omega, by omega⟩ (fun zq6 => ?_) (fun zq6 => ?_)
  · refine lv_iload_n zx zb dX7_votes_13 rfl (lv_at hl 2 rfl) ?_
    refine bi_const (n := 0) zx zb dX7_votes_14 ?_
    refine bi_bip (n := 9) zx zb dX7_votes_15 (by decide) ?_
    refine csI (rest := [.ref (g.1 23)]) (As := [.int (iI n), .int (iI 0), .int (iI 9)]) C0 hH (c_X7_isIn l g S n 0 9 (by omega) (by omega) (by omega)) kw_X7_44 ky_X7_isIn ⟨Nat.le_of_ble_eq_true rfl, Nat.le_of_ble_eq_true rfl⟩ ⟨Nat.zero_le _, Nat.zero_le _⟩ rfl hl.1 rfl (Nat.le_of_ble_eq_true rfl) dX7_votes_17 (fun H locs hH => ?_)
    rw [show (if 0 ≤ n ∧ n ≤ 9 then (1 : Int) else 0) = 1 from if_pos hn]
    refine bz_ne (tgt := 27) zx zb dX7_votes_20 (by decide) ⟨by omega, by omega⟩ (fun zq20 => ?_) (fun zq20 => ?_)
    · refine bi_const (n := 0) zx zb dX7_votes_27 ?_
      refine cvI (rest := []) (As := [.int (iI 0)]) (b := g.1 23) C0 hH (c_X7_isFine l g S 0 (by omega)) kw_X7_55 ky_X7_isFine ⟨Nat.le_of_ble_eq_true rfl, Nat.le_of_ble_eq_true rfl⟩ ⟨Nat.zero_le _, Nat.zero_le _⟩ 23 rfl rfl rfl hl.1 rfl (Nat.le_of_ble_eq_true rfl) dX7_votes_28 (fun H locs hH => ?_)
      show W p l e _ s m args below meth c H _ _ _ _ (F0 m 31 ls [.int (iI 1)])
      refine bz_eq (tgt := 43) zx zb dX7_votes_31 (by decide) ⟨by omega, by omega⟩ (fun zq31 => ?_) (fun zq31 => ?_)
      · exact absurd zq31 (by decide)
      · refine lv_aload_n zx zb dX7_votes_34 rfl (lv_at hl 0 rfl) ?_
        refine lv_iload_n zx zb dX7_votes_35 rfl (lv_at hl 1 rfl) ?_
        refine lv_iload_n zx zb dX7_votes_36 rfl (lv_at hl 2 rfl) ?_
        refine cvI (rest := []) (As := [.int (iI f), .int (iI n)]) (b := g.1 23) C0 hH (c_X7_votesNow l g (st S 23 0 0) f n (by omega) (by omega) (hV)) kw_X7_108 ky_X7_votesNow ⟨Nat.le_of_ble_eq_true rfl, Nat.le_of_ble_eq_true rfl⟩ ⟨Nat.zero_le _, Nat.zero_le _⟩ 23 rfl rfl rfl hl.1 rfl (Nat.le_of_ble_eq_true rfl) dX7_votes_37 (fun H locs hH => ?_)
        show W p l e _ s m args below meth c H _ _ _ _ (F0 m 40 ls [.int (iI (vtI (S 29) f n))])
        refine lv_goto (tgt := 44) zx zb dX7_votes_40 (by decide) ?_
        exact retI C0 hret hlk hH (by rfl) (rfl) dX7_votes_44
    · exact absurd zq20 (by decide)
  · exact absurd zq6 (by decide)
set_option maxRecDepth 100000 in
set_option maxHeartbeats 4000000 in
theorem f1_X7_votes (l : Launch) (g : gT) (S : gSt) (f n : Int) (hnf : 0 ≤ S 23 7 ∧ S 23 7 ≤ 8) (hr_f : -2147483648 ≤ f ∧ f < 2147483648) (hr_n : -2147483648 ≤ n ∧ n < 2147483648) (hfb : ¬(0 ≤ f ∧ f < S 23 7)) : MetG l g yX7_votes cX7_votes 3 (some .int) 2 43 [.ref (g.1 23), .int (iI f), .int (iI n)] S (some (.int (iI 0))) (st S 23 0 1) := by
  refine bodyG (by decide +kernel) (Nat.le_of_ble_eq_true rfl) ?_
  intro p e s m args below meth c ls C0 hret hlk hl hH
  have zx := C0.1
  have zb := C0.2.1
  have hl : lv_has ls 3 [(0, .ref (g.1 23)), (1, .int (iI f)), (2, .int (iI n))] := hl
  obtain ⟨H, hHe⟩ : ∃ H : Heap, H = s.heap := ⟨_, rfl⟩
  rw [show (Hp g S s s.heap []) = Hp g S s H [] by rw [hHe]] at hH
  rw [← hHe]
  refine lv_aload_n zx zb dX7_votes_0 rfl (lv_at hl 0 rfl) ?_
  refine lv_aload_n zx zb dX7_votes_1 rfl (lv_at hl 0 rfl) ?_
  refine lv_iload_n zx zb dX7_votes_2 rfl (lv_at hl 1 rfl) ?_
  refine cvI (rest := [.ref (g.1 23)]) (As := [.int (iI f)]) (b := g.1 23) C0 hH (c_X7_isFigure l g S f (by omega) (by omega)) kw_X7_80 ky_X7_isFigure ⟨Nat.le_of_ble_eq_true rfl, Nat.le_of_ble_eq_true rfl⟩ ⟨Nat.zero_le _, Nat.zero_le _⟩ 23 rfl rfl rfl hl.1 rfl (Nat.le_of_ble_eq_true rfl) dX7_votes_3 (fun H locs hH => ?_)
  rw [show (if 0 ≤ f ∧ f < S 23 7 then (1 : Int) else 0) = 0 from if_neg hfb]
  refine bz_ne (tgt := 13) zx zb dX7_votes_6 (by decide) ⟨by omega, by omega⟩ (fun zq6 => ?_) (fun zq6 => ?_)
  · exact absurd zq6 (by decide)
  · refine bi_const (n := 1) zx zb dX7_votes_9 ?_
    refine lv_goto (tgt := 28) zx zb dX7_votes_10 (by decide) ?_
    refine cvI (rest := []) (As := [.int (iI 1)]) (b := g.1 23) C0 hH (c_X7_isFine l g S 1 (by omega)) kw_X7_55 ky_X7_isFine ⟨Nat.le_of_ble_eq_true rfl, Nat.le_of_ble_eq_true rfl⟩ ⟨Nat.zero_le _, Nat.zero_le _⟩ 23 rfl rfl rfl hl.1 rfl (Nat.le_of_ble_eq_true rfl) dX7_votes_28 (fun H locs hH => ?_)
    show W p l e _ s m args below meth c H _ _ _ _ (F0 m 31 ls [.int (iI 0)])
    refine bz_eq (tgt := 43) zx zb dX7_votes_31 (by decide) ⟨by omega, by omega⟩ (fun zq31 => ?_) (fun zq31 => ?_)
    · refine bi_const (n := 0) zx zb dX7_votes_43 ?_
      exact retI C0 hret hlk hH (by rfl) (rfl) dX7_votes_44
    · exact absurd zq31 (by decide)
set_option maxRecDepth 100000 in
set_option maxHeartbeats 4000000 in
theorem f2_X7_votes (l : Launch) (g : gT) (S : gSt) (f n : Int) (hnf : 0 ≤ S 23 7 ∧ S 23 7 ≤ 8) (hfo : 0 ≤ f ∧ f < S 23 7) (hr_n : -2147483648 ≤ n ∧ n < 2147483648) (hbad : ¬(0 ≤ n ∧ n ≤ 9)) : MetG l g yX7_votes cX7_votes 3 (some .int) 2 43 [.ref (g.1 23), .int (iI f), .int (iI n)] S (some (.int (iI 0))) (st S 23 0 2) := by
  refine bodyG (by decide +kernel) (Nat.le_of_ble_eq_true rfl) ?_
  intro p e s m args below meth c ls C0 hret hlk hl hH
  have zx := C0.1
  have zb := C0.2.1
  have hl : lv_has ls 3 [(0, .ref (g.1 23)), (1, .int (iI f)), (2, .int (iI n))] := hl
  obtain ⟨H, hHe⟩ : ∃ H : Heap, H = s.heap := ⟨_, rfl⟩
  rw [show (Hp g S s s.heap []) = Hp g S s H [] by rw [hHe]] at hH
  rw [← hHe]
  refine lv_aload_n zx zb dX7_votes_0 rfl (lv_at hl 0 rfl) ?_
  refine lv_aload_n zx zb dX7_votes_1 rfl (lv_at hl 0 rfl) ?_
  refine lv_iload_n zx zb dX7_votes_2 rfl (lv_at hl 1 rfl) ?_
  refine cvI (rest := [.ref (g.1 23)]) (As := [.int (iI f)]) (b := g.1 23) C0 hH (c_X7_isFigure l g S f (by omega) (by omega)) kw_X7_80 ky_X7_isFigure ⟨Nat.le_of_ble_eq_true rfl, Nat.le_of_ble_eq_true rfl⟩ ⟨Nat.zero_le _, Nat.zero_le _⟩ 23 rfl rfl rfl hl.1 rfl (Nat.le_of_ble_eq_true rfl) dX7_votes_3 (fun H locs hH => ?_)
  rw [show (if 0 ≤ f ∧ f < S 23 7 then (1 : Int) else 0) = 1 from if_pos hfo]
  refine bz_ne (tgt := 13) zx zb dX7_votes_6 (by decide) ⟨by omega, by omega⟩ (fun zq6 => ?_) (fun zq6 => ?_)
  · refine lv_iload_n zx zb dX7_votes_13 rfl (lv_at hl 2 rfl) ?_
    refine bi_const (n := 0) zx zb dX7_votes_14 ?_
    refine bi_bip (n := 9) zx zb dX7_votes_15 (by decide) ?_
    refine csI (rest := [.ref (g.1 23)]) (As := [.int (iI n), .int (iI 0), .int (iI 9)]) C0 hH (c_X7_isIn l g S n 0 9 (by omega) (by omega) (by omega)) kw_X7_44 ky_X7_isIn ⟨Nat.le_of_ble_eq_true rfl, Nat.le_of_ble_eq_true rfl⟩ ⟨Nat.zero_le _, Nat.zero_le _⟩ rfl hl.1 rfl (Nat.le_of_ble_eq_true rfl) dX7_votes_17 (fun H locs hH => ?_)
    rw [show (if 0 ≤ n ∧ n ≤ 9 then (1 : Int) else 0) = 0 from if_neg hbad]
    refine bz_ne (tgt := 27) zx zb dX7_votes_20 (by decide) ⟨by omega, by omega⟩ (fun zq20 => ?_) (fun zq20 => ?_)
    · exact absurd zq20 (by decide)
    · refine bi_const (n := 2) zx zb dX7_votes_23 ?_
      refine lv_goto (tgt := 28) zx zb dX7_votes_24 (by decide) ?_
      refine cvI (rest := []) (As := [.int (iI 2)]) (b := g.1 23) C0 hH (c_X7_isFine l g S 2 (by omega)) kw_X7_55 ky_X7_isFine ⟨Nat.le_of_ble_eq_true rfl, Nat.le_of_ble_eq_true rfl⟩ ⟨Nat.zero_le _, Nat.zero_le _⟩ 23 rfl rfl rfl hl.1 rfl (Nat.le_of_ble_eq_true rfl) dX7_votes_28 (fun H locs hH => ?_)
      show W p l e _ s m args below meth c H _ _ _ _ (F0 m 31 ls [.int (iI 0)])
      refine bz_eq (tgt := 43) zx zb dX7_votes_31 (by decide) ⟨by omega, by omega⟩ (fun zq31 => ?_) (fun zq31 => ?_)
      · refine bi_const (n := 0) zx zb dX7_votes_43 ?_
        exact retI C0 hret hlk hH (by rfl) (rfl) dX7_votes_44
      · exact absurd zq31 (by decide)
  · exact absurd zq6 (by decide)
set_option maxRecDepth 100000 in
set_option maxHeartbeats 4000000 in
theorem c_X7_nameOf (l : Launch) (g : gT) (S : gSt) (f : Int) (hnf : 0 ≤ S 23 7 ∧ S 23 7 ≤ 8) (hfo : 0 ≤ f ∧ f < S 23 7) (hV : okV (S 29)) : MetG l g yX7_nameOf cX7_nameOf 2 (some .int) 3 69 [.ref (g.1 23), .int (iI f)] S (some (.int (iI (nmM (vtI (S 29)) (S 23 7) (S 30) f)))) (gvM (st S 23 0 0)) := by
  refine bodyG (by decide +kernel) (Nat.le_of_ble_eq_true rfl) ?_
  intro p e s m args below meth c ls C0 hret hlk hl hH
  have zx := C0.1
  have zb := C0.2.1
  have hl : lv_has ls 2 [(0, .ref (g.1 23)), (1, .int (iI f))] := hl
  obtain ⟨H, hHe⟩ : ∃ H : Heap, H = s.heap := ⟨_, rfl⟩
  rw [show (Hp g S s s.heap []) = Hp g S s H [] by rw [hHe]] at hH
  rw [← hHe]
  refine lv_aload_n zx zb dX7_nameOf_0 rfl (lv_at hl 0 rfl) ?_
  refine lv_aload_n zx zb dX7_nameOf_1 rfl (lv_at hl 0 rfl) ?_
  refine lv_iload_n zx zb dX7_nameOf_2 rfl (lv_at hl 1 rfl) ?_
  refine cvI (rest := [.ref (g.1 23)]) (As := [.int (iI f)]) (b := g.1 23) C0 hH (c_X7_isFigure l g S f (by omega) (by omega)) kw_X7_80 ky_X7_isFigure ⟨Nat.le_of_ble_eq_true rfl, Nat.le_of_ble_eq_true rfl⟩ ⟨Nat.zero_le _, Nat.zero_le _⟩ 23 rfl rfl rfl hl.1 rfl (Nat.le_of_ble_eq_true rfl) dX7_nameOf_3 (fun H locs hH => ?_)
  rw [show (if 0 ≤ f ∧ f < S 23 7 then (1 : Int) else 0) = 1 from if_pos hfo]
  refine bz_eq (tgt := 13) zx zb dX7_nameOf_6 (by decide) ⟨by omega, by omega⟩ (fun zq6 => ?_) (fun zq6 => ?_)
  · exact absurd zq6 (by decide)
  · refine bi_const (n := 0) zx zb dX7_nameOf_9 ?_
    refine lv_goto (tgt := 14) zx zb dX7_nameOf_10 (by decide) ?_
    refine cvI (rest := []) (As := [.int (iI 0)]) (b := g.1 23) C0 hH (c_X7_isFine l g S 0 (by omega)) kw_X7_55 ky_X7_isFine ⟨Nat.le_of_ble_eq_true rfl, Nat.le_of_ble_eq_true rfl⟩ ⟨Nat.zero_le _, Nat.zero_le _⟩ 23 rfl rfl rfl hl.1 rfl (Nat.le_of_ble_eq_true rfl) dX7_nameOf_14 (fun H locs hH => ?_)
    show W p l e _ s m args below meth c H _ _ _ _ (F0 m 17 ls [.int (iI 1)])
    refine bz_eq (tgt := 28) zx zb dX7_nameOf_17 (by decide) ⟨by omega, by omega⟩ (fun zq17 => ?_) (fun zq17 => ?_)
    · exact absurd zq17 (by decide)
    · refine lv_aload_n zx zb dX7_nameOf_20 rfl (lv_at hl 0 rfl) ?_
      refine lv_iload_n zx zb dX7_nameOf_21 rfl (lv_at hl 1 rfl) ?_
      refine cvI (rest := []) (As := [.int (iI f)]) (b := g.1 23) C0 hH (c_X7_nameNow l g (st S 23 0 0) f (by omega) (hnf) (hV)) kw_X7_115 ky_X7_nameNow ⟨Nat.le_of_ble_eq_true rfl, Nat.le_of_ble_eq_true rfl⟩ ⟨Nat.zero_le _, Nat.zero_le _⟩ 23 rfl rfl rfl hl.1 rfl (Nat.le_of_ble_eq_true rfl) dX7_nameOf_22 (fun H locs hH => ?_)
      show W p l e _ s m args below meth c H _ _ _ _ (F0 m 25 ls [.int (iI (nmM (vtI (S 29)) (S 23 7) (S 30) f))])
      refine lv_goto (tgt := 29) zx zb dX7_nameOf_25 (by decide) ?_
      exact retI C0 hret hlk hH (by rfl) (rfl) dX7_nameOf_29
set_option maxRecDepth 100000 in
set_option maxHeartbeats 4000000 in
theorem f1_X7_nameOf (l : Launch) (g : gT) (S : gSt) (f : Int) (hnf : 0 ≤ S 23 7 ∧ S 23 7 ≤ 8) (hr_f : -2147483648 ≤ f ∧ f < 2147483648) (hfb : ¬(0 ≤ f ∧ f < S 23 7)) : MetG l g yX7_nameOf cX7_nameOf 2 (some .int) 2 43 [.ref (g.1 23), .int (iI f)] S (some (.int (iI 0))) (st S 23 0 1) := by
  refine bodyG (by decide +kernel) (Nat.le_of_ble_eq_true rfl) ?_
  intro p e s m args below meth c ls C0 hret hlk hl hH
  have zx := C0.1
  have zb := C0.2.1
  have hl : lv_has ls 2 [(0, .ref (g.1 23)), (1, .int (iI f))] := hl
  obtain ⟨H, hHe⟩ : ∃ H : Heap, H = s.heap := ⟨_, rfl⟩
  rw [show (Hp g S s s.heap []) = Hp g S s H [] by rw [hHe]] at hH
  rw [← hHe]
  refine lv_aload_n zx zb dX7_nameOf_0 rfl (lv_at hl 0 rfl) ?_
  refine lv_aload_n zx zb dX7_nameOf_1 rfl (lv_at hl 0 rfl) ?_
  refine lv_iload_n zx zb dX7_nameOf_2 rfl (lv_at hl 1 rfl) ?_
  refine cvI (rest := [.ref (g.1 23)]) (As := [.int (iI f)]) (b := g.1 23) C0 hH (c_X7_isFigure l g S f (by omega) (by omega)) kw_X7_80 ky_X7_isFigure ⟨Nat.le_of_ble_eq_true rfl, Nat.le_of_ble_eq_true rfl⟩ ⟨Nat.zero_le _, Nat.zero_le _⟩ 23 rfl rfl rfl hl.1 rfl (Nat.le_of_ble_eq_true rfl) dX7_nameOf_3 (fun H locs hH => ?_)
  rw [show (if 0 ≤ f ∧ f < S 23 7 then (1 : Int) else 0) = 0 from if_neg hfb]
  refine bz_eq (tgt := 13) zx zb dX7_nameOf_6 (by decide) ⟨by omega, by omega⟩ (fun zq6 => ?_) (fun zq6 => ?_)
  · refine bi_const (n := 1) zx zb dX7_nameOf_13 ?_
    refine cvI (rest := []) (As := [.int (iI 1)]) (b := g.1 23) C0 hH (c_X7_isFine l g S 1 (by omega)) kw_X7_55 ky_X7_isFine ⟨Nat.le_of_ble_eq_true rfl, Nat.le_of_ble_eq_true rfl⟩ ⟨Nat.zero_le _, Nat.zero_le _⟩ 23 rfl rfl rfl hl.1 rfl (Nat.le_of_ble_eq_true rfl) dX7_nameOf_14 (fun H locs hH => ?_)
    show W p l e _ s m args below meth c H _ _ _ _ (F0 m 17 ls [.int (iI 0)])
    refine bz_eq (tgt := 28) zx zb dX7_nameOf_17 (by decide) ⟨by omega, by omega⟩ (fun zq17 => ?_) (fun zq17 => ?_)
    · refine bi_const (n := 0) zx zb dX7_nameOf_28 ?_
      exact retI C0 hret hlk hH (by rfl) (rfl) dX7_nameOf_29
    · exact absurd zq17 (by decide)
  · exact absurd zq6 (by decide)
set_option maxRecDepth 100000 in
set_option maxHeartbeats 4000000 in
theorem c_X7_height (l : Launch) (g : gT) (S : gSt) (z lat d h : Int) (hn1 : 0 ≤ S 23 3 ∧ S 23 3 ≤ 24) (hzo : 0 ≤ z ∧ z < S 23 3) (hto : (-90 ≤ lat ∧ lat ≤ 90) ∧ (0 ≤ d ∧ d < 365) ∧ (0 ≤ h ∧ h < 24)) (hC : okC (S 24) (S 25)) : MetG l g yX7_height cX7_height 5 (some .int) 3 69 [.ref (g.1 23), .int (iI z), .int (iI lat), .int (iI d), .int (iI h)] S (some (.int (iI (hg lat (S 25 z) (15 * h + d - S 24 z))))) (st S 23 0 0) := by
  refine bodyG (by decide +kernel) (Nat.le_of_ble_eq_true rfl) ?_
  intro p e s m args below meth c ls C0 hret hlk hl hH
  have zx := C0.1
  have zb := C0.2.1
  have hl : lv_has ls 5 [(0, .ref (g.1 23)), (1, .int (iI z)), (2, .int (iI lat)), (3, .int (iI d)), (4, .int (iI h))] := hl
  obtain ⟨H, hHe⟩ : ∃ H : Heap, H = s.heap := ⟨_, rfl⟩
  rw [show (Hp g S s s.heap []) = Hp g S s H [] by rw [hHe]] at hH
  rw [← hHe]
  refine lv_aload_n zx zb dX7_height_0 rfl (lv_at hl 0 rfl) ?_
  refine lv_aload_n zx zb dX7_height_1 rfl (lv_at hl 0 rfl) ?_
  refine lv_iload_n zx zb dX7_height_2 rfl (lv_at hl 1 rfl) ?_
  refine cvI (rest := [.ref (g.1 23)]) (As := [.int (iI z)]) (b := g.1 23) C0 hH (c_X7_isStar l g S z (by omega) (by omega)) kw_X7_62 ky_X7_isStar ⟨Nat.le_of_ble_eq_true rfl, Nat.le_of_ble_eq_true rfl⟩ ⟨Nat.zero_le _, Nat.zero_le _⟩ 23 rfl rfl rfl hl.1 rfl (Nat.le_of_ble_eq_true rfl) dX7_height_3 (fun H locs hH => ?_)
  rw [show (if 0 ≤ z ∧ z < S 23 3 then (1 : Int) else 0) = 1 from if_pos hzo]
  refine bz_ne (tgt := 13) zx zb dX7_height_6 (by decide) ⟨by omega, by omega⟩ (fun zq6 => ?_) (fun zq6 => ?_)
  · refine lv_iload_n zx zb dX7_height_13 rfl (lv_at hl 2 rfl) ?_
    refine lv_iload_n zx zb dX7_height_14 rfl (lv_at hl 3 rfl) ?_
    refine lv_iload zx zb dX7_height_15 (lv_at hl 4 rfl) ?_
    refine csI (rest := [.ref (g.1 23)]) (As := [.int (iI lat), .int (iI d), .int (iI h)]) C0 hH (c_X7_isTime l g S lat d h (by omega) (by omega) (by omega)) kw_X7_128 ky_X7_isTime ⟨Nat.le_of_ble_eq_true rfl, Nat.le_of_ble_eq_true rfl⟩ ⟨Nat.zero_le _, Nat.zero_le _⟩ rfl hl.1 rfl (Nat.le_of_ble_eq_true rfl) dX7_height_17 (fun H locs hH => ?_)
    rw [show (if (-90 ≤ lat ∧ lat ≤ 90) ∧ (0 ≤ d ∧ d < 365) ∧ (0 ≤ h ∧ h < 24) then (1 : Int) else 0) = 1 from if_pos hto]
    refine bz_ne (tgt := 27) zx zb dX7_height_20 (by decide) ⟨by omega, by omega⟩ (fun zq20 => ?_) (fun zq20 => ?_)
    · refine bi_const (n := 0) zx zb dX7_height_27 ?_
      refine cvI (rest := []) (As := [.int (iI 0)]) (b := g.1 23) C0 hH (c_X7_isFine l g S 0 (by omega)) kw_X7_55 ky_X7_isFine ⟨Nat.le_of_ble_eq_true rfl, Nat.le_of_ble_eq_true rfl⟩ ⟨Nat.zero_le _, Nat.zero_le _⟩ 23 rfl rfl rfl hl.1 rfl (Nat.le_of_ble_eq_true rfl) dX7_height_28 (fun H locs hH => ?_)
      show W p l e _ s m args below meth c H _ _ _ _ (F0 m 31 ls [.int (iI 1)])
      refine bz_eq (tgt := 46) zx zb dX7_height_31 (by decide) ⟨by omega, by omega⟩ (fun zq31 => ?_) (fun zq31 => ?_)
      · exact absurd zq31 (by decide)
      · refine lv_aload_n zx zb dX7_height_34 rfl (lv_at hl 0 rfl) ?_
        refine lv_iload_n zx zb dX7_height_35 rfl (lv_at hl 1 rfl) ?_
        refine lv_iload_n zx zb dX7_height_36 rfl (lv_at hl 2 rfl) ?_
        refine lv_iload_n zx zb dX7_height_37 rfl (lv_at hl 3 rfl) ?_
        refine lv_iload zx zb dX7_height_38 (lv_at hl 4 rfl) ?_
        refine cvI (rest := []) (As := [.int (iI z), .int (iI lat), .int (iI d), .int (iI h)]) (b := g.1 23) C0 hH (c_X7_heightNow l g (st S 23 0 0) z lat d h (by omega) (by omega) (by omega) (by omega) (hC)) kw_X7_131 ky_X7_heightNow ⟨Nat.le_of_ble_eq_true rfl, Nat.le_of_ble_eq_true rfl⟩ ⟨Nat.zero_le _, Nat.zero_le _⟩ 23 rfl rfl rfl hl.1 rfl (Nat.le_of_ble_eq_true rfl) dX7_height_40 (fun H locs hH => ?_)
        show W p l e _ s m args below meth c H _ _ _ _ (F0 m 43 ls [.int (iI (hg lat (S 25 z) (15 * h + d - (st S 23 0 0) 24 z)))])
        refine lv_goto (tgt := 47) zx zb dX7_height_43 (by decide) ?_
        exact retI C0 hret hlk hH (by rfl) (rfl) dX7_height_47
    · exact absurd zq20 (by decide)
  · exact absurd zq6 (by decide)
set_option maxRecDepth 100000 in
set_option maxHeartbeats 4000000 in
theorem f1_X7_height (l : Launch) (g : gT) (S : gSt) (z lat d h : Int) (hn1 : 0 ≤ S 23 3 ∧ S 23 3 ≤ 24) (hr_z : -2147483648 ≤ z ∧ z < 2147483648) (hr_lat : -2147483648 ≤ lat ∧ lat < 2147483648) (hr_d : -2147483648 ≤ d ∧ d < 2147483648) (hr_h : -2147483648 ≤ h ∧ h < 2147483648) (hzb : ¬(0 ≤ z ∧ z < S 23 3)) : MetG l g yX7_height cX7_height 5 (some .int) 2 43 [.ref (g.1 23), .int (iI z), .int (iI lat), .int (iI d), .int (iI h)] S (some (.int (iI 0))) (st S 23 0 1) := by
  refine bodyG (by decide +kernel) (Nat.le_of_ble_eq_true rfl) ?_
  intro p e s m args below meth c ls C0 hret hlk hl hH
  have zx := C0.1
  have zb := C0.2.1
  have hl : lv_has ls 5 [(0, .ref (g.1 23)), (1, .int (iI z)), (2, .int (iI lat)), (3, .int (iI d)), (4, .int (iI h))] := hl
  obtain ⟨H, hHe⟩ : ∃ H : Heap, H = s.heap := ⟨_, rfl⟩
  rw [show (Hp g S s s.heap []) = Hp g S s H [] by rw [hHe]] at hH
  rw [← hHe]
  refine lv_aload_n zx zb dX7_height_0 rfl (lv_at hl 0 rfl) ?_
  refine lv_aload_n zx zb dX7_height_1 rfl (lv_at hl 0 rfl) ?_
  refine lv_iload_n zx zb dX7_height_2 rfl (lv_at hl 1 rfl) ?_
  refine cvI (rest := [.ref (g.1 23)]) (As := [.int (iI z)]) (b := g.1 23) C0 hH (c_X7_isStar l g S z (by omega) (by omega)) kw_X7_62 ky_X7_isStar ⟨Nat.le_of_ble_eq_true rfl, Nat.le_of_ble_eq_true rfl⟩ ⟨Nat.zero_le _, Nat.zero_le _⟩ 23 rfl rfl rfl hl.1 rfl (Nat.le_of_ble_eq_true rfl) dX7_height_3 (fun H locs hH => ?_)
  rw [show (if 0 ≤ z ∧ z < S 23 3 then (1 : Int) else 0) = 0 from if_neg hzb]
  refine bz_ne (tgt := 13) zx zb dX7_height_6 (by decide) ⟨by omega, by omega⟩ (fun zq6 => ?_) (fun zq6 => ?_)
  · exact absurd zq6 (by decide)
  · refine bi_const (n := 1) zx zb dX7_height_9 ?_
    refine lv_goto (tgt := 28) zx zb dX7_height_10 (by decide) ?_
    refine cvI (rest := []) (As := [.int (iI 1)]) (b := g.1 23) C0 hH (c_X7_isFine l g S 1 (by omega)) kw_X7_55 ky_X7_isFine ⟨Nat.le_of_ble_eq_true rfl, Nat.le_of_ble_eq_true rfl⟩ ⟨Nat.zero_le _, Nat.zero_le _⟩ 23 rfl rfl rfl hl.1 rfl (Nat.le_of_ble_eq_true rfl) dX7_height_28 (fun H locs hH => ?_)
    show W p l e _ s m args below meth c H _ _ _ _ (F0 m 31 ls [.int (iI 0)])
    refine bz_eq (tgt := 46) zx zb dX7_height_31 (by decide) ⟨by omega, by omega⟩ (fun zq31 => ?_) (fun zq31 => ?_)
    · refine bi_const (n := 0) zx zb dX7_height_46 ?_
      exact retI C0 hret hlk hH (by rfl) (rfl) dX7_height_47
    · exact absurd zq31 (by decide)
set_option maxRecDepth 100000 in
set_option maxHeartbeats 4000000 in
theorem f2_X7_height (l : Launch) (g : gT) (S : gSt) (z lat d h : Int) (hn1 : 0 ≤ S 23 3 ∧ S 23 3 ≤ 24) (hzo : 0 ≤ z ∧ z < S 23 3) (hr_lat : -2147483648 ≤ lat ∧ lat < 2147483648) (hr_d : -2147483648 ≤ d ∧ d < 2147483648) (hr_h : -2147483648 ≤ h ∧ h < 2147483648) (htb : ¬((-90 ≤ lat ∧ lat ≤ 90) ∧ (0 ≤ d ∧ d < 365) ∧ (0 ≤ h ∧ h < 24))) : MetG l g yX7_height cX7_height 5 (some .int) 2 44 [.ref (g.1 23), .int (iI z), .int (iI lat), .int (iI d), .int (iI h)] S (some (.int (iI 0))) (st S 23 0 2) := by
  refine bodyG (by decide +kernel) (Nat.le_of_ble_eq_true rfl) ?_
  intro p e s m args below meth c ls C0 hret hlk hl hH
  have zx := C0.1
  have zb := C0.2.1
  have hl : lv_has ls 5 [(0, .ref (g.1 23)), (1, .int (iI z)), (2, .int (iI lat)), (3, .int (iI d)), (4, .int (iI h))] := hl
  obtain ⟨H, hHe⟩ : ∃ H : Heap, H = s.heap := ⟨_, rfl⟩
  rw [show (Hp g S s s.heap []) = Hp g S s H [] by rw [hHe]] at hH
  rw [← hHe]
  refine lv_aload_n zx zb dX7_height_0 rfl (lv_at hl 0 rfl) ?_
  refine lv_aload_n zx zb dX7_height_1 rfl (lv_at hl 0 rfl) ?_
  refine lv_iload_n zx zb dX7_height_2 rfl (lv_at hl 1 rfl) ?_
  refine cvI (rest := [.ref (g.1 23)]) (As := [.int (iI z)]) (b := g.1 23) C0 hH (c_X7_isStar l g S z (by omega) (by omega)) kw_X7_62 ky_X7_isStar ⟨Nat.le_of_ble_eq_true rfl, Nat.le_of_ble_eq_true rfl⟩ ⟨Nat.zero_le _, Nat.zero_le _⟩ 23 rfl rfl rfl hl.1 rfl (Nat.le_of_ble_eq_true rfl) dX7_height_3 (fun H locs hH => ?_)
  rw [show (if 0 ≤ z ∧ z < S 23 3 then (1 : Int) else 0) = 1 from if_pos hzo]
  refine bz_ne (tgt := 13) zx zb dX7_height_6 (by decide) ⟨by omega, by omega⟩ (fun zq6 => ?_) (fun zq6 => ?_)
  · refine lv_iload_n zx zb dX7_height_13 rfl (lv_at hl 2 rfl) ?_
    refine lv_iload_n zx zb dX7_height_14 rfl (lv_at hl 3 rfl) ?_
    refine lv_iload zx zb dX7_height_15 (lv_at hl 4 rfl) ?_
    refine csI (rest := [.ref (g.1 23)]) (As := [.int (iI lat), .int (iI d), .int (iI h)]) C0 hH (c_X7_isTime l g S lat d h (by omega) (by omega) (by omega)) kw_X7_128 ky_X7_isTime ⟨Nat.le_of_ble_eq_true rfl, Nat.le_of_ble_eq_true rfl⟩ ⟨Nat.zero_le _, Nat.zero_le _⟩ rfl hl.1 rfl (Nat.le_of_ble_eq_true rfl) dX7_height_17 (fun H locs hH => ?_)
    rw [show (if (-90 ≤ lat ∧ lat ≤ 90) ∧ (0 ≤ d ∧ d < 365) ∧ (0 ≤ h ∧ h < 24) then (1 : Int) else 0) = 0 from if_neg htb]
    refine bz_ne (tgt := 27) zx zb dX7_height_20 (by decide) ⟨by omega, by omega⟩ (fun zq20 => ?_) (fun zq20 => ?_)
    · exact absurd zq20 (by decide)
    · refine bi_const (n := 2) zx zb dX7_height_23 ?_
      refine lv_goto (tgt := 28) zx zb dX7_height_24 (by decide) ?_
      refine cvI (rest := []) (As := [.int (iI 2)]) (b := g.1 23) C0 hH (c_X7_isFine l g S 2 (by omega)) kw_X7_55 ky_X7_isFine ⟨Nat.le_of_ble_eq_true rfl, Nat.le_of_ble_eq_true rfl⟩ ⟨Nat.zero_le _, Nat.zero_le _⟩ 23 rfl rfl rfl hl.1 rfl (Nat.le_of_ble_eq_true rfl) dX7_height_28 (fun H locs hH => ?_)
      show W p l e _ s m args below meth c H _ _ _ _ (F0 m 31 ls [.int (iI 0)])
      refine bz_eq (tgt := 46) zx zb dX7_height_31 (by decide) ⟨by omega, by omega⟩ (fun zq31 => ?_) (fun zq31 => ?_)
      · refine bi_const (n := 0) zx zb dX7_height_46 ?_
        exact retI C0 hret hlk hH (by rfl) (rfl) dX7_height_47
      · exact absurd zq31 (by decide)
  · exact absurd zq6 (by decide)
set_option maxRecDepth 100000 in
set_option maxHeartbeats 4000000 in
theorem c_X7_isUp (l : Launch) (g : gT) (S : gSt) (f lat d h : Int) (hnf : 0 ≤ S 23 7 ∧ S 23 7 ≤ 8) (hfo : 0 ≤ f ∧ f < S 23 7) (hto : (-90 ≤ lat ∧ lat ≤ 90) ∧ (0 ≤ d ∧ d < 365) ∧ (0 ≤ h ∧ h < 24)) (hN : okN (S 28)) (hE : okE (S 28) (S 26)) (hO : okE (S 28) (S 27)) (hC : okC (S 24) (S 25)) : MetG l g yX7_isUp cX7_isUp 5 (some .boolean) 5 121 [.ref (g.1 23), .int (iI f), .int (iI lat), .int (iI d), .int (iI h)] S (some (.int (iI (if upM (S 28) (S 26) (S 27) (S 24) (S 25) f lat (15 * h + d) = true then 1 else 0)))) (st S 23 0 0) := by
  refine bodyG (by decide +kernel) (Nat.le_of_ble_eq_true rfl) ?_
  intro p e s m args below meth c ls C0 hret hlk hl hH
  have zx := C0.1
  have zb := C0.2.1
  have hl : lv_has ls 5 [(0, .ref (g.1 23)), (1, .int (iI f)), (2, .int (iI lat)), (3, .int (iI d)), (4, .int (iI h))] := hl
  obtain ⟨H, hHe⟩ : ∃ H : Heap, H = s.heap := ⟨_, rfl⟩
  rw [show (Hp g S s s.heap []) = Hp g S s H [] by rw [hHe]] at hH
  rw [← hHe]
  refine lv_aload_n zx zb dX7_isUp_0 rfl (lv_at hl 0 rfl) ?_
  refine lv_aload_n zx zb dX7_isUp_1 rfl (lv_at hl 0 rfl) ?_
  refine lv_iload_n zx zb dX7_isUp_2 rfl (lv_at hl 1 rfl) ?_
  refine cvI (rest := [.ref (g.1 23)]) (As := [.int (iI f)]) (b := g.1 23) C0 hH (c_X7_isFigure l g S f (by omega) (by omega)) kw_X7_80 ky_X7_isFigure ⟨Nat.le_of_ble_eq_true rfl, Nat.le_of_ble_eq_true rfl⟩ ⟨Nat.zero_le _, Nat.zero_le _⟩ 23 rfl rfl rfl hl.1 rfl (Nat.le_of_ble_eq_true rfl) dX7_isUp_3 (fun H locs hH => ?_)
  rw [show (if 0 ≤ f ∧ f < S 23 7 then (1 : Int) else 0) = 1 from if_pos hfo]
  refine bz_ne (tgt := 13) zx zb dX7_isUp_6 (by decide) ⟨by omega, by omega⟩ (fun zq6 => ?_) (fun zq6 => ?_)
  · refine lv_iload_n zx zb dX7_isUp_13 rfl (lv_at hl 2 rfl) ?_
    refine lv_iload_n zx zb dX7_isUp_14 rfl (lv_at hl 3 rfl) ?_
    refine lv_iload zx zb dX7_isUp_15 (lv_at hl 4 rfl) ?_
    refine csI (rest := [.ref (g.1 23)]) (As := [.int (iI lat), .int (iI d), .int (iI h)]) C0 hH (c_X7_isTime l g S lat d h (by omega) (by omega) (by omega)) kw_X7_128 ky_X7_isTime ⟨Nat.le_of_ble_eq_true rfl, Nat.le_of_ble_eq_true rfl⟩ ⟨Nat.zero_le _, Nat.zero_le _⟩ rfl hl.1 rfl (Nat.le_of_ble_eq_true rfl) dX7_isUp_17 (fun H locs hH => ?_)
    rw [show (if (-90 ≤ lat ∧ lat ≤ 90) ∧ (0 ≤ d ∧ d < 365) ∧ (0 ≤ h ∧ h < 24) then (1 : Int) else 0) = 1 from if_pos hto]
    refine bz_ne (tgt := 27) zx zb dX7_isUp_20 (by decide) ⟨by omega, by omega⟩ (fun zq20 => ?_) (fun zq20 => ?_)
    · refine bi_const (n := 0) zx zb dX7_isUp_27 ?_
      refine cvI (rest := []) (As := [.int (iI 0)]) (b := g.1 23) C0 hH (c_X7_isFine l g S 0 (by omega)) kw_X7_55 ky_X7_isFine ⟨Nat.le_of_ble_eq_true rfl, Nat.le_of_ble_eq_true rfl⟩ ⟨Nat.zero_le _, Nat.zero_le _⟩ 23 rfl rfl rfl hl.1 rfl (Nat.le_of_ble_eq_true rfl) dX7_isUp_28 (fun H locs hH => ?_)
      show W p l e _ s m args below meth c H _ _ _ _ (F0 m 31 ls [.int (iI 1)])
      refine bz_eq (tgt := 50) zx zb dX7_isUp_31 (by decide) ⟨by omega, by omega⟩ (fun zq31 => ?_) (fun zq31 => ?_)
      · exact absurd zq31 (by decide)
      · refine lv_aload_n zx zb dX7_isUp_34 rfl (lv_at hl 0 rfl) ?_
        refine lv_iload_n zx zb dX7_isUp_35 rfl (lv_at hl 1 rfl) ?_
        refine lv_iload_n zx zb dX7_isUp_36 rfl (lv_at hl 2 rfl) ?_
        refine lv_iload_n zx zb dX7_isUp_37 rfl (lv_at hl 3 rfl) ?_
        refine lv_iload zx zb dX7_isUp_38 (lv_at hl 4 rfl) ?_
        refine cvI (rest := []) (As := [.int (iI f), .int (iI lat), .int (iI d), .int (iI h)]) (b := g.1 23) C0 hH (c_X7_isUpNow l g (st S 23 0 0) f lat d h (by omega) (by omega) (by omega) (by omega) (hN) (hE) (hO) (hC)) kw_X7_138 ky_X7_isUpNow ⟨Nat.le_of_ble_eq_true rfl, Nat.le_of_ble_eq_true rfl⟩ ⟨Nat.zero_le _, Nat.zero_le _⟩ 23 rfl rfl rfl hl.1 rfl (Nat.le_of_ble_eq_true rfl) dX7_isUp_40 (fun H locs hH => ?_)
        show W p l e _ s m args below meth c H _ _ _ _ (F0 m 43 ls [.int (iI (if upM (S 28) (S 26) (S 27) (S 24) (S 25) f lat (15 * h + d) = true then 1 else 0))])
        have hb43 := brg (upM (S 28) (S 26) (S 27) (S 24) (S 25) f lat (15 * h + d))
        refine bz_eq (tgt := 50) zx zb dX7_isUp_43 (by decide) ⟨by omega, by omega⟩ (fun zq43 => ?_) (fun zq43 => ?_)
        · refine bi_const (n := 0) zx zb dX7_isUp_50 ?_
          exact retZ C0 hret hlk hH (by first | (rw [b1 zq43]; rfl) | (rw [b0 zq43]; rfl)) (by omega) (rfl) dX7_isUp_51
        · refine bi_const (n := 1) zx zb dX7_isUp_46 ?_
          refine lv_goto (tgt := 51) zx zb dX7_isUp_47 (by decide) ?_
          exact retZ C0 hret hlk hH (by first | (rw [b1 zq43]; rfl) | (rw [b0 zq43]; rfl)) (by omega) (rfl) dX7_isUp_51
    · exact absurd zq20 (by decide)
  · exact absurd zq6 (by decide)
set_option maxRecDepth 100000 in
set_option maxHeartbeats 4000000 in
theorem f1_X7_isUp (l : Launch) (g : gT) (S : gSt) (f lat d h : Int) (hnf : 0 ≤ S 23 7 ∧ S 23 7 ≤ 8) (hr_f : -2147483648 ≤ f ∧ f < 2147483648) (hr_lat : -2147483648 ≤ lat ∧ lat < 2147483648) (hr_d : -2147483648 ≤ d ∧ d < 2147483648) (hr_h : -2147483648 ≤ h ∧ h < 2147483648) (hfb : ¬(0 ≤ f ∧ f < S 23 7)) : MetG l g yX7_isUp cX7_isUp 5 (some .boolean) 2 43 [.ref (g.1 23), .int (iI f), .int (iI lat), .int (iI d), .int (iI h)] S (some (.int (iI 0))) (st S 23 0 1) := by
  refine bodyG (by decide +kernel) (Nat.le_of_ble_eq_true rfl) ?_
  intro p e s m args below meth c ls C0 hret hlk hl hH
  have zx := C0.1
  have zb := C0.2.1
  have hl : lv_has ls 5 [(0, .ref (g.1 23)), (1, .int (iI f)), (2, .int (iI lat)), (3, .int (iI d)), (4, .int (iI h))] := hl
  obtain ⟨H, hHe⟩ : ∃ H : Heap, H = s.heap := ⟨_, rfl⟩
  rw [show (Hp g S s s.heap []) = Hp g S s H [] by rw [hHe]] at hH
  rw [← hHe]
  refine lv_aload_n zx zb dX7_isUp_0 rfl (lv_at hl 0 rfl) ?_
  refine lv_aload_n zx zb dX7_isUp_1 rfl (lv_at hl 0 rfl) ?_
  refine lv_iload_n zx zb dX7_isUp_2 rfl (lv_at hl 1 rfl) ?_
  refine cvI (rest := [.ref (g.1 23)]) (As := [.int (iI f)]) (b := g.1 23) C0 hH (c_X7_isFigure l g S f (by omega) (by omega)) kw_X7_80 ky_X7_isFigure ⟨Nat.le_of_ble_eq_true rfl, Nat.le_of_ble_eq_true rfl⟩ ⟨Nat.zero_le _, Nat.zero_le _⟩ 23 rfl rfl rfl hl.1 rfl (Nat.le_of_ble_eq_true rfl) dX7_isUp_3 (fun H locs hH => ?_)
  rw [show (if 0 ≤ f ∧ f < S 23 7 then (1 : Int) else 0) = 0 from if_neg hfb]
  refine bz_ne (tgt := 13) zx zb dX7_isUp_6 (by decide) ⟨by omega, by omega⟩ (fun zq6 => ?_) (fun zq6 => ?_)
  · exact absurd zq6 (by decide)
  · refine bi_const (n := 1) zx zb dX7_isUp_9 ?_
    refine lv_goto (tgt := 28) zx zb dX7_isUp_10 (by decide) ?_
    refine cvI (rest := []) (As := [.int (iI 1)]) (b := g.1 23) C0 hH (c_X7_isFine l g S 1 (by omega)) kw_X7_55 ky_X7_isFine ⟨Nat.le_of_ble_eq_true rfl, Nat.le_of_ble_eq_true rfl⟩ ⟨Nat.zero_le _, Nat.zero_le _⟩ 23 rfl rfl rfl hl.1 rfl (Nat.le_of_ble_eq_true rfl) dX7_isUp_28 (fun H locs hH => ?_)
    show W p l e _ s m args below meth c H _ _ _ _ (F0 m 31 ls [.int (iI 0)])
    refine bz_eq (tgt := 50) zx zb dX7_isUp_31 (by decide) ⟨by omega, by omega⟩ (fun zq31 => ?_) (fun zq31 => ?_)
    · refine bi_const (n := 0) zx zb dX7_isUp_50 ?_
      exact retZ C0 hret hlk hH (by rfl) (by omega) (rfl) dX7_isUp_51
    · exact absurd zq31 (by decide)
set_option maxRecDepth 100000 in
set_option maxHeartbeats 4000000 in
theorem f2_X7_isUp (l : Launch) (g : gT) (S : gSt) (f lat d h : Int) (hnf : 0 ≤ S 23 7 ∧ S 23 7 ≤ 8) (hfo : 0 ≤ f ∧ f < S 23 7) (hr_lat : -2147483648 ≤ lat ∧ lat < 2147483648) (hr_d : -2147483648 ≤ d ∧ d < 2147483648) (hr_h : -2147483648 ≤ h ∧ h < 2147483648) (htb : ¬((-90 ≤ lat ∧ lat ≤ 90) ∧ (0 ≤ d ∧ d < 365) ∧ (0 ≤ h ∧ h < 24))) : MetG l g yX7_isUp cX7_isUp 5 (some .boolean) 2 44 [.ref (g.1 23), .int (iI f), .int (iI lat), .int (iI d), .int (iI h)] S (some (.int (iI 0))) (st S 23 0 2) := by
  refine bodyG (by decide +kernel) (Nat.le_of_ble_eq_true rfl) ?_
  intro p e s m args below meth c ls C0 hret hlk hl hH
  have zx := C0.1
  have zb := C0.2.1
  have hl : lv_has ls 5 [(0, .ref (g.1 23)), (1, .int (iI f)), (2, .int (iI lat)), (3, .int (iI d)), (4, .int (iI h))] := hl
  obtain ⟨H, hHe⟩ : ∃ H : Heap, H = s.heap := ⟨_, rfl⟩
  rw [show (Hp g S s s.heap []) = Hp g S s H [] by rw [hHe]] at hH
  rw [← hHe]
  refine lv_aload_n zx zb dX7_isUp_0 rfl (lv_at hl 0 rfl) ?_
  refine lv_aload_n zx zb dX7_isUp_1 rfl (lv_at hl 0 rfl) ?_
  refine lv_iload_n zx zb dX7_isUp_2 rfl (lv_at hl 1 rfl) ?_
  refine cvI (rest := [.ref (g.1 23)]) (As := [.int (iI f)]) (b := g.1 23) C0 hH (c_X7_isFigure l g S f (by omega) (by omega)) kw_X7_80 ky_X7_isFigure ⟨Nat.le_of_ble_eq_true rfl, Nat.le_of_ble_eq_true rfl⟩ ⟨Nat.zero_le _, Nat.zero_le _⟩ 23 rfl rfl rfl hl.1 rfl (Nat.le_of_ble_eq_true rfl) dX7_isUp_3 (fun H locs hH => ?_)
  rw [show (if 0 ≤ f ∧ f < S 23 7 then (1 : Int) else 0) = 1 from if_pos hfo]
  refine bz_ne (tgt := 13) zx zb dX7_isUp_6 (by decide) ⟨by omega, by omega⟩ (fun zq6 => ?_) (fun zq6 => ?_)
  · refine lv_iload_n zx zb dX7_isUp_13 rfl (lv_at hl 2 rfl) ?_
    refine lv_iload_n zx zb dX7_isUp_14 rfl (lv_at hl 3 rfl) ?_
    refine lv_iload zx zb dX7_isUp_15 (lv_at hl 4 rfl) ?_
    refine csI (rest := [.ref (g.1 23)]) (As := [.int (iI lat), .int (iI d), .int (iI h)]) C0 hH (c_X7_isTime l g S lat d h (by omega) (by omega) (by omega)) kw_X7_128 ky_X7_isTime ⟨Nat.le_of_ble_eq_true rfl, Nat.le_of_ble_eq_true rfl⟩ ⟨Nat.zero_le _, Nat.zero_le _⟩ rfl hl.1 rfl (Nat.le_of_ble_eq_true rfl) dX7_isUp_17 (fun H locs hH => ?_)
    rw [show (if (-90 ≤ lat ∧ lat ≤ 90) ∧ (0 ≤ d ∧ d < 365) ∧ (0 ≤ h ∧ h < 24) then (1 : Int) else 0) = 0 from if_neg htb]
    refine bz_ne (tgt := 27) zx zb dX7_isUp_20 (by decide) ⟨by omega, by omega⟩ (fun zq20 => ?_) (fun zq20 => ?_)
    · exact absurd zq20 (by decide)
    · refine bi_const (n := 2) zx zb dX7_isUp_23 ?_
      refine lv_goto (tgt := 28) zx zb dX7_isUp_24 (by decide) ?_
      refine cvI (rest := []) (As := [.int (iI 2)]) (b := g.1 23) C0 hH (c_X7_isFine l g S 2 (by omega)) kw_X7_55 ky_X7_isFine ⟨Nat.le_of_ble_eq_true rfl, Nat.le_of_ble_eq_true rfl⟩ ⟨Nat.zero_le _, Nat.zero_le _⟩ 23 rfl rfl rfl hl.1 rfl (Nat.le_of_ble_eq_true rfl) dX7_isUp_28 (fun H locs hH => ?_)
      show W p l e _ s m args below meth c H _ _ _ _ (F0 m 31 ls [.int (iI 0)])
      refine bz_eq (tgt := 50) zx zb dX7_isUp_31 (by decide) ⟨by omega, by omega⟩ (fun zq31 => ?_) (fun zq31 => ?_)
      · refine bi_const (n := 0) zx zb dX7_isUp_50 ?_
        exact retZ C0 hret hlk hH (by rfl) (by omega) (rfl) dX7_isUp_51
      · exact absurd zq31 (by decide)
  · exact absurd zq6 (by decide)
set_option maxRecDepth 100000 in
set_option maxHeartbeats 4000000 in
theorem c_X7_hoursNow (l : Launch) (g : gT) (S : gSt) (f lat d : Int) (hnf : 0 ≤ S 23 7 ∧ S 23 7 ≤ 8) (hfo : 0 ≤ f ∧ f < S 23 7) (hto : (-90 ≤ lat ∧ lat ≤ 90) ∧ (0 ≤ d ∧ d < 365) ∧ (0 ≤ (0 : Int) ∧ (0 : Int) < 24)) (hN : okN (S 28)) (hE : okE (S 28) (S 26)) (hO : okE (S 28) (S 27)) (hC : okC (S 24) (S 25)) : MetG l g yX7_hoursNow cX7_hoursNow 6 (some .int) 5 121 [.ref (g.1 23), .int (iI f), .int (iI lat), .int (iI d)] S (some (.int (iI ((dyN (fun h => upM (S 28) (S 26) (S 27) (S 24) (S 25) f lat (15 * h + d)) : Nat) : Int)))) (st S 23 0 0) := by
  refine bodyG (by decide +kernel) (Nat.le_of_ble_eq_true rfl) ?_
  intro p e s m args below meth c ls C0 hret hlk hl hH
  have zx := C0.1
  have zb := C0.2.1
  have hl : lv_has ls 6 [(0, .ref (g.1 23)), (1, .int (iI f)), (2, .int (iI lat)), (3, .int (iI d))] := hl
  have L41 : ∀ (μ : Nat) (i : Int) (k : Nat), (24 - i).toNat = μ → (0 ≤ i ∧ i ≤ 24) → (dyN (fun h => upM (S 28) (S 26) (S 27) (S 24) (S 25) f lat (15 * h + d)) = lpF (dyQ (fun h => upM (S 28) (S 26) (S 27) (S 24) (S 25) f lat (15 * h + d))) (24 - i).toNat i k) → ∀ (H : Heap) (locs : List Loc), Hp g (st S 23 0 0) s H locs → ∀ ls : Array Slot, lv_has ls 6 [(0, .ref (g.1 23)), (1, .int (iI f)), (2, .int (iI lat)), (3, .int (iI d)), (4, .int (iI ((k : Nat) : Int))), (5, .int (iI i))] → W p l e { frames := 5, cells := 0, slots := 0, locals := 121 } s m args below meth c H locs 0 0 (MQ below (RetG g (some (.int (iI ((dyN (fun h => upM (S 28) (S 26) (S 27) (S 24) (S 25) f lat (15 * h + d)) : Nat) : Int)))) (st S 23 0 0)) args s 0 0 (oA g)) (F0 m 41 ls []) := by
    refine lpN (fun μ41 ih41 => ?_)
    intro i k hμ41 hi hR H locs hH ls hl
    refine lv_iload zx zb dX7_hoursNow_41 (lv_at hl 5 rfl) ?_
    refine bi_bip (n := 24) zx zb dX7_hoursNow_43 (by decide) ?_
    refine bq_ge (tgt := 79) zx zb dX7_hoursNow_45 (by decide) ⟨by omega, by omega⟩ ⟨by omega, by omega⟩ (fun zq45 => ?_) (fun zq45 => ?_)
    · refine lv_iload zx zb dX7_hoursNow_79 (lv_at hl 4 rfl) ?_
      exact retI C0 hret hlk hH (by rw [hR, lpF_e zq45]) (rfl) dX7_hoursNow_81
    · refine lv_iload zx zb dX7_hoursNow_48 (lv_at hl 4 rfl) ?_
      refine lv_aload_n zx zb dX7_hoursNow_50 rfl (lv_at hl 0 rfl) ?_
      refine lv_iload_n zx zb dX7_hoursNow_51 rfl (lv_at hl 1 rfl) ?_
      refine lv_iload_n zx zb dX7_hoursNow_52 rfl (lv_at hl 2 rfl) ?_
      refine lv_iload_n zx zb dX7_hoursNow_53 rfl (lv_at hl 3 rfl) ?_
      refine lv_iload zx zb dX7_hoursNow_54 (lv_at hl 5 rfl) ?_
      refine cvI (rest := [.int (iI ((k : Nat) : Int))]) (As := [.int (iI f), .int (iI lat), .int (iI d), .int (iI i)]) (b := g.1 23) C0 hH (c_X7_isUpNow l g (st S 23 0 0) f lat d i (by omega) (by omega) (by omega) (by omega) (hN) (hE) (hO) (hC)) kw_X7_138 ky_X7_isUpNow ⟨Nat.le_of_ble_eq_true rfl, Nat.le_of_ble_eq_true rfl⟩ ⟨Nat.zero_le _, Nat.zero_le _⟩ 23 rfl rfl rfl hl.1 rfl (Nat.le_of_ble_eq_true rfl) dX7_hoursNow_56 (fun H locs hH => ?_)
      show W p l e _ s m args below meth c H _ _ _ _ (F0 m 59 ls [.int (iI (if upM (S 28) (S 26) (S 27) (S 24) (S 25) f lat (15 * i + d) = true then 1 else 0)), .int (iI ((k : Nat) : Int))])
      have hb59 := brg (upM (S 28) (S 26) (S 27) (S 24) (S 25) f lat (15 * i + d))
      refine bz_eq (tgt := 69) zx zb dX7_hoursNow_59 (by decide) ⟨by omega, by omega⟩ (fun zq59 => ?_) (fun zq59 => ?_)
      · refine bi_const (n := 0) zx zb dX7_hoursNow_69 ?_
        refine bi_or (a := k) (b := 0) zx zb dX7_hoursNow_70 ?_
        refine lv_istore (lv' := [(4, .int (iI ((k ||| 0 : Nat) : Int))), (0, .ref (g.1 23)), (1, .int (iI f)), (2, .int (iI lat)), (3, .int (iI d)), (5, .int (iI i))]) zx zb dX7_hoursNow_71 hl (by decide) rfl (fun ls hl => ?_)
        refine bi_inc (k0 := 5) (n := 1) (lv' := [(5, .int (iI (i + 1))), (4, .int (iI ((k ||| 0 : Nat) : Int))), (0, .ref (g.1 23)), (1, .int (iI f)), (2, .int (iI lat)), (3, .int (iI d))]) zx zb dX7_hoursNow_73 hl rfl (by decide) rfl (fun ls hl => ?_)
        refine lv_goto (tgt := 41) zx zb dX7_hoursNow_76 (by decide) ?_
        exact ih41 ((24 - (i + 1)).toNat) (by omega) (i + 1) (k ||| 0) rfl (by omega) (by first | (rw [hR, lpF_s zq45, show dyQ (fun h => upM (S 28) (S 26) (S 27) (S 24) (S 25) f lat (15 * h + d)) i k = k ||| 0 from (dyQ_0 (p := (fun h => upM (S 28) (S 26) (S 27) (S 24) (S 25) f lat (15 * h + d))) (i := i) (a := k) (b0 zq59)).trans (Nat.or_zero k).symm]; done) | (rw [hR, lpF_s zq45, show dyQ (fun h => upM (S 28) (S 26) (S 27) (S 24) (S 25) f lat (15 * h + d)) i k = k ||| 2 ^ i.toNat from dyQ_1 (b1 zq59)]; done)) _ _ hH ls (lv_sub hl [2, 3, 4, 5, 1, 0] rfl)
      · refine bi_const (n := 1) zx zb dX7_hoursNow_62 ?_
        refine lv_iload zx zb dX7_hoursNow_63 (lv_at hl 5 rfl) ?_
        refine bi_shl zx zb dX7_hoursNow_65 (by omega) (by omega) ?_
        refine lv_goto (tgt := 70) zx zb dX7_hoursNow_66 (by decide) ?_
        refine bi_or (a := k) (b := 2 ^ i.toNat) zx zb dX7_hoursNow_70 ?_
        refine lv_istore (lv' := [(4, .int (iI ((k ||| (2 ^ i.toNat) : Nat) : Int))), (0, .ref (g.1 23)), (1, .int (iI f)), (2, .int (iI lat)), (3, .int (iI d)), (5, .int (iI i))]) zx zb dX7_hoursNow_71 hl (by decide) rfl (fun ls hl => ?_)
        refine bi_inc (k0 := 5) (n := 1) (lv' := [(5, .int (iI (i + 1))), (4, .int (iI ((k ||| (2 ^ i.toNat) : Nat) : Int))), (0, .ref (g.1 23)), (1, .int (iI f)), (2, .int (iI lat)), (3, .int (iI d))]) zx zb dX7_hoursNow_73 hl rfl (by decide) rfl (fun ls hl => ?_)
        refine lv_goto (tgt := 41) zx zb dX7_hoursNow_76 (by decide) ?_
        exact ih41 ((24 - (i + 1)).toNat) (by omega) (i + 1) (k ||| (2 ^ i.toNat)) rfl (by omega) (by first | (rw [hR, lpF_s zq45, show dyQ (fun h => upM (S 28) (S 26) (S 27) (S 24) (S 25) f lat (15 * h + d)) i k = k ||| 0 from (dyQ_0 (p := (fun h => upM (S 28) (S 26) (S 27) (S 24) (S 25) f lat (15 * h + d))) (i := i) (a := k) (b0 zq59)).trans (Nat.or_zero k).symm]; done) | (rw [hR, lpF_s zq45, show dyQ (fun h => upM (S 28) (S 26) (S 27) (S 24) (S 25) f lat (15 * h + d)) i k = k ||| 2 ^ i.toNat from dyQ_1 (b1 zq59)]; done)) _ _ hH ls (lv_sub hl [2, 3, 4, 5, 1, 0] rfl)
  obtain ⟨H, hHe⟩ : ∃ H : Heap, H = s.heap := ⟨_, rfl⟩
  rw [show (Hp g S s s.heap []) = Hp g S s H [] by rw [hHe]] at hH
  rw [← hHe]
  refine lv_aload_n zx zb dX7_hoursNow_0 rfl (lv_at hl 0 rfl) ?_
  refine lv_aload_n zx zb dX7_hoursNow_1 rfl (lv_at hl 0 rfl) ?_
  refine lv_iload_n zx zb dX7_hoursNow_2 rfl (lv_at hl 1 rfl) ?_
  refine cvI (rest := [.ref (g.1 23)]) (As := [.int (iI f)]) (b := g.1 23) C0 hH (c_X7_isFigure l g S f (by omega) (by omega)) kw_X7_80 ky_X7_isFigure ⟨Nat.le_of_ble_eq_true rfl, Nat.le_of_ble_eq_true rfl⟩ ⟨Nat.zero_le _, Nat.zero_le _⟩ 23 rfl rfl rfl hl.1 rfl (Nat.le_of_ble_eq_true rfl) dX7_hoursNow_3 (fun H locs hH => ?_)
  rw [show (if 0 ≤ f ∧ f < S 23 7 then (1 : Int) else 0) = 1 from if_pos hfo]
  refine bz_ne (tgt := 13) zx zb dX7_hoursNow_6 (by decide) ⟨by omega, by omega⟩ (fun zq6 => ?_) (fun zq6 => ?_)
  · refine lv_iload_n zx zb dX7_hoursNow_13 rfl (lv_at hl 2 rfl) ?_
    refine lv_iload_n zx zb dX7_hoursNow_14 rfl (lv_at hl 3 rfl) ?_
    refine bi_const (n := 0) zx zb dX7_hoursNow_15 ?_
    refine csI (rest := [.ref (g.1 23)]) (As := [.int (iI lat), .int (iI d), .int (iI 0)]) C0 hH (c_X7_isTime l g S lat d 0 (by omega) (by omega) (by omega)) kw_X7_128 ky_X7_isTime ⟨Nat.le_of_ble_eq_true rfl, Nat.le_of_ble_eq_true rfl⟩ ⟨Nat.zero_le _, Nat.zero_le _⟩ rfl hl.1 rfl (Nat.le_of_ble_eq_true rfl) dX7_hoursNow_16 (fun H locs hH => ?_)
    rw [show (if (-90 ≤ lat ∧ lat ≤ 90) ∧ (0 ≤ d ∧ d < 365) ∧ (0 ≤ (0 : Int) ∧ (0 : Int) < 24) then (1 : Int) else 0) = 1 from if_pos hto]
    refine bz_ne (tgt := 26) zx zb dX7_hoursNow_19 (by decide) ⟨by omega, by omega⟩ (fun zq19 => ?_) (fun zq19 => ?_)
    · refine bi_const (n := 0) zx zb dX7_hoursNow_26 ?_
      refine cvI (rest := []) (As := [.int (iI 0)]) (b := g.1 23) C0 hH (c_X7_isFine l g S 0 (by omega)) kw_X7_55 ky_X7_isFine ⟨Nat.le_of_ble_eq_true rfl, Nat.le_of_ble_eq_true rfl⟩ ⟨Nat.zero_le _, Nat.zero_le _⟩ 23 rfl rfl rfl hl.1 rfl (Nat.le_of_ble_eq_true rfl) dX7_hoursNow_27 (fun H locs hH => ?_)
      show W p l e _ s m args below meth c H _ _ _ _ (F0 m 30 ls [.int (iI 1)])
      refine bz_ne (tgt := 35) zx zb dX7_hoursNow_30 (by decide) ⟨by omega, by omega⟩ (fun zq30 => ?_) (fun zq30 => ?_)
      · refine bi_const (n := 0) zx zb dX7_hoursNow_35 ?_
        refine lv_istore (lv' := [(4, .int (iI 0)), (0, .ref (g.1 23)), (1, .int (iI f)), (2, .int (iI lat)), (3, .int (iI d))]) zx zb dX7_hoursNow_36 hl (by decide) rfl (fun ls hl => ?_)
        refine bi_const (n := 0) zx zb dX7_hoursNow_38 ?_
        refine lv_istore (lv' := [(5, .int (iI 0)), (4, .int (iI 0)), (0, .ref (g.1 23)), (1, .int (iI f)), (2, .int (iI lat)), (3, .int (iI d))]) zx zb dX7_hoursNow_39 hl (by decide) rfl (fun ls hl => ?_)
        exact L41 _ 0 0 rfl (by omega) (by unfold dyN; rw [Int.sub_zero]) _ _ hH ls (lv_sub hl [2, 3, 4, 5, 1, 0] rfl)
      · exact absurd zq30 (by decide)
    · exact absurd zq19 (by decide)
  · exact absurd zq6 (by decide)
set_option maxRecDepth 100000 in
set_option maxHeartbeats 4000000 in
theorem f1_X7_hoursNow (l : Launch) (g : gT) (S : gSt) (f lat d : Int) (hnf : 0 ≤ S 23 7 ∧ S 23 7 ≤ 8) (hr_f : -2147483648 ≤ f ∧ f < 2147483648) (hr_lat : -2147483648 ≤ lat ∧ lat < 2147483648) (hr_d : -2147483648 ≤ d ∧ d < 2147483648) (hfb : ¬(0 ≤ f ∧ f < S 23 7)) : MetG l g yX7_hoursNow cX7_hoursNow 6 (some .int) 2 43 [.ref (g.1 23), .int (iI f), .int (iI lat), .int (iI d)] S (some (.int (iI 0))) (st S 23 0 1) := by
  refine bodyG (by decide +kernel) (Nat.le_of_ble_eq_true rfl) ?_
  intro p e s m args below meth c ls C0 hret hlk hl hH
  have zx := C0.1
  have zb := C0.2.1
  have hl : lv_has ls 6 [(0, .ref (g.1 23)), (1, .int (iI f)), (2, .int (iI lat)), (3, .int (iI d))] := hl
  obtain ⟨H, hHe⟩ : ∃ H : Heap, H = s.heap := ⟨_, rfl⟩
  rw [show (Hp g S s s.heap []) = Hp g S s H [] by rw [hHe]] at hH
  rw [← hHe]
  refine lv_aload_n zx zb dX7_hoursNow_0 rfl (lv_at hl 0 rfl) ?_
  refine lv_aload_n zx zb dX7_hoursNow_1 rfl (lv_at hl 0 rfl) ?_
  refine lv_iload_n zx zb dX7_hoursNow_2 rfl (lv_at hl 1 rfl) ?_
  refine cvI (rest := [.ref (g.1 23)]) (As := [.int (iI f)]) (b := g.1 23) C0 hH (c_X7_isFigure l g S f (by omega) (by omega)) kw_X7_80 ky_X7_isFigure ⟨Nat.le_of_ble_eq_true rfl, Nat.le_of_ble_eq_true rfl⟩ ⟨Nat.zero_le _, Nat.zero_le _⟩ 23 rfl rfl rfl hl.1 rfl (Nat.le_of_ble_eq_true rfl) dX7_hoursNow_3 (fun H locs hH => ?_)
  rw [show (if 0 ≤ f ∧ f < S 23 7 then (1 : Int) else 0) = 0 from if_neg hfb]
  refine bz_ne (tgt := 13) zx zb dX7_hoursNow_6 (by decide) ⟨by omega, by omega⟩ (fun zq6 => ?_) (fun zq6 => ?_)
  · exact absurd zq6 (by decide)
  · refine bi_const (n := 1) zx zb dX7_hoursNow_9 ?_
    refine lv_goto (tgt := 27) zx zb dX7_hoursNow_10 (by decide) ?_
    refine cvI (rest := []) (As := [.int (iI 1)]) (b := g.1 23) C0 hH (c_X7_isFine l g S 1 (by omega)) kw_X7_55 ky_X7_isFine ⟨Nat.le_of_ble_eq_true rfl, Nat.le_of_ble_eq_true rfl⟩ ⟨Nat.zero_le _, Nat.zero_le _⟩ 23 rfl rfl rfl hl.1 rfl (Nat.le_of_ble_eq_true rfl) dX7_hoursNow_27 (fun H locs hH => ?_)
    show W p l e _ s m args below meth c H _ _ _ _ (F0 m 30 ls [.int (iI 0)])
    refine bz_ne (tgt := 35) zx zb dX7_hoursNow_30 (by decide) ⟨by omega, by omega⟩ (fun zq30 => ?_) (fun zq30 => ?_)
    · exact absurd zq30 (by decide)
    · refine bi_const (n := 0) zx zb dX7_hoursNow_33 ?_
      exact retI C0 hret hlk hH (by rfl) (rfl) dX7_hoursNow_34
set_option maxRecDepth 100000 in
set_option maxHeartbeats 4000000 in
theorem f2_X7_hoursNow (l : Launch) (g : gT) (S : gSt) (f lat d : Int) (hnf : 0 ≤ S 23 7 ∧ S 23 7 ≤ 8) (hfo : 0 ≤ f ∧ f < S 23 7) (hr_lat : -2147483648 ≤ lat ∧ lat < 2147483648) (hr_d : -2147483648 ≤ d ∧ d < 2147483648) (htb : ¬((-90 ≤ lat ∧ lat ≤ 90) ∧ (0 ≤ d ∧ d < 365) ∧ (0 ≤ (0 : Int) ∧ (0 : Int) < 24))) : MetG l g yX7_hoursNow cX7_hoursNow 6 (some .int) 2 44 [.ref (g.1 23), .int (iI f), .int (iI lat), .int (iI d)] S (some (.int (iI 0))) (st S 23 0 2) := by
  refine bodyG (by decide +kernel) (Nat.le_of_ble_eq_true rfl) ?_
  intro p e s m args below meth c ls C0 hret hlk hl hH
  have zx := C0.1
  have zb := C0.2.1
  have hl : lv_has ls 6 [(0, .ref (g.1 23)), (1, .int (iI f)), (2, .int (iI lat)), (3, .int (iI d))] := hl
  obtain ⟨H, hHe⟩ : ∃ H : Heap, H = s.heap := ⟨_, rfl⟩
  rw [show (Hp g S s s.heap []) = Hp g S s H [] by rw [hHe]] at hH
  rw [← hHe]
  refine lv_aload_n zx zb dX7_hoursNow_0 rfl (lv_at hl 0 rfl) ?_
  refine lv_aload_n zx zb dX7_hoursNow_1 rfl (lv_at hl 0 rfl) ?_
  refine lv_iload_n zx zb dX7_hoursNow_2 rfl (lv_at hl 1 rfl) ?_
  refine cvI (rest := [.ref (g.1 23)]) (As := [.int (iI f)]) (b := g.1 23) C0 hH (c_X7_isFigure l g S f (by omega) (by omega)) kw_X7_80 ky_X7_isFigure ⟨Nat.le_of_ble_eq_true rfl, Nat.le_of_ble_eq_true rfl⟩ ⟨Nat.zero_le _, Nat.zero_le _⟩ 23 rfl rfl rfl hl.1 rfl (Nat.le_of_ble_eq_true rfl) dX7_hoursNow_3 (fun H locs hH => ?_)
  rw [show (if 0 ≤ f ∧ f < S 23 7 then (1 : Int) else 0) = 1 from if_pos hfo]
  refine bz_ne (tgt := 13) zx zb dX7_hoursNow_6 (by decide) ⟨by omega, by omega⟩ (fun zq6 => ?_) (fun zq6 => ?_)
  · refine lv_iload_n zx zb dX7_hoursNow_13 rfl (lv_at hl 2 rfl) ?_
    refine lv_iload_n zx zb dX7_hoursNow_14 rfl (lv_at hl 3 rfl) ?_
    refine bi_const (n := 0) zx zb dX7_hoursNow_15 ?_
    refine csI (rest := [.ref (g.1 23)]) (As := [.int (iI lat), .int (iI d), .int (iI 0)]) C0 hH (c_X7_isTime l g S lat d 0 (by omega) (by omega) (by omega)) kw_X7_128 ky_X7_isTime ⟨Nat.le_of_ble_eq_true rfl, Nat.le_of_ble_eq_true rfl⟩ ⟨Nat.zero_le _, Nat.zero_le _⟩ rfl hl.1 rfl (Nat.le_of_ble_eq_true rfl) dX7_hoursNow_16 (fun H locs hH => ?_)
    rw [show (if (-90 ≤ lat ∧ lat ≤ 90) ∧ (0 ≤ d ∧ d < 365) ∧ (0 ≤ (0 : Int) ∧ (0 : Int) < 24) then (1 : Int) else 0) = 0 from if_neg htb]
    refine bz_ne (tgt := 26) zx zb dX7_hoursNow_19 (by decide) ⟨by omega, by omega⟩ (fun zq19 => ?_) (fun zq19 => ?_)
    · exact absurd zq19 (by decide)
    · refine bi_const (n := 2) zx zb dX7_hoursNow_22 ?_
      refine lv_goto (tgt := 27) zx zb dX7_hoursNow_23 (by decide) ?_
      refine cvI (rest := []) (As := [.int (iI 2)]) (b := g.1 23) C0 hH (c_X7_isFine l g S 2 (by omega)) kw_X7_55 ky_X7_isFine ⟨Nat.le_of_ble_eq_true rfl, Nat.le_of_ble_eq_true rfl⟩ ⟨Nat.zero_le _, Nat.zero_le _⟩ 23 rfl rfl rfl hl.1 rfl (Nat.le_of_ble_eq_true rfl) dX7_hoursNow_27 (fun H locs hH => ?_)
      show W p l e _ s m args below meth c H _ _ _ _ (F0 m 30 ls [.int (iI 0)])
      refine bz_ne (tgt := 35) zx zb dX7_hoursNow_30 (by decide) ⟨by omega, by omega⟩ (fun zq30 => ?_) (fun zq30 => ?_)
      · exact absurd zq30 (by decide)
      · refine bi_const (n := 0) zx zb dX7_hoursNow_33 ?_
        exact retI C0 hret hlk hH (by rfl) (rfl) dX7_hoursNow_34
  · exact absurd zq6 (by decide)
set_option maxRecDepth 100000 in
set_option maxHeartbeats 4000000 in
theorem c_X7_hours (l : Launch) (g : gT) (S : gSt) (f lat d : Int) (hnf : 0 ≤ S 23 7 ∧ S 23 7 ≤ 8) (hfo : 0 ≤ f ∧ f < S 23 7) (hto : (-90 ≤ lat ∧ lat ≤ 90) ∧ (0 ≤ d ∧ d < 365) ∧ (0 ≤ (0 : Int) ∧ (0 : Int) < 24)) (hN : okN (S 28)) (hE : okE (S 28) (S 26)) (hO : okE (S 28) (S 27)) (hC : okC (S 24) (S 25)) : MetG l g yX7_hours cX7_hours 4 (some .int) 6 146 [.ref (g.1 23), .int (iI f), .int (iI lat), .int (iI d)] S (some (.int (iI ((dyN (fun h => upM (S 28) (S 26) (S 27) (S 24) (S 25) f lat (15 * h + d)) : Nat) : Int)))) (st S 23 0 0) := by
  refine bodyG (by decide +kernel) (Nat.le_of_ble_eq_true rfl) ?_
  intro p e s m args below meth c ls C0 hret hlk hl hH
  have zx := C0.1
  have zb := C0.2.1
  have hl : lv_has ls 4 [(0, .ref (g.1 23)), (1, .int (iI f)), (2, .int (iI lat)), (3, .int (iI d))] := hl
  obtain ⟨H, hHe⟩ : ∃ H : Heap, H = s.heap := ⟨_, rfl⟩
  rw [show (Hp g S s s.heap []) = Hp g S s H [] by rw [hHe]] at hH
  rw [← hHe]
  refine lv_aload_n zx zb dX7_hours_0 rfl (lv_at hl 0 rfl) ?_
  refine lv_iload_n zx zb dX7_hours_1 rfl (lv_at hl 1 rfl) ?_
  refine lv_iload_n zx zb dX7_hours_2 rfl (lv_at hl 2 rfl) ?_
  refine lv_iload_n zx zb dX7_hours_3 rfl (lv_at hl 3 rfl) ?_
  refine cvI (rest := []) (As := [.int (iI f), .int (iI lat), .int (iI d)]) (b := g.1 23) C0 hH (c_X7_hoursNow l g S f lat d (hnf) (hfo) (hto) (hN) (hE) (hO) (hC)) kw_X7_141 ky_X7_hoursNow ⟨Nat.le_of_ble_eq_true rfl, Nat.le_of_ble_eq_true rfl⟩ ⟨Nat.zero_le _, Nat.zero_le _⟩ 23 rfl rfl rfl hl.1 rfl (Nat.le_of_ble_eq_true rfl) dX7_hours_4 (fun H locs hH => ?_)
  exact retI C0 hret hlk hH (by rfl) (rfl) dX7_hours_7
set_option maxRecDepth 100000 in
set_option maxHeartbeats 4000000 in
theorem f1_X7_hours (l : Launch) (g : gT) (S : gSt) (f lat d : Int) (hnf : 0 ≤ S 23 7 ∧ S 23 7 ≤ 8) (hr_f : -2147483648 ≤ f ∧ f < 2147483648) (hr_lat : -2147483648 ≤ lat ∧ lat < 2147483648) (hr_d : -2147483648 ≤ d ∧ d < 2147483648) (hfb : ¬(0 ≤ f ∧ f < S 23 7)) : MetG l g yX7_hours cX7_hours 4 (some .int) 3 68 [.ref (g.1 23), .int (iI f), .int (iI lat), .int (iI d)] S (some (.int (iI 0))) (st S 23 0 1) := by
  refine bodyG (by decide +kernel) (Nat.le_of_ble_eq_true rfl) ?_
  intro p e s m args below meth c ls C0 hret hlk hl hH
  have zx := C0.1
  have zb := C0.2.1
  have hl : lv_has ls 4 [(0, .ref (g.1 23)), (1, .int (iI f)), (2, .int (iI lat)), (3, .int (iI d))] := hl
  obtain ⟨H, hHe⟩ : ∃ H : Heap, H = s.heap := ⟨_, rfl⟩
  rw [show (Hp g S s s.heap []) = Hp g S s H [] by rw [hHe]] at hH
  rw [← hHe]
  refine lv_aload_n zx zb dX7_hours_0 rfl (lv_at hl 0 rfl) ?_
  refine lv_iload_n zx zb dX7_hours_1 rfl (lv_at hl 1 rfl) ?_
  refine lv_iload_n zx zb dX7_hours_2 rfl (lv_at hl 2 rfl) ?_
  refine lv_iload_n zx zb dX7_hours_3 rfl (lv_at hl 3 rfl) ?_
  refine cvI (rest := []) (As := [.int (iI f), .int (iI lat), .int (iI d)]) (b := g.1 23) C0 hH (f1_X7_hoursNow l g S f lat d (hnf) (by omega) (by omega) (by omega) (hfb)) kw_X7_141 ky_X7_hoursNow ⟨Nat.le_of_ble_eq_true rfl, Nat.le_of_ble_eq_true rfl⟩ ⟨Nat.zero_le _, Nat.zero_le _⟩ 23 rfl rfl rfl hl.1 rfl (Nat.le_of_ble_eq_true rfl) dX7_hours_4 (fun H locs hH => ?_)
  exact retI C0 hret hlk hH (by rfl) (rfl) dX7_hours_7
set_option maxRecDepth 100000 in
set_option maxHeartbeats 4000000 in
theorem f2_X7_hours (l : Launch) (g : gT) (S : gSt) (f lat d : Int) (hnf : 0 ≤ S 23 7 ∧ S 23 7 ≤ 8) (hfo : 0 ≤ f ∧ f < S 23 7) (hr_lat : -2147483648 ≤ lat ∧ lat < 2147483648) (hr_d : -2147483648 ≤ d ∧ d < 2147483648) (htb : ¬((-90 ≤ lat ∧ lat ≤ 90) ∧ (0 ≤ d ∧ d < 365) ∧ (0 ≤ (0 : Int) ∧ (0 : Int) < 24))) : MetG l g yX7_hours cX7_hours 4 (some .int) 3 69 [.ref (g.1 23), .int (iI f), .int (iI lat), .int (iI d)] S (some (.int (iI 0))) (st S 23 0 2) := by
  refine bodyG (by decide +kernel) (Nat.le_of_ble_eq_true rfl) ?_
  intro p e s m args below meth c ls C0 hret hlk hl hH
  have zx := C0.1
  have zb := C0.2.1
  have hl : lv_has ls 4 [(0, .ref (g.1 23)), (1, .int (iI f)), (2, .int (iI lat)), (3, .int (iI d))] := hl
  obtain ⟨H, hHe⟩ : ∃ H : Heap, H = s.heap := ⟨_, rfl⟩
  rw [show (Hp g S s s.heap []) = Hp g S s H [] by rw [hHe]] at hH
  rw [← hHe]
  refine lv_aload_n zx zb dX7_hours_0 rfl (lv_at hl 0 rfl) ?_
  refine lv_iload_n zx zb dX7_hours_1 rfl (lv_at hl 1 rfl) ?_
  refine lv_iload_n zx zb dX7_hours_2 rfl (lv_at hl 2 rfl) ?_
  refine lv_iload_n zx zb dX7_hours_3 rfl (lv_at hl 3 rfl) ?_
  refine cvI (rest := []) (As := [.int (iI f), .int (iI lat), .int (iI d)]) (b := g.1 23) C0 hH (f2_X7_hoursNow l g S f lat d (hnf) (hfo) (by omega) (by omega) (htb)) kw_X7_141 ky_X7_hoursNow ⟨Nat.le_of_ble_eq_true rfl, Nat.le_of_ble_eq_true rfl⟩ ⟨Nat.zero_le _, Nat.zero_le _⟩ 23 rfl rfl rfl hl.1 rfl (Nat.le_of_ble_eq_true rfl) dX7_hours_4 (fun H locs hH => ?_)
  exact retI C0 hret hlk hH (by rfl) (rfl) dX7_hours_7
set_option maxRecDepth 100000 in
set_option maxHeartbeats 4000000 in
theorem c_X7_hoursByStars (l : Launch) (g : gT) (S : gSt) (f lat d : Int) (hnf : 0 ≤ S 23 7 ∧ S 23 7 ≤ 8) (hfo : 0 ≤ f ∧ f < S 23 7) (hto : (-90 ≤ lat ∧ lat ≤ 90) ∧ (0 ≤ d ∧ d < 365) ∧ (0 ≤ (0 : Int) ∧ (0 : Int) < 24)) (hN : okN (S 28)) (hE : okE (S 28) (S 26)) (hO : okE (S 28) (S 27)) (hC : okC (S 24) (S 25)) : MetG l g yX7_hoursByStars cX7_hoursByStars 4 (some .int) 6 146 [.ref (g.1 23), .int (iI f), .int (iI lat), .int (iI d)] S (some (.int (iI ((dyN (fun h => upM (S 28) (S 26) (S 27) (S 24) (S 25) f lat (15 * h + d)) : Nat) : Int)))) (st S 23 0 0) := by
  refine bodyG (by decide +kernel) (Nat.le_of_ble_eq_true rfl) ?_
  intro p e s m args below meth c ls C0 hret hlk hl hH
  have zx := C0.1
  have zb := C0.2.1
  have hl : lv_has ls 4 [(0, .ref (g.1 23)), (1, .int (iI f)), (2, .int (iI lat)), (3, .int (iI d))] := hl
  obtain ⟨H, hHe⟩ : ∃ H : Heap, H = s.heap := ⟨_, rfl⟩
  rw [show (Hp g S s s.heap []) = Hp g S s H [] by rw [hHe]] at hH
  rw [← hHe]
  refine lv_aload_n zx zb dX7_hoursByStars_0 rfl (lv_at hl 0 rfl) ?_
  refine lv_iload_n zx zb dX7_hoursByStars_1 rfl (lv_at hl 1 rfl) ?_
  refine lv_iload_n zx zb dX7_hoursByStars_2 rfl (lv_at hl 2 rfl) ?_
  refine lv_iload_n zx zb dX7_hoursByStars_3 rfl (lv_at hl 3 rfl) ?_
  refine cvI (rest := []) (As := [.int (iI f), .int (iI lat), .int (iI d)]) (b := g.1 23) C0 hH (c_X7_hoursNow l g S f lat d (hnf) (hfo) (hto) (hN) (hE) (hO) (hC)) kw_X7_141 ky_X7_hoursNow ⟨Nat.le_of_ble_eq_true rfl, Nat.le_of_ble_eq_true rfl⟩ ⟨Nat.zero_le _, Nat.zero_le _⟩ 23 rfl rfl rfl hl.1 rfl (Nat.le_of_ble_eq_true rfl) dX7_hoursByStars_4 (fun H locs hH => ?_)
  exact retI C0 hret hlk hH (by rfl) (rfl) dX7_hoursByStars_7
set_option maxRecDepth 100000 in
set_option maxHeartbeats 4000000 in
theorem f1_X7_hoursByStars (l : Launch) (g : gT) (S : gSt) (f lat d : Int) (hnf : 0 ≤ S 23 7 ∧ S 23 7 ≤ 8) (hr_f : -2147483648 ≤ f ∧ f < 2147483648) (hr_lat : -2147483648 ≤ lat ∧ lat < 2147483648) (hr_d : -2147483648 ≤ d ∧ d < 2147483648) (hfb : ¬(0 ≤ f ∧ f < S 23 7)) : MetG l g yX7_hoursByStars cX7_hoursByStars 4 (some .int) 3 68 [.ref (g.1 23), .int (iI f), .int (iI lat), .int (iI d)] S (some (.int (iI 0))) (st S 23 0 1) := by
  refine bodyG (by decide +kernel) (Nat.le_of_ble_eq_true rfl) ?_
  intro p e s m args below meth c ls C0 hret hlk hl hH
  have zx := C0.1
  have zb := C0.2.1
  have hl : lv_has ls 4 [(0, .ref (g.1 23)), (1, .int (iI f)), (2, .int (iI lat)), (3, .int (iI d))] := hl
  obtain ⟨H, hHe⟩ : ∃ H : Heap, H = s.heap := ⟨_, rfl⟩
  rw [show (Hp g S s s.heap []) = Hp g S s H [] by rw [hHe]] at hH
  rw [← hHe]
  refine lv_aload_n zx zb dX7_hoursByStars_0 rfl (lv_at hl 0 rfl) ?_
  refine lv_iload_n zx zb dX7_hoursByStars_1 rfl (lv_at hl 1 rfl) ?_
  refine lv_iload_n zx zb dX7_hoursByStars_2 rfl (lv_at hl 2 rfl) ?_
  refine lv_iload_n zx zb dX7_hoursByStars_3 rfl (lv_at hl 3 rfl) ?_
  refine cvI (rest := []) (As := [.int (iI f), .int (iI lat), .int (iI d)]) (b := g.1 23) C0 hH (f1_X7_hoursNow l g S f lat d (hnf) (by omega) (by omega) (by omega) (hfb)) kw_X7_141 ky_X7_hoursNow ⟨Nat.le_of_ble_eq_true rfl, Nat.le_of_ble_eq_true rfl⟩ ⟨Nat.zero_le _, Nat.zero_le _⟩ 23 rfl rfl rfl hl.1 rfl (Nat.le_of_ble_eq_true rfl) dX7_hoursByStars_4 (fun H locs hH => ?_)
  exact retI C0 hret hlk hH (by rfl) (rfl) dX7_hoursByStars_7
set_option maxRecDepth 100000 in
set_option maxHeartbeats 4000000 in
theorem f2_X7_hoursByStars (l : Launch) (g : gT) (S : gSt) (f lat d : Int) (hnf : 0 ≤ S 23 7 ∧ S 23 7 ≤ 8) (hfo : 0 ≤ f ∧ f < S 23 7) (hr_lat : -2147483648 ≤ lat ∧ lat < 2147483648) (hr_d : -2147483648 ≤ d ∧ d < 2147483648) (htb : ¬((-90 ≤ lat ∧ lat ≤ 90) ∧ (0 ≤ d ∧ d < 365) ∧ (0 ≤ (0 : Int) ∧ (0 : Int) < 24))) : MetG l g yX7_hoursByStars cX7_hoursByStars 4 (some .int) 3 69 [.ref (g.1 23), .int (iI f), .int (iI lat), .int (iI d)] S (some (.int (iI 0))) (st S 23 0 2) := by
  refine bodyG (by decide +kernel) (Nat.le_of_ble_eq_true rfl) ?_
  intro p e s m args below meth c ls C0 hret hlk hl hH
  have zx := C0.1
  have zb := C0.2.1
  have hl : lv_has ls 4 [(0, .ref (g.1 23)), (1, .int (iI f)), (2, .int (iI lat)), (3, .int (iI d))] := hl
  obtain ⟨H, hHe⟩ : ∃ H : Heap, H = s.heap := ⟨_, rfl⟩
  rw [show (Hp g S s s.heap []) = Hp g S s H [] by rw [hHe]] at hH
  rw [← hHe]
  refine lv_aload_n zx zb dX7_hoursByStars_0 rfl (lv_at hl 0 rfl) ?_
  refine lv_iload_n zx zb dX7_hoursByStars_1 rfl (lv_at hl 1 rfl) ?_
  refine lv_iload_n zx zb dX7_hoursByStars_2 rfl (lv_at hl 2 rfl) ?_
  refine lv_iload_n zx zb dX7_hoursByStars_3 rfl (lv_at hl 3 rfl) ?_
  refine cvI (rest := []) (As := [.int (iI f), .int (iI lat), .int (iI d)]) (b := g.1 23) C0 hH (f2_X7_hoursNow l g S f lat d (hnf) (hfo) (by omega) (by omega) (htb)) kw_X7_141 ky_X7_hoursNow ⟨Nat.le_of_ble_eq_true rfl, Nat.le_of_ble_eq_true rfl⟩ ⟨Nat.zero_le _, Nat.zero_le _⟩ 23 rfl rfl rfl hl.1 rfl (Nat.le_of_ble_eq_true rfl) dX7_hoursByStars_4 (fun H locs hH => ?_)
  exact retI C0 hret hlk hH (by rfl) (rfl) dX7_hoursByStars_7
set_option maxRecDepth 100000 in
set_option maxHeartbeats 4000000 in
theorem c_X7_bestHour (l : Launch) (g : gT) (S : gSt) (f lat d : Int) (hnf : 0 ≤ S 23 7 ∧ S 23 7 ≤ 8) (hfo : 0 ≤ f ∧ f < S 23 7) (hto : (-90 ≤ lat ∧ lat ≤ 90) ∧ (0 ≤ d ∧ d < 365) ∧ (0 ≤ (0 : Int) ∧ (0 : Int) < 24)) (hN : okN (S 28)) (hE : okE (S 28) (S 26)) (hO : okE (S 28) (S 27)) (hC : okC (S 24) (S 25)) : MetG l g yX7_bestHour cX7_bestHour 8 (some .int) 4 97 [.ref (g.1 23), .int (iI f), .int (iI lat), .int (iI d)] S (some (.int (iI (bhI (fun h => lwM (S 28) (S 26) (S 27) (S 24) (S 25) f lat (15 * h + d)))))) (st S 23 0 0) := by
  refine bodyG (by decide +kernel) (Nat.le_of_ble_eq_true rfl) ?_
  intro p e s m args below meth c ls C0 hret hlk hl hH
  have zx := C0.1
  have zb := C0.2.1
  have hl : lv_has ls 8 [(0, .ref (g.1 23)), (1, .int (iI f)), (2, .int (iI lat)), (3, .int (iI d))] := hl
  have L44 : ∀ (μ : Nat) (i : Int) (a : Int) (b : Int), (24 - i).toNat = μ → (0 ≤ i ∧ i ≤ 24) → (-3000 ≤ b ∧ b ≤ 3000) → (bhI (fun h => lwM (S 28) (S 26) (S 27) (S 24) (S 25) f lat (15 * h + d)) = (lpF (bhQ (fun h => lwM (S 28) (S 26) (S 27) (S 24) (S 25) f lat (15 * h + d))) (24 - i).toNat i (a, b)).1) → ∀ (H : Heap) (locs : List Loc), Hp g (st S 23 0 0) s H locs → ∀ ls : Array Slot, lv_has ls 8 [(0, .ref (g.1 23)), (1, .int (iI f)), (2, .int (iI lat)), (3, .int (iI d)), (4, .int (iI a)), (5, .int (iI b)), (6, .int (iI i))] → W p l e { frames := 4, cells := 0, slots := 0, locals := 97 } s m args below meth c H locs 0 0 (MQ below (RetG g (some (.int (iI (bhI (fun h => lwM (S 28) (S 26) (S 27) (S 24) (S 25) f lat (15 * h + d)))))) (st S 23 0 0)) args s 0 0 (oA g)) (F0 m 44 ls []) := by
    refine lpN (fun μ44 ih44 => ?_)
    intro i a b hμ44 hi hb2 hR H locs hH ls hl
    refine lv_iload zx zb dX7_bestHour_44 (lv_at hl 6 rfl) ?_
    refine bi_bip (n := 24) zx zb dX7_bestHour_46 (by decide) ?_
    refine bq_ge (tgt := 100) zx zb dX7_bestHour_48 (by decide) ⟨by omega, by omega⟩ ⟨by omega, by omega⟩ (fun zq48 => ?_) (fun zq48 => ?_)
    · refine lv_iload zx zb dX7_bestHour_100 (lv_at hl 4 rfl) ?_
      exact retI C0 hret hlk hH (by rw [hR, lpF_e zq48]) (rfl) dX7_bestHour_102
    · refine lv_aload_n zx zb dX7_bestHour_51 rfl (lv_at hl 0 rfl) ?_
      refine lv_iload_n zx zb dX7_bestHour_52 rfl (lv_at hl 1 rfl) ?_
      refine lv_iload_n zx zb dX7_bestHour_53 rfl (lv_at hl 2 rfl) ?_
      refine lv_iload_n zx zb dX7_bestHour_54 rfl (lv_at hl 3 rfl) ?_
      refine lv_iload zx zb dX7_bestHour_55 (lv_at hl 6 rfl) ?_
      refine cvI (rest := []) (As := [.int (iI f), .int (iI lat), .int (iI d), .int (iI i)]) (b := g.1 23) C0 hH (c_X7_lowest l g (st S 23 0 0) f lat d i (by omega) (by omega) (by omega) (by omega) (hN) (hE) (hO) (hC)) kw_X7_135 ky_X7_lowest ⟨Nat.le_of_ble_eq_true rfl, Nat.le_of_ble_eq_true rfl⟩ ⟨Nat.zero_le _, Nat.zero_le _⟩ 23 rfl rfl rfl hl.1 rfl (Nat.le_of_ble_eq_true rfl) dX7_bestHour_57 (fun H locs hH => ?_)
      show W p l e _ s m args below meth c H _ _ _ _ (F0 m 60 ls [.int (iI (lwM (S 28) (S 26) (S 27) (S 24) (S 25) f lat (15 * i + d)))])
      have hlb := lwM_b (S 28) (S 26) (S 27) (S 24) (S 25) f lat (15 * i + d)
      refine lv_istore (lv' := [(7, .int (iI (lwM (S 28) (S 26) (S 27) (S 24) (S 25) f lat (15 * i + d)))), (0, .ref (g.1 23)), (1, .int (iI f)), (2, .int (iI lat)), (3, .int (iI d)), (4, .int (iI a)), (5, .int (iI b)), (6, .int (iI i))]) zx zb dX7_bestHour_60 hl (by decide) rfl (fun ls hl => ?_)
      refine lv_iload zx zb dX7_bestHour_62 (lv_at hl 0 rfl) ?_
      refine lv_iload zx zb dX7_bestHour_64 (lv_at hl 6 rfl) ?_
      refine bq_le (tgt := 74) zx zb dX7_bestHour_66 (by decide) ⟨by omega, by omega⟩ ⟨by omega, by omega⟩ (fun zq66 => ?_) (fun zq66 => ?_)
      · refine lv_iload zx zb dX7_bestHour_74 (lv_at hl 5 rfl) ?_
        refine lv_istore (lv' := [(4, .int (iI a)), (7, .int (iI (lwM (S 28) (S 26) (S 27) (S 24) (S 25) f lat (15 * i + d)))), (0, .ref (g.1 23)), (1, .int (iI f)), (2, .int (iI lat)), (3, .int (iI d)), (5, .int (iI b)), (6, .int (iI i))]) zx zb dX7_bestHour_76 hl (by decide) rfl (fun ls hl => ?_)
        refine lv_iload zx zb dX7_bestHour_78 (lv_at hl 1 rfl) ?_
        refine lv_iload zx zb dX7_bestHour_80 (lv_at hl 6 rfl) ?_
        refine bq_le (tgt := 90) zx zb dX7_bestHour_82 (by decide) ⟨by omega, by omega⟩ ⟨by omega, by omega⟩ (fun zq82 => ?_) (fun zq82 => ?_)
        · refine lv_iload zx zb dX7_bestHour_90 (lv_at hl 6 rfl) ?_
          refine lv_istore (lv' := [(5, .int (iI b)), (4, .int (iI a)), (7, .int (iI (lwM (S 28) (S 26) (S 27) (S 24) (S 25) f lat (15 * i + d)))), (0, .ref (g.1 23)), (1, .int (iI f)), (2, .int (iI lat)), (3, .int (iI d)), (6, .int (iI i))]) zx zb dX7_bestHour_92 hl (by decide) rfl (fun ls hl => ?_)
          refine bi_inc (k0 := 7) (n := 1) (lv' := [(6, .int (iI (i + 1))), (5, .int (iI b)), (4, .int (iI a)), (7, .int (iI (lwM (S 28) (S 26) (S 27) (S 24) (S 25) f lat (15 * i + d)))), (0, .ref (g.1 23)), (1, .int (iI f)), (2, .int (iI lat)), (3, .int (iI d))]) zx zb dX7_bestHour_94 hl rfl (by decide) rfl (fun ls hl => ?_)
          refine lv_goto (tgt := 44) zx zb dX7_bestHour_97 (by decide) ?_
          exact ih44 ((24 - (i + 1)).toNat) (by omega) (i + 1) a b rfl (by omega) (by omega) (by first | (exfalso; omega) | (rw [hR, lpF_s zq48]; unfold bhQ; first | (rw [if_pos zq66]; done) | (rw [if_neg (Int.not_lt.mpr zq66)]; done))) _ _ hH ls (lv_sub hl [4, 5, 6, 7, 2, 1, 0] rfl)
        · refine lv_iload zx zb dX7_bestHour_85 (lv_at hl 1 rfl) ?_
          refine lv_goto (tgt := 92) zx zb dX7_bestHour_87 (by decide) ?_
          refine lv_istore (lv' := [(5, .int (iI (lwM (S 28) (S 26) (S 27) (S 24) (S 25) f lat (15 * i + d)))), (4, .int (iI a)), (7, .int (iI (lwM (S 28) (S 26) (S 27) (S 24) (S 25) f lat (15 * i + d)))), (0, .ref (g.1 23)), (1, .int (iI f)), (2, .int (iI lat)), (3, .int (iI d)), (6, .int (iI i))]) zx zb dX7_bestHour_92 hl (by decide) rfl (fun ls hl => ?_)
          refine bi_inc (k0 := 7) (n := 1) (lv' := [(6, .int (iI (i + 1))), (5, .int (iI (lwM (S 28) (S 26) (S 27) (S 24) (S 25) f lat (15 * i + d)))), (4, .int (iI a)), (7, .int (iI (lwM (S 28) (S 26) (S 27) (S 24) (S 25) f lat (15 * i + d)))), (0, .ref (g.1 23)), (1, .int (iI f)), (2, .int (iI lat)), (3, .int (iI d))]) zx zb dX7_bestHour_94 hl rfl (by decide) rfl (fun ls hl => ?_)
          refine lv_goto (tgt := 44) zx zb dX7_bestHour_97 (by decide) ?_
          exact ih44 ((24 - (i + 1)).toNat) (by omega) (i + 1) a (lwM (S 28) (S 26) (S 27) (S 24) (S 25) f lat (15 * i + d)) rfl (by omega) (by omega) (by first | (exfalso; omega) | (rw [hR, lpF_s zq48]; unfold bhQ; first | (rw [if_pos zq66]; done) | (rw [if_neg (Int.not_lt.mpr zq66)]; done))) _ _ hH ls (lv_sub hl [4, 5, 6, 7, 2, 1, 0] rfl)
      · refine lv_iload zx zb dX7_bestHour_69 (lv_at hl 7 rfl) ?_
        refine lv_goto (tgt := 76) zx zb dX7_bestHour_71 (by decide) ?_
        refine lv_istore (lv' := [(4, .int (iI i)), (7, .int (iI (lwM (S 28) (S 26) (S 27) (S 24) (S 25) f lat (15 * i + d)))), (0, .ref (g.1 23)), (1, .int (iI f)), (2, .int (iI lat)), (3, .int (iI d)), (5, .int (iI b)), (6, .int (iI i))]) zx zb dX7_bestHour_76 hl (by decide) rfl (fun ls hl => ?_)
        refine lv_iload zx zb dX7_bestHour_78 (lv_at hl 1 rfl) ?_
        refine lv_iload zx zb dX7_bestHour_80 (lv_at hl 6 rfl) ?_
        refine bq_le (tgt := 90) zx zb dX7_bestHour_82 (by decide) ⟨by omega, by omega⟩ ⟨by omega, by omega⟩ (fun zq82 => ?_) (fun zq82 => ?_)
        · refine lv_iload zx zb dX7_bestHour_90 (lv_at hl 6 rfl) ?_
          refine lv_istore (lv' := [(5, .int (iI b)), (4, .int (iI i)), (7, .int (iI (lwM (S 28) (S 26) (S 27) (S 24) (S 25) f lat (15 * i + d)))), (0, .ref (g.1 23)), (1, .int (iI f)), (2, .int (iI lat)), (3, .int (iI d)), (6, .int (iI i))]) zx zb dX7_bestHour_92 hl (by decide) rfl (fun ls hl => ?_)
          refine bi_inc (k0 := 7) (n := 1) (lv' := [(6, .int (iI (i + 1))), (5, .int (iI b)), (4, .int (iI i)), (7, .int (iI (lwM (S 28) (S 26) (S 27) (S 24) (S 25) f lat (15 * i + d)))), (0, .ref (g.1 23)), (1, .int (iI f)), (2, .int (iI lat)), (3, .int (iI d))]) zx zb dX7_bestHour_94 hl rfl (by decide) rfl (fun ls hl => ?_)
          refine lv_goto (tgt := 44) zx zb dX7_bestHour_97 (by decide) ?_
          exact ih44 ((24 - (i + 1)).toNat) (by omega) (i + 1) i b rfl (by omega) (by omega) (by first | (exfalso; omega) | (rw [hR, lpF_s zq48]; unfold bhQ; first | (rw [if_pos zq66]; done) | (rw [if_neg (Int.not_lt.mpr zq66)]; done))) _ _ hH ls (lv_sub hl [4, 5, 6, 7, 2, 1, 0] rfl)
        · refine lv_iload zx zb dX7_bestHour_85 (lv_at hl 1 rfl) ?_
          refine lv_goto (tgt := 92) zx zb dX7_bestHour_87 (by decide) ?_
          refine lv_istore (lv' := [(5, .int (iI (lwM (S 28) (S 26) (S 27) (S 24) (S 25) f lat (15 * i + d)))), (4, .int (iI i)), (7, .int (iI (lwM (S 28) (S 26) (S 27) (S 24) (S 25) f lat (15 * i + d)))), (0, .ref (g.1 23)), (1, .int (iI f)), (2, .int (iI lat)), (3, .int (iI d)), (6, .int (iI i))]) zx zb dX7_bestHour_92 hl (by decide) rfl (fun ls hl => ?_)
          refine bi_inc (k0 := 7) (n := 1) (lv' := [(6, .int (iI (i + 1))), (5, .int (iI (lwM (S 28) (S 26) (S 27) (S 24) (S 25) f lat (15 * i + d)))), (4, .int (iI i)), (7, .int (iI (lwM (S 28) (S 26) (S 27) (S 24) (S 25) f lat (15 * i + d)))), (0, .ref (g.1 23)), (1, .int (iI f)), (2, .int (iI lat)), (3, .int (iI d))]) zx zb dX7_bestHour_94 hl rfl (by decide) rfl (fun ls hl => ?_)
          refine lv_goto (tgt := 44) zx zb dX7_bestHour_97 (by decide) ?_
          exact ih44 ((24 - (i + 1)).toNat) (by omega) (i + 1) i (lwM (S 28) (S 26) (S 27) (S 24) (S 25) f lat (15 * i + d)) rfl (by omega) (by omega) (by first | (exfalso; omega) | (rw [hR, lpF_s zq48]; unfold bhQ; first | (rw [if_pos zq66]; done) | (rw [if_neg (Int.not_lt.mpr zq66)]; done))) _ _ hH ls (lv_sub hl [4, 5, 6, 7, 2, 1, 0] rfl)
  obtain ⟨H, hHe⟩ : ∃ H : Heap, H = s.heap := ⟨_, rfl⟩
  rw [show (Hp g S s s.heap []) = Hp g S s H [] by rw [hHe]] at hH
  rw [← hHe]
  refine lv_aload_n zx zb dX7_bestHour_0 rfl (lv_at hl 0 rfl) ?_
  refine lv_aload_n zx zb dX7_bestHour_1 rfl (lv_at hl 0 rfl) ?_
  refine lv_iload_n zx zb dX7_bestHour_2 rfl (lv_at hl 1 rfl) ?_
  refine cvI (rest := [.ref (g.1 23)]) (As := [.int (iI f)]) (b := g.1 23) C0 hH (c_X7_isFigure l g S f (by omega) (by omega)) kw_X7_80 ky_X7_isFigure ⟨Nat.le_of_ble_eq_true rfl, Nat.le_of_ble_eq_true rfl⟩ ⟨Nat.zero_le _, Nat.zero_le _⟩ 23 rfl rfl rfl hl.1 rfl (Nat.le_of_ble_eq_true rfl) dX7_bestHour_3 (fun H locs hH => ?_)
  rw [show (if 0 ≤ f ∧ f < S 23 7 then (1 : Int) else 0) = 1 from if_pos hfo]
  refine bz_ne (tgt := 13) zx zb dX7_bestHour_6 (by decide) ⟨by omega, by omega⟩ (fun zq6 => ?_) (fun zq6 => ?_)
  · refine lv_iload_n zx zb dX7_bestHour_13 rfl (lv_at hl 2 rfl) ?_
    refine lv_iload_n zx zb dX7_bestHour_14 rfl (lv_at hl 3 rfl) ?_
    refine bi_const (n := 0) zx zb dX7_bestHour_15 ?_
    refine csI (rest := [.ref (g.1 23)]) (As := [.int (iI lat), .int (iI d), .int (iI 0)]) C0 hH (c_X7_isTime l g S lat d 0 (by omega) (by omega) (by omega)) kw_X7_128 ky_X7_isTime ⟨Nat.le_of_ble_eq_true rfl, Nat.le_of_ble_eq_true rfl⟩ ⟨Nat.zero_le _, Nat.zero_le _⟩ rfl hl.1 rfl (Nat.le_of_ble_eq_true rfl) dX7_bestHour_16 (fun H locs hH => ?_)
    rw [show (if (-90 ≤ lat ∧ lat ≤ 90) ∧ (0 ≤ d ∧ d < 365) ∧ (0 ≤ (0 : Int) ∧ (0 : Int) < 24) then (1 : Int) else 0) = 1 from if_pos hto]
    refine bz_ne (tgt := 26) zx zb dX7_bestHour_19 (by decide) ⟨by omega, by omega⟩ (fun zq19 => ?_) (fun zq19 => ?_)
    · refine bi_const (n := 0) zx zb dX7_bestHour_26 ?_
      refine cvI (rest := []) (As := [.int (iI 0)]) (b := g.1 23) C0 hH (c_X7_isFine l g S 0 (by omega)) kw_X7_55 ky_X7_isFine ⟨Nat.le_of_ble_eq_true rfl, Nat.le_of_ble_eq_true rfl⟩ ⟨Nat.zero_le _, Nat.zero_le _⟩ 23 rfl rfl rfl hl.1 rfl (Nat.le_of_ble_eq_true rfl) dX7_bestHour_27 (fun H locs hH => ?_)
      show W p l e _ s m args below meth c H _ _ _ _ (F0 m 30 ls [.int (iI 1)])
      refine bz_ne (tgt := 35) zx zb dX7_bestHour_30 (by decide) ⟨by omega, by omega⟩ (fun zq30 => ?_) (fun zq30 => ?_)
      · refine bi_const (n := (-1)) zx zb dX7_bestHour_35 ?_
        refine lv_istore (lv' := [(4, .int (iI (-1))), (0, .ref (g.1 23)), (1, .int (iI f)), (2, .int (iI lat)), (3, .int (iI d))]) zx zb dX7_bestHour_36 hl (by decide) rfl (fun ls hl => ?_)
        refine bi_const (n := 0) zx zb dX7_bestHour_38 ?_
        refine lv_istore (lv' := [(5, .int (iI 0)), (4, .int (iI (-1))), (0, .ref (g.1 23)), (1, .int (iI f)), (2, .int (iI lat)), (3, .int (iI d))]) zx zb dX7_bestHour_39 hl (by decide) rfl (fun ls hl => ?_)
        refine bi_const (n := 0) zx zb dX7_bestHour_41 ?_
        refine lv_istore (lv' := [(6, .int (iI 0)), (5, .int (iI 0)), (4, .int (iI (-1))), (0, .ref (g.1 23)), (1, .int (iI f)), (2, .int (iI lat)), (3, .int (iI d))]) zx zb dX7_bestHour_42 hl (by decide) rfl (fun ls hl => ?_)
        exact L44 _ 0 (-1) 0 rfl (by omega) (by omega) (by unfold bhI; rw [Int.sub_zero]) _ _ hH ls (lv_sub hl [3, 4, 5, 6, 2, 1, 0] rfl)
      · exact absurd zq30 (by decide)
    · exact absurd zq19 (by decide)
  · exact absurd zq6 (by decide)
set_option maxRecDepth 100000 in
set_option maxHeartbeats 4000000 in
theorem f1_X7_bestHour (l : Launch) (g : gT) (S : gSt) (f lat d : Int) (hnf : 0 ≤ S 23 7 ∧ S 23 7 ≤ 8) (hr_f : -2147483648 ≤ f ∧ f < 2147483648) (hr_lat : -2147483648 ≤ lat ∧ lat < 2147483648) (hr_d : -2147483648 ≤ d ∧ d < 2147483648) (hfb : ¬(0 ≤ f ∧ f < S 23 7)) : MetG l g yX7_bestHour cX7_bestHour 8 (some .int) 2 43 [.ref (g.1 23), .int (iI f), .int (iI lat), .int (iI d)] S (some (.int (iI 0))) (st S 23 0 1) := by
  refine bodyG (by decide +kernel) (Nat.le_of_ble_eq_true rfl) ?_
  intro p e s m args below meth c ls C0 hret hlk hl hH
  have zx := C0.1
  have zb := C0.2.1
  have hl : lv_has ls 8 [(0, .ref (g.1 23)), (1, .int (iI f)), (2, .int (iI lat)), (3, .int (iI d))] := hl
  obtain ⟨H, hHe⟩ : ∃ H : Heap, H = s.heap := ⟨_, rfl⟩
  rw [show (Hp g S s s.heap []) = Hp g S s H [] by rw [hHe]] at hH
  rw [← hHe]
  refine lv_aload_n zx zb dX7_bestHour_0 rfl (lv_at hl 0 rfl) ?_
  refine lv_aload_n zx zb dX7_bestHour_1 rfl (lv_at hl 0 rfl) ?_
  refine lv_iload_n zx zb dX7_bestHour_2 rfl (lv_at hl 1 rfl) ?_
  refine cvI (rest := [.ref (g.1 23)]) (As := [.int (iI f)]) (b := g.1 23) C0 hH (c_X7_isFigure l g S f (by omega) (by omega)) kw_X7_80 ky_X7_isFigure ⟨Nat.le_of_ble_eq_true rfl, Nat.le_of_ble_eq_true rfl⟩ ⟨Nat.zero_le _, Nat.zero_le _⟩ 23 rfl rfl rfl hl.1 rfl (Nat.le_of_ble_eq_true rfl) dX7_bestHour_3 (fun H locs hH => ?_)
  rw [show (if 0 ≤ f ∧ f < S 23 7 then (1 : Int) else 0) = 0 from if_neg hfb]
  refine bz_ne (tgt := 13) zx zb dX7_bestHour_6 (by decide) ⟨by omega, by omega⟩ (fun zq6 => ?_) (fun zq6 => ?_)
  · exact absurd zq6 (by decide)
  · refine bi_const (n := 1) zx zb dX7_bestHour_9 ?_
    refine lv_goto (tgt := 27) zx zb dX7_bestHour_10 (by decide) ?_
    refine cvI (rest := []) (As := [.int (iI 1)]) (b := g.1 23) C0 hH (c_X7_isFine l g S 1 (by omega)) kw_X7_55 ky_X7_isFine ⟨Nat.le_of_ble_eq_true rfl, Nat.le_of_ble_eq_true rfl⟩ ⟨Nat.zero_le _, Nat.zero_le _⟩ 23 rfl rfl rfl hl.1 rfl (Nat.le_of_ble_eq_true rfl) dX7_bestHour_27 (fun H locs hH => ?_)
    show W p l e _ s m args below meth c H _ _ _ _ (F0 m 30 ls [.int (iI 0)])
    refine bz_ne (tgt := 35) zx zb dX7_bestHour_30 (by decide) ⟨by omega, by omega⟩ (fun zq30 => ?_) (fun zq30 => ?_)
    · exact absurd zq30 (by decide)
    · refine bi_const (n := 0) zx zb dX7_bestHour_33 ?_
      exact retI C0 hret hlk hH (by rfl) (rfl) dX7_bestHour_34
set_option maxRecDepth 100000 in
set_option maxHeartbeats 4000000 in
theorem f2_X7_bestHour (l : Launch) (g : gT) (S : gSt) (f lat d : Int) (hnf : 0 ≤ S 23 7 ∧ S 23 7 ≤ 8) (hfo : 0 ≤ f ∧ f < S 23 7) (hr_lat : -2147483648 ≤ lat ∧ lat < 2147483648) (hr_d : -2147483648 ≤ d ∧ d < 2147483648) (htb : ¬((-90 ≤ lat ∧ lat ≤ 90) ∧ (0 ≤ d ∧ d < 365) ∧ (0 ≤ (0 : Int) ∧ (0 : Int) < 24))) : MetG l g yX7_bestHour cX7_bestHour 8 (some .int) 2 44 [.ref (g.1 23), .int (iI f), .int (iI lat), .int (iI d)] S (some (.int (iI 0))) (st S 23 0 2) := by
  refine bodyG (by decide +kernel) (Nat.le_of_ble_eq_true rfl) ?_
  intro p e s m args below meth c ls C0 hret hlk hl hH
  have zx := C0.1
  have zb := C0.2.1
  have hl : lv_has ls 8 [(0, .ref (g.1 23)), (1, .int (iI f)), (2, .int (iI lat)), (3, .int (iI d))] := hl
  obtain ⟨H, hHe⟩ : ∃ H : Heap, H = s.heap := ⟨_, rfl⟩
  rw [show (Hp g S s s.heap []) = Hp g S s H [] by rw [hHe]] at hH
  rw [← hHe]
  refine lv_aload_n zx zb dX7_bestHour_0 rfl (lv_at hl 0 rfl) ?_
  refine lv_aload_n zx zb dX7_bestHour_1 rfl (lv_at hl 0 rfl) ?_
  refine lv_iload_n zx zb dX7_bestHour_2 rfl (lv_at hl 1 rfl) ?_
  refine cvI (rest := [.ref (g.1 23)]) (As := [.int (iI f)]) (b := g.1 23) C0 hH (c_X7_isFigure l g S f (by omega) (by omega)) kw_X7_80 ky_X7_isFigure ⟨Nat.le_of_ble_eq_true rfl, Nat.le_of_ble_eq_true rfl⟩ ⟨Nat.zero_le _, Nat.zero_le _⟩ 23 rfl rfl rfl hl.1 rfl (Nat.le_of_ble_eq_true rfl) dX7_bestHour_3 (fun H locs hH => ?_)
  rw [show (if 0 ≤ f ∧ f < S 23 7 then (1 : Int) else 0) = 1 from if_pos hfo]
  refine bz_ne (tgt := 13) zx zb dX7_bestHour_6 (by decide) ⟨by omega, by omega⟩ (fun zq6 => ?_) (fun zq6 => ?_)
  · refine lv_iload_n zx zb dX7_bestHour_13 rfl (lv_at hl 2 rfl) ?_
    refine lv_iload_n zx zb dX7_bestHour_14 rfl (lv_at hl 3 rfl) ?_
    refine bi_const (n := 0) zx zb dX7_bestHour_15 ?_
    refine csI (rest := [.ref (g.1 23)]) (As := [.int (iI lat), .int (iI d), .int (iI 0)]) C0 hH (c_X7_isTime l g S lat d 0 (by omega) (by omega) (by omega)) kw_X7_128 ky_X7_isTime ⟨Nat.le_of_ble_eq_true rfl, Nat.le_of_ble_eq_true rfl⟩ ⟨Nat.zero_le _, Nat.zero_le _⟩ rfl hl.1 rfl (Nat.le_of_ble_eq_true rfl) dX7_bestHour_16 (fun H locs hH => ?_)
    rw [show (if (-90 ≤ lat ∧ lat ≤ 90) ∧ (0 ≤ d ∧ d < 365) ∧ (0 ≤ (0 : Int) ∧ (0 : Int) < 24) then (1 : Int) else 0) = 0 from if_neg htb]
    refine bz_ne (tgt := 26) zx zb dX7_bestHour_19 (by decide) ⟨by omega, by omega⟩ (fun zq19 => ?_) (fun zq19 => ?_)
    · exact absurd zq19 (by decide)
    · refine bi_const (n := 2) zx zb dX7_bestHour_22 ?_
      refine lv_goto (tgt := 27) zx zb dX7_bestHour_23 (by decide) ?_
      refine cvI (rest := []) (As := [.int (iI 2)]) (b := g.1 23) C0 hH (c_X7_isFine l g S 2 (by omega)) kw_X7_55 ky_X7_isFine ⟨Nat.le_of_ble_eq_true rfl, Nat.le_of_ble_eq_true rfl⟩ ⟨Nat.zero_le _, Nat.zero_le _⟩ 23 rfl rfl rfl hl.1 rfl (Nat.le_of_ble_eq_true rfl) dX7_bestHour_27 (fun H locs hH => ?_)
      show W p l e _ s m args below meth c H _ _ _ _ (F0 m 30 ls [.int (iI 0)])
      refine bz_ne (tgt := 35) zx zb dX7_bestHour_30 (by decide) ⟨by omega, by omega⟩ (fun zq30 => ?_) (fun zq30 => ?_)
      · exact absurd zq30 (by decide)
      · refine bi_const (n := 0) zx zb dX7_bestHour_33 ?_
        exact retI C0 hret hlk hH (by rfl) (rfl) dX7_bestHour_34
  · exact absurd zq6 (by decide)
set_option maxRecDepth 100000 in
set_option maxHeartbeats 4000000 in
theorem c_X7_season (l : Launch) (g : gT) (S : gSt) (f lat h : Int) (hnf : 0 ≤ S 23 7 ∧ S 23 7 ≤ 8) (hfo : 0 ≤ f ∧ f < S 23 7) (hto : (-90 ≤ lat ∧ lat ≤ 90) ∧ (0 ≤ (0 : Int) ∧ (0 : Int) < 365) ∧ (0 ≤ h ∧ h < 24)) (hN : okN (S 28)) (hE : okE (S 28) (S 26)) (hO : okE (S 28) (S 27)) (hC : okC (S 24) (S 25)) : MetG l g yX7_season cX7_season 6 (some .int) 5 121 [.ref (g.1 23), .int (iI f), .int (iI lat), .int (iI h)] S (some (.int (iI (seI (fun d => upM (S 28) (S 26) (S 27) (S 24) (S 25) f lat (15 * h + d)))))) (st S 23 0 0) := by
  refine bodyG (by decide +kernel) (Nat.le_of_ble_eq_true rfl) ?_
  intro p e s m args below meth c ls C0 hret hlk hl hH
  have zx := C0.1
  have zb := C0.2.1
  have hl : lv_has ls 6 [(0, .ref (g.1 23)), (1, .int (iI f)), (2, .int (iI lat)), (3, .int (iI h))] := hl
  have L41 : ∀ (μ : Nat) (i : Int) (a : Int), (365 - i).toNat = μ → (0 ≤ i ∧ i ≤ 365) → (seI (fun d => upM (S 28) (S 26) (S 27) (S 24) (S 25) f lat (15 * h + d)) = lpF (cnQ (fun d => upM (S 28) (S 26) (S 27) (S 24) (S 25) f lat (15 * h + d))) (365 - i).toNat i a) → ∀ (H : Heap) (locs : List Loc), Hp g (st S 23 0 0) s H locs → ∀ ls : Array Slot, lv_has ls 6 [(0, .ref (g.1 23)), (1, .int (iI f)), (2, .int (iI lat)), (3, .int (iI h)), (4, .int (iI a)), (5, .int (iI i))] → W p l e { frames := 5, cells := 0, slots := 0, locals := 121 } s m args below meth c H locs 0 0 (MQ below (RetG g (some (.int (iI (seI (fun d => upM (S 28) (S 26) (S 27) (S 24) (S 25) f lat (15 * h + d)))))) (st S 23 0 0)) args s 0 0 (oA g)) (F0 m 41 ls []) := by
    refine lpN (fun μ41 ih41 => ?_)
    intro i a hμ41 hi hR H locs hH ls hl
    refine lv_iload zx zb dX7_season_41 (lv_at hl 5 rfl) ?_
    refine bi_sip (n := 365) zx zb dX7_season_43 (by decide) ?_
    refine bq_ge (tgt := 77) zx zb dX7_season_46 (by decide) ⟨by omega, by omega⟩ ⟨by omega, by omega⟩ (fun zq46 => ?_) (fun zq46 => ?_)
    · refine lv_iload zx zb dX7_season_77 (lv_at hl 4 rfl) ?_
      exact retI C0 hret hlk hH (by rw [hR, lpF_e zq46]) (rfl) dX7_season_79
    · refine lv_iload zx zb dX7_season_49 (lv_at hl 4 rfl) ?_
      refine lv_aload_n zx zb dX7_season_51 rfl (lv_at hl 0 rfl) ?_
      refine lv_iload_n zx zb dX7_season_52 rfl (lv_at hl 1 rfl) ?_
      refine lv_iload_n zx zb dX7_season_53 rfl (lv_at hl 2 rfl) ?_
      refine lv_iload zx zb dX7_season_54 (lv_at hl 5 rfl) ?_
      refine lv_iload_n zx zb dX7_season_56 rfl (lv_at hl 3 rfl) ?_
      refine cvI (rest := [.int (iI a)]) (As := [.int (iI f), .int (iI lat), .int (iI i), .int (iI h)]) (b := g.1 23) C0 hH (c_X7_isUpNow l g (st S 23 0 0) f lat i h (by omega) (by omega) (by omega) (by omega) (hN) (hE) (hO) (hC)) kw_X7_138 ky_X7_isUpNow ⟨Nat.le_of_ble_eq_true rfl, Nat.le_of_ble_eq_true rfl⟩ ⟨Nat.zero_le _, Nat.zero_le _⟩ 23 rfl rfl rfl hl.1 rfl (Nat.le_of_ble_eq_true rfl) dX7_season_57 (fun H locs hH => ?_)
      show W p l e _ s m args below meth c H _ _ _ _ (F0 m 60 ls [.int (iI (if upM (S 28) (S 26) (S 27) (S 24) (S 25) f lat (15 * h + i) = true then 1 else 0)), .int (iI a)])
      have hb60 := brg (upM (S 28) (S 26) (S 27) (S 24) (S 25) f lat (15 * h + i))
      refine bz_eq (tgt := 67) zx zb dX7_season_60 (by decide) ⟨by omega, by omega⟩ (fun zq60 => ?_) (fun zq60 => ?_)
      · refine bi_const (n := 0) zx zb dX7_season_67 ?_
        refine bi_add zx zb dX7_season_68 ?_
        refine lv_istore (lv' := [(4, .int (iI (a + 0))), (0, .ref (g.1 23)), (1, .int (iI f)), (2, .int (iI lat)), (3, .int (iI h)), (5, .int (iI i))]) zx zb dX7_season_69 hl (by decide) rfl (fun ls hl => ?_)
        refine bi_inc (k0 := 5) (n := 1) (lv' := [(5, .int (iI (i + 1))), (4, .int (iI (a + 0))), (0, .ref (g.1 23)), (1, .int (iI f)), (2, .int (iI lat)), (3, .int (iI h))]) zx zb dX7_season_71 hl rfl (by decide) rfl (fun ls hl => ?_)
        refine lv_goto (tgt := 41) zx zb dX7_season_74 (by decide) ?_
        exact ih41 ((365 - (i + 1)).toNat) (by omega) (i + 1) (a + 0) rfl (by omega) (by first | (rw [hR, lpF_s zq46, show cnQ (fun d => upM (S 28) (S 26) (S 27) (S 24) (S 25) f lat (15 * h + d)) i a = a + 0 from (cnQ_0 (p := (fun d => upM (S 28) (S 26) (S 27) (S 24) (S 25) f lat (15 * h + d))) (i := i) (a := a) (b0 zq60)).trans (Int.add_zero a).symm]; done) | (rw [hR, lpF_s zq46, show cnQ (fun d => upM (S 28) (S 26) (S 27) (S 24) (S 25) f lat (15 * h + d)) i a = a + 1 from cnQ_1 (b1 zq60)]; done)) _ _ hH ls (lv_sub hl [2, 3, 4, 5, 1, 0] rfl)
      · refine bi_const (n := 1) zx zb dX7_season_63 ?_
        refine lv_goto (tgt := 68) zx zb dX7_season_64 (by decide) ?_
        refine bi_add zx zb dX7_season_68 ?_
        refine lv_istore (lv' := [(4, .int (iI (a + 1))), (0, .ref (g.1 23)), (1, .int (iI f)), (2, .int (iI lat)), (3, .int (iI h)), (5, .int (iI i))]) zx zb dX7_season_69 hl (by decide) rfl (fun ls hl => ?_)
        refine bi_inc (k0 := 5) (n := 1) (lv' := [(5, .int (iI (i + 1))), (4, .int (iI (a + 1))), (0, .ref (g.1 23)), (1, .int (iI f)), (2, .int (iI lat)), (3, .int (iI h))]) zx zb dX7_season_71 hl rfl (by decide) rfl (fun ls hl => ?_)
        refine lv_goto (tgt := 41) zx zb dX7_season_74 (by decide) ?_
        exact ih41 ((365 - (i + 1)).toNat) (by omega) (i + 1) (a + 1) rfl (by omega) (by first | (rw [hR, lpF_s zq46, show cnQ (fun d => upM (S 28) (S 26) (S 27) (S 24) (S 25) f lat (15 * h + d)) i a = a + 0 from (cnQ_0 (p := (fun d => upM (S 28) (S 26) (S 27) (S 24) (S 25) f lat (15 * h + d))) (i := i) (a := a) (b0 zq60)).trans (Int.add_zero a).symm]; done) | (rw [hR, lpF_s zq46, show cnQ (fun d => upM (S 28) (S 26) (S 27) (S 24) (S 25) f lat (15 * h + d)) i a = a + 1 from cnQ_1 (b1 zq60)]; done)) _ _ hH ls (lv_sub hl [2, 3, 4, 5, 1, 0] rfl)
  obtain ⟨H, hHe⟩ : ∃ H : Heap, H = s.heap := ⟨_, rfl⟩
  rw [show (Hp g S s s.heap []) = Hp g S s H [] by rw [hHe]] at hH
  rw [← hHe]
  refine lv_aload_n zx zb dX7_season_0 rfl (lv_at hl 0 rfl) ?_
  refine lv_aload_n zx zb dX7_season_1 rfl (lv_at hl 0 rfl) ?_
  refine lv_iload_n zx zb dX7_season_2 rfl (lv_at hl 1 rfl) ?_
  refine cvI (rest := [.ref (g.1 23)]) (As := [.int (iI f)]) (b := g.1 23) C0 hH (c_X7_isFigure l g S f (by omega) (by omega)) kw_X7_80 ky_X7_isFigure ⟨Nat.le_of_ble_eq_true rfl, Nat.le_of_ble_eq_true rfl⟩ ⟨Nat.zero_le _, Nat.zero_le _⟩ 23 rfl rfl rfl hl.1 rfl (Nat.le_of_ble_eq_true rfl) dX7_season_3 (fun H locs hH => ?_)
  rw [show (if 0 ≤ f ∧ f < S 23 7 then (1 : Int) else 0) = 1 from if_pos hfo]
  refine bz_ne (tgt := 13) zx zb dX7_season_6 (by decide) ⟨by omega, by omega⟩ (fun zq6 => ?_) (fun zq6 => ?_)
  · refine lv_iload_n zx zb dX7_season_13 rfl (lv_at hl 2 rfl) ?_
    refine bi_const (n := 0) zx zb dX7_season_14 ?_
    refine lv_iload_n zx zb dX7_season_15 rfl (lv_at hl 3 rfl) ?_
    refine csI (rest := [.ref (g.1 23)]) (As := [.int (iI lat), .int (iI 0), .int (iI h)]) C0 hH (c_X7_isTime l g S lat 0 h (by omega) (by omega) (by omega)) kw_X7_128 ky_X7_isTime ⟨Nat.le_of_ble_eq_true rfl, Nat.le_of_ble_eq_true rfl⟩ ⟨Nat.zero_le _, Nat.zero_le _⟩ rfl hl.1 rfl (Nat.le_of_ble_eq_true rfl) dX7_season_16 (fun H locs hH => ?_)
    rw [show (if (-90 ≤ lat ∧ lat ≤ 90) ∧ (0 ≤ (0 : Int) ∧ (0 : Int) < 365) ∧ (0 ≤ h ∧ h < 24) then (1 : Int) else 0) = 1 from if_pos hto]
    refine bz_ne (tgt := 26) zx zb dX7_season_19 (by decide) ⟨by omega, by omega⟩ (fun zq19 => ?_) (fun zq19 => ?_)
    · refine bi_const (n := 0) zx zb dX7_season_26 ?_
      refine cvI (rest := []) (As := [.int (iI 0)]) (b := g.1 23) C0 hH (c_X7_isFine l g S 0 (by omega)) kw_X7_55 ky_X7_isFine ⟨Nat.le_of_ble_eq_true rfl, Nat.le_of_ble_eq_true rfl⟩ ⟨Nat.zero_le _, Nat.zero_le _⟩ 23 rfl rfl rfl hl.1 rfl (Nat.le_of_ble_eq_true rfl) dX7_season_27 (fun H locs hH => ?_)
      show W p l e _ s m args below meth c H _ _ _ _ (F0 m 30 ls [.int (iI 1)])
      refine bz_ne (tgt := 35) zx zb dX7_season_30 (by decide) ⟨by omega, by omega⟩ (fun zq30 => ?_) (fun zq30 => ?_)
      · refine bi_const (n := 0) zx zb dX7_season_35 ?_
        refine lv_istore (lv' := [(4, .int (iI 0)), (0, .ref (g.1 23)), (1, .int (iI f)), (2, .int (iI lat)), (3, .int (iI h))]) zx zb dX7_season_36 hl (by decide) rfl (fun ls hl => ?_)
        refine bi_const (n := 0) zx zb dX7_season_38 ?_
        refine lv_istore (lv' := [(5, .int (iI 0)), (4, .int (iI 0)), (0, .ref (g.1 23)), (1, .int (iI f)), (2, .int (iI lat)), (3, .int (iI h))]) zx zb dX7_season_39 hl (by decide) rfl (fun ls hl => ?_)
        exact L41 _ 0 0 rfl (by omega) (by unfold seI; rw [Int.sub_zero]) _ _ hH ls (lv_sub hl [2, 3, 4, 5, 1, 0] rfl)
      · exact absurd zq30 (by decide)
    · exact absurd zq19 (by decide)
  · exact absurd zq6 (by decide)
set_option maxRecDepth 100000 in
set_option maxHeartbeats 4000000 in
theorem f1_X7_season (l : Launch) (g : gT) (S : gSt) (f lat h : Int) (hnf : 0 ≤ S 23 7 ∧ S 23 7 ≤ 8) (hr_f : -2147483648 ≤ f ∧ f < 2147483648) (hr_lat : -2147483648 ≤ lat ∧ lat < 2147483648) (hr_h : -2147483648 ≤ h ∧ h < 2147483648) (hfb : ¬(0 ≤ f ∧ f < S 23 7)) : MetG l g yX7_season cX7_season 6 (some .int) 2 43 [.ref (g.1 23), .int (iI f), .int (iI lat), .int (iI h)] S (some (.int (iI 0))) (st S 23 0 1) := by
  refine bodyG (by decide +kernel) (Nat.le_of_ble_eq_true rfl) ?_
  intro p e s m args below meth c ls C0 hret hlk hl hH
  have zx := C0.1
  have zb := C0.2.1
  have hl : lv_has ls 6 [(0, .ref (g.1 23)), (1, .int (iI f)), (2, .int (iI lat)), (3, .int (iI h))] := hl
  obtain ⟨H, hHe⟩ : ∃ H : Heap, H = s.heap := ⟨_, rfl⟩
  rw [show (Hp g S s s.heap []) = Hp g S s H [] by rw [hHe]] at hH
  rw [← hHe]
  refine lv_aload_n zx zb dX7_season_0 rfl (lv_at hl 0 rfl) ?_
  refine lv_aload_n zx zb dX7_season_1 rfl (lv_at hl 0 rfl) ?_
  refine lv_iload_n zx zb dX7_season_2 rfl (lv_at hl 1 rfl) ?_
  refine cvI (rest := [.ref (g.1 23)]) (As := [.int (iI f)]) (b := g.1 23) C0 hH (c_X7_isFigure l g S f (by omega) (by omega)) kw_X7_80 ky_X7_isFigure ⟨Nat.le_of_ble_eq_true rfl, Nat.le_of_ble_eq_true rfl⟩ ⟨Nat.zero_le _, Nat.zero_le _⟩ 23 rfl rfl rfl hl.1 rfl (Nat.le_of_ble_eq_true rfl) dX7_season_3 (fun H locs hH => ?_)
  rw [show (if 0 ≤ f ∧ f < S 23 7 then (1 : Int) else 0) = 0 from if_neg hfb]
  refine bz_ne (tgt := 13) zx zb dX7_season_6 (by decide) ⟨by omega, by omega⟩ (fun zq6 => ?_) (fun zq6 => ?_)
  · exact absurd zq6 (by decide)
  · refine bi_const (n := 1) zx zb dX7_season_9 ?_
    refine lv_goto (tgt := 27) zx zb dX7_season_10 (by decide) ?_
    refine cvI (rest := []) (As := [.int (iI 1)]) (b := g.1 23) C0 hH (c_X7_isFine l g S 1 (by omega)) kw_X7_55 ky_X7_isFine ⟨Nat.le_of_ble_eq_true rfl, Nat.le_of_ble_eq_true rfl⟩ ⟨Nat.zero_le _, Nat.zero_le _⟩ 23 rfl rfl rfl hl.1 rfl (Nat.le_of_ble_eq_true rfl) dX7_season_27 (fun H locs hH => ?_)
    show W p l e _ s m args below meth c H _ _ _ _ (F0 m 30 ls [.int (iI 0)])
    refine bz_ne (tgt := 35) zx zb dX7_season_30 (by decide) ⟨by omega, by omega⟩ (fun zq30 => ?_) (fun zq30 => ?_)
    · exact absurd zq30 (by decide)
    · refine bi_const (n := 0) zx zb dX7_season_33 ?_
      exact retI C0 hret hlk hH (by rfl) (rfl) dX7_season_34
set_option maxRecDepth 100000 in
set_option maxHeartbeats 4000000 in
theorem f2_X7_season (l : Launch) (g : gT) (S : gSt) (f lat h : Int) (hnf : 0 ≤ S 23 7 ∧ S 23 7 ≤ 8) (hfo : 0 ≤ f ∧ f < S 23 7) (hr_lat : -2147483648 ≤ lat ∧ lat < 2147483648) (hr_h : -2147483648 ≤ h ∧ h < 2147483648) (htb : ¬((-90 ≤ lat ∧ lat ≤ 90) ∧ (0 ≤ (0 : Int) ∧ (0 : Int) < 365) ∧ (0 ≤ h ∧ h < 24))) : MetG l g yX7_season cX7_season 6 (some .int) 2 44 [.ref (g.1 23), .int (iI f), .int (iI lat), .int (iI h)] S (some (.int (iI 0))) (st S 23 0 2) := by
  refine bodyG (by decide +kernel) (Nat.le_of_ble_eq_true rfl) ?_
  intro p e s m args below meth c ls C0 hret hlk hl hH
  have zx := C0.1
  have zb := C0.2.1
  have hl : lv_has ls 6 [(0, .ref (g.1 23)), (1, .int (iI f)), (2, .int (iI lat)), (3, .int (iI h))] := hl
  obtain ⟨H, hHe⟩ : ∃ H : Heap, H = s.heap := ⟨_, rfl⟩
  rw [show (Hp g S s s.heap []) = Hp g S s H [] by rw [hHe]] at hH
  rw [← hHe]
  refine lv_aload_n zx zb dX7_season_0 rfl (lv_at hl 0 rfl) ?_
  refine lv_aload_n zx zb dX7_season_1 rfl (lv_at hl 0 rfl) ?_
  refine lv_iload_n zx zb dX7_season_2 rfl (lv_at hl 1 rfl) ?_
  refine cvI (rest := [.ref (g.1 23)]) (As := [.int (iI f)]) (b := g.1 23) C0 hH (c_X7_isFigure l g S f (by omega) (by omega)) kw_X7_80 ky_X7_isFigure ⟨Nat.le_of_ble_eq_true rfl, Nat.le_of_ble_eq_true rfl⟩ ⟨Nat.zero_le _, Nat.zero_le _⟩ 23 rfl rfl rfl hl.1 rfl (Nat.le_of_ble_eq_true rfl) dX7_season_3 (fun H locs hH => ?_)
  rw [show (if 0 ≤ f ∧ f < S 23 7 then (1 : Int) else 0) = 1 from if_pos hfo]
  refine bz_ne (tgt := 13) zx zb dX7_season_6 (by decide) ⟨by omega, by omega⟩ (fun zq6 => ?_) (fun zq6 => ?_)
  · refine lv_iload_n zx zb dX7_season_13 rfl (lv_at hl 2 rfl) ?_
    refine bi_const (n := 0) zx zb dX7_season_14 ?_
    refine lv_iload_n zx zb dX7_season_15 rfl (lv_at hl 3 rfl) ?_
    refine csI (rest := [.ref (g.1 23)]) (As := [.int (iI lat), .int (iI 0), .int (iI h)]) C0 hH (c_X7_isTime l g S lat 0 h (by omega) (by omega) (by omega)) kw_X7_128 ky_X7_isTime ⟨Nat.le_of_ble_eq_true rfl, Nat.le_of_ble_eq_true rfl⟩ ⟨Nat.zero_le _, Nat.zero_le _⟩ rfl hl.1 rfl (Nat.le_of_ble_eq_true rfl) dX7_season_16 (fun H locs hH => ?_)
    rw [show (if (-90 ≤ lat ∧ lat ≤ 90) ∧ (0 ≤ (0 : Int) ∧ (0 : Int) < 365) ∧ (0 ≤ h ∧ h < 24) then (1 : Int) else 0) = 0 from if_neg htb]
    refine bz_ne (tgt := 26) zx zb dX7_season_19 (by decide) ⟨by omega, by omega⟩ (fun zq19 => ?_) (fun zq19 => ?_)
    · exact absurd zq19 (by decide)
    · refine bi_const (n := 2) zx zb dX7_season_22 ?_
      refine lv_goto (tgt := 27) zx zb dX7_season_23 (by decide) ?_
      refine cvI (rest := []) (As := [.int (iI 2)]) (b := g.1 23) C0 hH (c_X7_isFine l g S 2 (by omega)) kw_X7_55 ky_X7_isFine ⟨Nat.le_of_ble_eq_true rfl, Nat.le_of_ble_eq_true rfl⟩ ⟨Nat.zero_le _, Nat.zero_le _⟩ 23 rfl rfl rfl hl.1 rfl (Nat.le_of_ble_eq_true rfl) dX7_season_27 (fun H locs hH => ?_)
      show W p l e _ s m args below meth c H _ _ _ _ (F0 m 30 ls [.int (iI 0)])
      refine bz_ne (tgt := 35) zx zb dX7_season_30 (by decide) ⟨by omega, by omega⟩ (fun zq30 => ?_) (fun zq30 => ?_)
      · exact absurd zq30 (by decide)
      · refine bi_const (n := 0) zx zb dX7_season_33 ?_
        exact retI C0 hret hlk hH (by rfl) (rfl) dX7_season_34
  · exact absurd zq6 (by decide)
set_option maxRecDepth 100000 in
set_option maxHeartbeats 4000000 in
theorem c_X7_plan (l : Launch) (g : gT) (S : gSt) (f lat d h : Int) (hnf : 0 ≤ S 23 7 ∧ S 23 7 ≤ 8) (hfo : 0 ≤ f ∧ f < S 23 7) (hto : (-90 ≤ lat ∧ lat ≤ 90) ∧ (0 ≤ d ∧ d < 365) ∧ (0 ≤ h ∧ h < 24)) (hN : okN (S 28)) (hE : okE (S 28) (S 26)) (hO : okE (S 28) (S 27)) (hC : okC (S 24) (S 25)) (hV : okV (S 29)) (hsc : 0 ≤ S 23 11 ∧ S 23 11 ≤ 12) (hup : upM (S 28) (S 26) (S 27) (S 24) (S 25) f lat (15 * h + d) = true) (hnm : nmM (vtI (S 29)) (S 23 7) (S 30) f ≠ -1) (hs12 : S 23 11 < 12) : MetG l g yX7_plan cX7_plan 8 (some .int) 5 121 [.ref (g.1 23), .int (iI f), .int (iI lat), .int (iI d), .int (iI h)] S (some (.int (iI (S 23 11)))) (st (st (gvM (st (st (st (st (st (gvM S) 23 0 0) 31 (5 * (S 23 11)) f) 31 ((5 * (S 23 11)) + 1) lat) 31 ((5 * (S 23 11)) + 2) d) 31 ((5 * (S 23 11)) + 3) h)) 31 ((5 * (S 23 11)) + 4) (nmM (vtI (S 29)) (S 23 7) ((st (st (st (st (st (gvM S) 23 0 0) 31 (5 * (S 23 11)) f) 31 ((5 * (S 23 11)) + 1) lat) 31 ((5 * (S 23 11)) + 2) d) 31 ((5 * (S 23 11)) + 3) h) 30) f)) 23 11 ((S 23 11) + 1)) := by
  refine bodyG (by decide +kernel) (Nat.le_of_ble_eq_true rfl) ?_
  intro p e s m args below meth c ls C0 hret hlk hl hH
  have zx := C0.1
  have zb := C0.2.1
  have hl : lv_has ls 8 [(0, .ref (g.1 23)), (1, .int (iI f)), (2, .int (iI lat)), (3, .int (iI d)), (4, .int (iI h))] := hl
  obtain ⟨H, hHe⟩ : ∃ H : Heap, H = s.heap := ⟨_, rfl⟩
  rw [show (Hp g S s s.heap []) = Hp g S s H [] by rw [hHe]] at hH
  rw [← hHe]
  refine lv_aload_n zx zb dX7_plan_0 rfl (lv_at hl 0 rfl) ?_
  refine lv_iload_n zx zb dX7_plan_1 rfl (lv_at hl 1 rfl) ?_
  refine cvI (rest := []) (As := [.int (iI f)]) (b := g.1 23) C0 hH (c_X7_isFigure l g S f (by omega) (by omega)) kw_X7_80 ky_X7_isFigure ⟨Nat.le_of_ble_eq_true rfl, Nat.le_of_ble_eq_true rfl⟩ ⟨Nat.zero_le _, Nat.zero_le _⟩ 23 rfl rfl rfl hl.1 rfl (Nat.le_of_ble_eq_true rfl) dX7_plan_2 (fun H locs hH => ?_)
  rw [show (if 0 ≤ f ∧ f < S 23 7 then (1 : Int) else 0) = 1 from if_pos hfo]
  refine lv_istore (lv' := [(5, .int (iI 1)), (0, .ref (g.1 23)), (1, .int (iI f)), (2, .int (iI lat)), (3, .int (iI d)), (4, .int (iI h))]) zx zb dX7_plan_5 hl (by decide) rfl (fun ls hl => ?_)
  refine lv_iload_n zx zb dX7_plan_7 rfl (lv_at hl 3 rfl) ?_
  refine lv_iload_n zx zb dX7_plan_8 rfl (lv_at hl 4 rfl) ?_
  refine lv_iload zx zb dX7_plan_9 (lv_at hl 5 rfl) ?_
  refine csI (rest := []) (As := [.int (iI lat), .int (iI d), .int (iI h)]) C0 hH (c_X7_isTime l g S lat d h (by omega) (by omega) (by omega)) kw_X7_128 ky_X7_isTime ⟨Nat.le_of_ble_eq_true rfl, Nat.le_of_ble_eq_true rfl⟩ ⟨Nat.zero_le _, Nat.zero_le _⟩ rfl hl.1 rfl (Nat.le_of_ble_eq_true rfl) dX7_plan_11 (fun H locs hH => ?_)
  rw [show (if (-90 ≤ lat ∧ lat ≤ 90) ∧ (0 ≤ d ∧ d < 365) ∧ (0 ≤ h ∧ h < 24) then (1 : Int) else 0) = 1 from if_pos hto]
  refine lv_istore (lv' := [(6, .int (iI 1)), (5, .int (iI 1)), (0, .ref (g.1 23)), (1, .int (iI f)), (2, .int (iI lat)), (3, .int (iI d)), (4, .int (iI h))]) zx zb dX7_plan_14 hl (by decide) rfl (fun ls hl => ?_)
  refine lv_iload zx zb dX7_plan_16 (lv_at hl 1 rfl) ?_
  refine bz_eq (tgt := 60) zx zb dX7_plan_18 (by decide) ⟨by omega, by omega⟩ (fun zq18 => ?_) (fun zq18 => ?_)
  · exact absurd zq18 (by decide)
  · refine lv_iload zx zb dX7_plan_21 (lv_at hl 0 rfl) ?_
    refine bz_eq (tgt := 60) zx zb dX7_plan_23 (by decide) ⟨by omega, by omega⟩ (fun zq23 => ?_) (fun zq23 => ?_)
    · exact absurd zq23 (by decide)
    · refine lv_aload_n zx zb dX7_plan_26 rfl (lv_at hl 2 rfl) ?_
      refine lv_iload_n zx zb dX7_plan_27 rfl (lv_at hl 3 rfl) ?_
      refine lv_iload_n zx zb dX7_plan_28 rfl (lv_at hl 4 rfl) ?_
      refine lv_iload_n zx zb dX7_plan_29 rfl (lv_at hl 5 rfl) ?_
      refine lv_iload zx zb dX7_plan_30 (lv_at hl 6 rfl) ?_
      refine cvI (rest := []) (As := [.int (iI f), .int (iI lat), .int (iI d), .int (iI h)]) (b := g.1 23) C0 hH (c_X7_isUpNow l g S f lat d h (by omega) (by omega) (by omega) (by omega) (hN) (hE) (hO) (hC)) kw_X7_138 ky_X7_isUpNow ⟨Nat.le_of_ble_eq_true rfl, Nat.le_of_ble_eq_true rfl⟩ ⟨Nat.zero_le _, Nat.zero_le _⟩ 23 rfl rfl rfl hl.1 rfl (Nat.le_of_ble_eq_true rfl) dX7_plan_32 (fun H locs hH => ?_)
      rw [hup]
      show W p l e _ s m args below meth c H _ _ _ _ (F0 m 35 ls [.int (iI 1)])
      refine bz_eq (tgt := 60) zx zb dX7_plan_35 (by decide) ⟨by omega, by omega⟩ (fun zq35 => ?_) (fun zq35 => ?_)
      · exact absurd zq35 (by decide)
      · refine lv_aload_n zx zb dX7_plan_38 rfl (lv_at hl 2 rfl) ?_
        refine lv_iload_n zx zb dX7_plan_39 rfl (lv_at hl 3 rfl) ?_
        refine cvI (rest := []) (As := [.int (iI f)]) (b := g.1 23) C0 hH (c_X7_nameNow l g S f (by omega) (hnf) (hV)) kw_X7_115 ky_X7_nameNow ⟨Nat.le_of_ble_eq_true rfl, Nat.le_of_ble_eq_true rfl⟩ ⟨Nat.zero_le _, Nat.zero_le _⟩ 23 rfl rfl rfl hl.1 rfl (Nat.le_of_ble_eq_true rfl) dX7_plan_40 (fun H locs hH => ?_)
        have hnb := nmM_b (T := vtI (S 29)) hnf.2 (S 30) (j := f) (by omega) (by omega)
        refine bi_const (n := (-1)) zx zb dX7_plan_43 ?_
        refine bq_eq (tgt := 60) zx zb dX7_plan_44 (by decide) ⟨by omega, by omega⟩ ⟨by omega, by omega⟩ (fun zq44 => ?_) (fun zq44 => ?_)
        · exact absurd zq44 hnm
        · refine lv_aload_n zx zb dX7_plan_47 rfl (lv_at hl 2 rfl) ?_
          refine gf_X7_144 C0 hH dX7_plan_48 ?_
          show W p l e _ s m args below meth c H _ _ _ _ (F0 m 51 ls [.int (iI (S 23 11))])
          refine bi_bip (n := 12) zx zb dX7_plan_51 (by decide) ?_
          refine bq_ge (tgt := 60) zx zb dX7_plan_53 (by decide) ⟨by omega, by omega⟩ ⟨by omega, by omega⟩ (fun zq53 => ?_) (fun zq53 => ?_)
          · exact absurd zq53 (by omega)
          · refine bi_const (n := 1) zx zb dX7_plan_56 ?_
            refine lv_goto (tgt := 61) zx zb dX7_plan_57 (by decide) ?_
            refine lv_istore (lv' := [(7, .int (iI 1)), (6, .int (iI 1)), (5, .int (iI 1)), (0, .ref (g.1 23)), (1, .int (iI f)), (2, .int (iI lat)), (3, .int (iI d)), (4, .int (iI h))]) zx zb dX7_plan_61 hl (by decide) rfl (fun ls hl => ?_)
            refine lv_aload_n zx zb dX7_plan_63 rfl (lv_at hl 3 rfl) ?_
            refine lv_iload zx zb dX7_plan_64 (lv_at hl 2 rfl) ?_
            refine bz_ne (tgt := 73) zx zb dX7_plan_66 (by decide) ⟨by omega, by omega⟩ (fun zq66 => ?_) (fun zq66 => ?_)
            · refine lv_iload zx zb dX7_plan_73 (lv_at hl 1 rfl) ?_
              refine bz_ne (tgt := 82) zx zb dX7_plan_75 (by decide) ⟨by omega, by omega⟩ (fun zq75 => ?_) (fun zq75 => ?_)
              · refine lv_iload zx zb dX7_plan_82 (lv_at hl 0 rfl) ?_
                refine bz_ne (tgt := 91) zx zb dX7_plan_84 (by decide) ⟨by omega, by omega⟩ (fun zq84 => ?_) (fun zq84 => ?_)
                · refine bi_const (n := 0) zx zb dX7_plan_91 ?_
                  refine cvI (rest := []) (As := [.int (iI 0)]) (b := g.1 23) C0 hH (c_X7_isFine l g (gvM S) 0 (by omega)) kw_X7_55 ky_X7_isFine ⟨Nat.le_of_ble_eq_true rfl, Nat.le_of_ble_eq_true rfl⟩ ⟨Nat.zero_le _, Nat.zero_le _⟩ 23 rfl rfl rfl hl.1 rfl (Nat.le_of_ble_eq_true rfl) dX7_plan_92 (fun H locs hH => ?_)
                  show W p l e _ s m args below meth c H _ _ _ _ (F0 m 95 ls [.int (iI 1)])
                  refine bz_ne (tgt := 100) zx zb dX7_plan_95 (by decide) ⟨by omega, by omega⟩ (fun zq95 => ?_) (fun zq95 => ?_)
                  · refine lv_aload_n zx zb dX7_plan_100 rfl (lv_at hl 3 rfl) ?_
                    refine gf_X7_31 C0 hH dX7_plan_101 ?_
                    refine bi_const (n := 5) zx zb dX7_plan_104 ?_
                    refine lv_aload_n zx zb dX7_plan_105 rfl (lv_at hl 3 rfl) ?_
                    refine gf_X7_144 C0 hH dX7_plan_106 ?_
                    show W p l e _ s m args below meth c H _ _ _ _ (F0 m 109 ls [.int (iI (S 23 11)), .int (iI 5), .ref (g.1 31)])
                    refine bi_mul zx zb dX7_plan_109 ?_
                    refine lv_iload_n zx zb dX7_plan_110 rfl (lv_at hl 4 rfl) ?_
                    refine as_31 C0 hH (by omega) (by omega) dX7_plan_111 (fun H locs hH => ?_)
                    refine lv_aload_n zx zb dX7_plan_112 rfl (lv_at hl 3 rfl) ?_
                    refine gf_X7_31 C0 hH dX7_plan_113 ?_
                    refine bi_const (n := 5) zx zb dX7_plan_116 ?_
                    refine lv_aload_n zx zb dX7_plan_117 rfl (lv_at hl 3 rfl) ?_
                    refine gf_X7_144 C0 hH dX7_plan_118 ?_
                    show W p l e _ s m args below meth c H _ _ _ _ (F0 m 121 ls [.int (iI (S 23 11)), .int (iI 5), .ref (g.1 31)])
                    refine bi_mul zx zb dX7_plan_121 ?_
                    refine bi_const (n := 1) zx zb dX7_plan_122 ?_
                    refine bi_add zx zb dX7_plan_123 ?_
                    refine lv_iload_n zx zb dX7_plan_124 rfl (lv_at hl 5 rfl) ?_
                    refine as_31 C0 hH (by omega) (by omega) dX7_plan_125 (fun H locs hH => ?_)
                    refine lv_aload_n zx zb dX7_plan_126 rfl (lv_at hl 3 rfl) ?_
                    refine gf_X7_31 C0 hH dX7_plan_127 ?_
                    refine bi_const (n := 5) zx zb dX7_plan_130 ?_
                    refine lv_aload_n zx zb dX7_plan_131 rfl (lv_at hl 3 rfl) ?_
                    refine gf_X7_144 C0 hH dX7_plan_132 ?_
                    show W p l e _ s m args below meth c H _ _ _ _ (F0 m 135 ls [.int (iI (S 23 11)), .int (iI 5), .ref (g.1 31)])
                    refine bi_mul zx zb dX7_plan_135 ?_
                    refine bi_const (n := 2) zx zb dX7_plan_136 ?_
                    refine bi_add zx zb dX7_plan_137 ?_
                    refine lv_iload_n zx zb dX7_plan_138 rfl (lv_at hl 6 rfl) ?_
                    refine as_31 C0 hH (by omega) (by omega) dX7_plan_139 (fun H locs hH => ?_)
                    refine lv_aload_n zx zb dX7_plan_140 rfl (lv_at hl 3 rfl) ?_
                    refine gf_X7_31 C0 hH dX7_plan_141 ?_
                    refine bi_const (n := 5) zx zb dX7_plan_144 ?_
                    refine lv_aload_n zx zb dX7_plan_145 rfl (lv_at hl 3 rfl) ?_
                    refine gf_X7_144 C0 hH dX7_plan_146 ?_
                    show W p l e _ s m args below meth c H _ _ _ _ (F0 m 149 ls [.int (iI (S 23 11)), .int (iI 5), .ref (g.1 31)])
                    refine bi_mul zx zb dX7_plan_149 ?_
                    refine bi_const (n := 3) zx zb dX7_plan_150 ?_
                    refine bi_add zx zb dX7_plan_151 ?_
                    refine lv_iload zx zb dX7_plan_152 (lv_at hl 7 rfl) ?_
                    refine as_31 C0 hH (by omega) (by omega) dX7_plan_154 (fun H locs hH => ?_)
                    refine lv_aload_n zx zb dX7_plan_155 rfl (lv_at hl 3 rfl) ?_
                    refine gf_X7_31 C0 hH dX7_plan_156 ?_
                    refine bi_const (n := 5) zx zb dX7_plan_159 ?_
                    refine lv_aload_n zx zb dX7_plan_160 rfl (lv_at hl 3 rfl) ?_
                    refine gf_X7_144 C0 hH dX7_plan_161 ?_
                    show W p l e _ s m args below meth c H _ _ _ _ (F0 m 164 ls [.int (iI (S 23 11)), .int (iI 5), .ref (g.1 31)])
                    refine bi_mul zx zb dX7_plan_164 ?_
                    refine bi_const (n := 4) zx zb dX7_plan_165 ?_
                    refine bi_add zx zb dX7_plan_166 ?_
                    refine lv_aload_n zx zb dX7_plan_167 rfl (lv_at hl 3 rfl) ?_
                    refine lv_iload_n zx zb dX7_plan_168 rfl (lv_at hl 4 rfl) ?_
                    refine cvI (rest := [.int (iI ((5 * (S 23 11)) + 4)), .ref (g.1 31)]) (As := [.int (iI f)]) (b := g.1 23) C0 hH (c_X7_nameNow l g (st (st (st (st (st (gvM S) 23 0 0) 31 (5 * (S 23 11)) f) 31 ((5 * (S 23 11)) + 1) lat) 31 ((5 * (S 23 11)) + 2) d) 31 ((5 * (S 23 11)) + 3) h) f (by omega) (hnf) (hV)) kw_X7_115 ky_X7_nameNow ⟨Nat.le_of_ble_eq_true rfl, Nat.le_of_ble_eq_true rfl⟩ ⟨Nat.zero_le _, Nat.zero_le _⟩ 23 rfl rfl rfl hl.1 rfl (Nat.le_of_ble_eq_true rfl) dX7_plan_169 (fun H locs hH => ?_)
                    show W p l e _ s m args below meth c H _ _ _ _ (F0 m 172 ls [.int (iI (nmM (vtI (S 29)) (S 23 7) ((st (st (st (st (st (gvM S) 23 0 0) 31 (5 * (S 23 11)) f) 31 ((5 * (S 23 11)) + 1) lat) 31 ((5 * (S 23 11)) + 2) d) 31 ((5 * (S 23 11)) + 3) h) 30) f)), .int (iI ((5 * (S 23 11)) + 4)), .ref (g.1 31)])
                    refine as_31 C0 hH (by omega) (by omega) dX7_plan_172 (fun H locs hH => ?_)
                    refine lv_aload_n zx zb dX7_plan_173 rfl (lv_at hl 3 rfl) ?_
                    refine lv_dup zx zb dX7_plan_174 rfl ?_
                    refine gf_X7_144 C0 hH dX7_plan_175 ?_
                    show W p l e _ s m args below meth c H _ _ _ _ (F0 m 178 ls [.int (iI (S 23 11)), .ref (g.1 23)])
                    refine bi_const (n := 1) zx zb dX7_plan_178 ?_
                    refine bi_add zx zb dX7_plan_179 ?_
                    refine pf_X7_144 C0 hH dX7_plan_180 (fun H locs hH => ?_)
                    refine lv_aload_n zx zb dX7_plan_183 rfl (lv_at hl 3 rfl) ?_
                    refine gf_X7_144 C0 hH dX7_plan_184 ?_
                    show W p l e _ s m args below meth c H _ _ _ _ (F0 m 187 ls [.int (iI ((S 23 11) + 1))])
                    refine bi_const (n := 1) zx zb dX7_plan_187 ?_
                    refine bi_sub zx zb dX7_plan_188 ?_
                    exact retI C0 hret hlk hH (by omega) (rfl) dX7_plan_189
                  · exact absurd zq95 (by decide)
                · exact absurd zq84 (by decide)
              · exact absurd zq75 (by decide)
            · exact absurd zq66 (by decide)
set_option maxRecDepth 100000 in
set_option maxHeartbeats 4000000 in
theorem f1_X7_plan (l : Launch) (g : gT) (S : gSt) (f lat d h : Int) (hnf : 0 ≤ S 23 7 ∧ S 23 7 ≤ 8) (hr_f : -2147483648 ≤ f ∧ f < 2147483648) (hr_lat : -2147483648 ≤ lat ∧ lat < 2147483648) (hr_d : -2147483648 ≤ d ∧ d < 2147483648) (hr_h : -2147483648 ≤ h ∧ h < 2147483648) (hfb : ¬(0 ≤ f ∧ f < S 23 7)) : MetG l g yX7_plan cX7_plan 8 (some .int) 2 44 [.ref (g.1 23), .int (iI f), .int (iI lat), .int (iI d), .int (iI h)] S (some (.int (iI 0))) (st S 23 0 1) := by
  refine bodyG (by decide +kernel) (Nat.le_of_ble_eq_true rfl) ?_
  intro p e s m args below meth c ls C0 hret hlk hl hH
  have zx := C0.1
  have zb := C0.2.1
  have hl : lv_has ls 8 [(0, .ref (g.1 23)), (1, .int (iI f)), (2, .int (iI lat)), (3, .int (iI d)), (4, .int (iI h))] := hl
  obtain ⟨H, hHe⟩ : ∃ H : Heap, H = s.heap := ⟨_, rfl⟩
  rw [show (Hp g S s s.heap []) = Hp g S s H [] by rw [hHe]] at hH
  rw [← hHe]
  refine lv_aload_n zx zb dX7_plan_0 rfl (lv_at hl 0 rfl) ?_
  refine lv_iload_n zx zb dX7_plan_1 rfl (lv_at hl 1 rfl) ?_
  refine cvI (rest := []) (As := [.int (iI f)]) (b := g.1 23) C0 hH (c_X7_isFigure l g S f (by omega) (by omega)) kw_X7_80 ky_X7_isFigure ⟨Nat.le_of_ble_eq_true rfl, Nat.le_of_ble_eq_true rfl⟩ ⟨Nat.zero_le _, Nat.zero_le _⟩ 23 rfl rfl rfl hl.1 rfl (Nat.le_of_ble_eq_true rfl) dX7_plan_2 (fun H locs hH => ?_)
  rw [show (if 0 ≤ f ∧ f < S 23 7 then (1 : Int) else 0) = 0 from if_neg hfb]
  refine lv_istore (lv' := [(5, .int (iI 0)), (0, .ref (g.1 23)), (1, .int (iI f)), (2, .int (iI lat)), (3, .int (iI d)), (4, .int (iI h))]) zx zb dX7_plan_5 hl (by decide) rfl (fun ls hl => ?_)
  refine lv_iload_n zx zb dX7_plan_7 rfl (lv_at hl 3 rfl) ?_
  refine lv_iload_n zx zb dX7_plan_8 rfl (lv_at hl 4 rfl) ?_
  refine lv_iload zx zb dX7_plan_9 (lv_at hl 5 rfl) ?_
  refine csI (rest := []) (As := [.int (iI lat), .int (iI d), .int (iI h)]) C0 hH (c_X7_isTime l g S lat d h (by omega) (by omega) (by omega)) kw_X7_128 ky_X7_isTime ⟨Nat.le_of_ble_eq_true rfl, Nat.le_of_ble_eq_true rfl⟩ ⟨Nat.zero_le _, Nat.zero_le _⟩ rfl hl.1 rfl (Nat.le_of_ble_eq_true rfl) dX7_plan_11 (fun H locs hH => ?_)
  refine lv_istore (lv' := [(6, .int (iI (if (-90 ≤ lat ∧ lat ≤ 90) ∧ (0 ≤ d ∧ d < 365) ∧ (0 ≤ h ∧ h < 24) then 1 else 0))), (5, .int (iI 0)), (0, .ref (g.1 23)), (1, .int (iI f)), (2, .int (iI lat)), (3, .int (iI d)), (4, .int (iI h))]) zx zb dX7_plan_14 hl (by decide) rfl (fun ls hl => ?_)
  refine lv_iload zx zb dX7_plan_16 (lv_at hl 1 rfl) ?_
  refine bz_eq (tgt := 60) zx zb dX7_plan_18 (by decide) ⟨by omega, by omega⟩ (fun zq18 => ?_) (fun zq18 => ?_)
  · refine bi_const (n := 0) zx zb dX7_plan_60 ?_
    refine lv_istore (lv' := [(7, .int (iI 0)), (6, .int (iI (if (-90 ≤ lat ∧ lat ≤ 90) ∧ (0 ≤ d ∧ d < 365) ∧ (0 ≤ h ∧ h < 24) then 1 else 0))), (5, .int (iI 0)), (0, .ref (g.1 23)), (1, .int (iI f)), (2, .int (iI lat)), (3, .int (iI d)), (4, .int (iI h))]) zx zb dX7_plan_61 hl (by decide) rfl (fun ls hl => ?_)
    refine lv_aload_n zx zb dX7_plan_63 rfl (lv_at hl 3 rfl) ?_
    refine lv_iload zx zb dX7_plan_64 (lv_at hl 2 rfl) ?_
    refine bz_ne (tgt := 73) zx zb dX7_plan_66 (by decide) ⟨by omega, by omega⟩ (fun zq66 => ?_) (fun zq66 => ?_)
    · exact absurd zq66 (by decide)
    · refine bi_const (n := 1) zx zb dX7_plan_69 ?_
      refine lv_goto (tgt := 92) zx zb dX7_plan_70 (by decide) ?_
      refine cvI (rest := []) (As := [.int (iI 1)]) (b := g.1 23) C0 hH (c_X7_isFine l g S 1 (by omega)) kw_X7_55 ky_X7_isFine ⟨Nat.le_of_ble_eq_true rfl, Nat.le_of_ble_eq_true rfl⟩ ⟨Nat.zero_le _, Nat.zero_le _⟩ 23 rfl rfl rfl hl.1 rfl (Nat.le_of_ble_eq_true rfl) dX7_plan_92 (fun H locs hH => ?_)
      show W p l e _ s m args below meth c H _ _ _ _ (F0 m 95 ls [.int (iI 0)])
      refine bz_ne (tgt := 100) zx zb dX7_plan_95 (by decide) ⟨by omega, by omega⟩ (fun zq95 => ?_) (fun zq95 => ?_)
      · exact absurd zq95 (by decide)
      · refine bi_const (n := 0) zx zb dX7_plan_98 ?_
        exact retI C0 hret hlk hH (by rfl) (rfl) dX7_plan_99
  · exact absurd zq18 (by decide)
set_option maxRecDepth 100000 in
set_option maxHeartbeats 4000000 in
theorem f2_X7_plan (l : Launch) (g : gT) (S : gSt) (f lat d h : Int) (hnf : 0 ≤ S 23 7 ∧ S 23 7 ≤ 8) (hfo : 0 ≤ f ∧ f < S 23 7) (hr_lat : -2147483648 ≤ lat ∧ lat < 2147483648) (hr_d : -2147483648 ≤ d ∧ d < 2147483648) (hr_h : -2147483648 ≤ h ∧ h < 2147483648) (htb : ¬((-90 ≤ lat ∧ lat ≤ 90) ∧ (0 ≤ d ∧ d < 365) ∧ (0 ≤ h ∧ h < 24))) : MetG l g yX7_plan cX7_plan 8 (some .int) 2 44 [.ref (g.1 23), .int (iI f), .int (iI lat), .int (iI d), .int (iI h)] S (some (.int (iI 0))) (st S 23 0 2) := by
  refine bodyG (by decide +kernel) (Nat.le_of_ble_eq_true rfl) ?_
  intro p e s m args below meth c ls C0 hret hlk hl hH
  have zx := C0.1
  have zb := C0.2.1
  have hl : lv_has ls 8 [(0, .ref (g.1 23)), (1, .int (iI f)), (2, .int (iI lat)), (3, .int (iI d)), (4, .int (iI h))] := hl
  obtain ⟨H, hHe⟩ : ∃ H : Heap, H = s.heap := ⟨_, rfl⟩
  rw [show (Hp g S s s.heap []) = Hp g S s H [] by rw [hHe]] at hH
  rw [← hHe]
  refine lv_aload_n zx zb dX7_plan_0 rfl (lv_at hl 0 rfl) ?_
  refine lv_iload_n zx zb dX7_plan_1 rfl (lv_at hl 1 rfl) ?_
  refine cvI (rest := []) (As := [.int (iI f)]) (b := g.1 23) C0 hH (c_X7_isFigure l g S f (by omega) (by omega)) kw_X7_80 ky_X7_isFigure ⟨Nat.le_of_ble_eq_true rfl, Nat.le_of_ble_eq_true rfl⟩ ⟨Nat.zero_le _, Nat.zero_le _⟩ 23 rfl rfl rfl hl.1 rfl (Nat.le_of_ble_eq_true rfl) dX7_plan_2 (fun H locs hH => ?_)
  rw [show (if 0 ≤ f ∧ f < S 23 7 then (1 : Int) else 0) = 1 from if_pos hfo]
  refine lv_istore (lv' := [(5, .int (iI 1)), (0, .ref (g.1 23)), (1, .int (iI f)), (2, .int (iI lat)), (3, .int (iI d)), (4, .int (iI h))]) zx zb dX7_plan_5 hl (by decide) rfl (fun ls hl => ?_)
  refine lv_iload_n zx zb dX7_plan_7 rfl (lv_at hl 3 rfl) ?_
  refine lv_iload_n zx zb dX7_plan_8 rfl (lv_at hl 4 rfl) ?_
  refine lv_iload zx zb dX7_plan_9 (lv_at hl 5 rfl) ?_
  refine csI (rest := []) (As := [.int (iI lat), .int (iI d), .int (iI h)]) C0 hH (c_X7_isTime l g S lat d h (by omega) (by omega) (by omega)) kw_X7_128 ky_X7_isTime ⟨Nat.le_of_ble_eq_true rfl, Nat.le_of_ble_eq_true rfl⟩ ⟨Nat.zero_le _, Nat.zero_le _⟩ rfl hl.1 rfl (Nat.le_of_ble_eq_true rfl) dX7_plan_11 (fun H locs hH => ?_)
  rw [show (if (-90 ≤ lat ∧ lat ≤ 90) ∧ (0 ≤ d ∧ d < 365) ∧ (0 ≤ h ∧ h < 24) then (1 : Int) else 0) = 0 from if_neg htb]
  refine lv_istore (lv' := [(6, .int (iI 0)), (5, .int (iI 1)), (0, .ref (g.1 23)), (1, .int (iI f)), (2, .int (iI lat)), (3, .int (iI d)), (4, .int (iI h))]) zx zb dX7_plan_14 hl (by decide) rfl (fun ls hl => ?_)
  refine lv_iload zx zb dX7_plan_16 (lv_at hl 1 rfl) ?_
  refine bz_eq (tgt := 60) zx zb dX7_plan_18 (by decide) ⟨by omega, by omega⟩ (fun zq18 => ?_) (fun zq18 => ?_)
  · exact absurd zq18 (by decide)
  · refine lv_iload zx zb dX7_plan_21 (lv_at hl 0 rfl) ?_
    refine bz_eq (tgt := 60) zx zb dX7_plan_23 (by decide) ⟨by omega, by omega⟩ (fun zq23 => ?_) (fun zq23 => ?_)
    · refine bi_const (n := 0) zx zb dX7_plan_60 ?_
      refine lv_istore (lv' := [(7, .int (iI 0)), (6, .int (iI 0)), (5, .int (iI 1)), (0, .ref (g.1 23)), (1, .int (iI f)), (2, .int (iI lat)), (3, .int (iI d)), (4, .int (iI h))]) zx zb dX7_plan_61 hl (by decide) rfl (fun ls hl => ?_)
      refine lv_aload_n zx zb dX7_plan_63 rfl (lv_at hl 3 rfl) ?_
      refine lv_iload zx zb dX7_plan_64 (lv_at hl 2 rfl) ?_
      refine bz_ne (tgt := 73) zx zb dX7_plan_66 (by decide) ⟨by omega, by omega⟩ (fun zq66 => ?_) (fun zq66 => ?_)
      · refine lv_iload zx zb dX7_plan_73 (lv_at hl 1 rfl) ?_
        refine bz_ne (tgt := 82) zx zb dX7_plan_75 (by decide) ⟨by omega, by omega⟩ (fun zq75 => ?_) (fun zq75 => ?_)
        · exact absurd zq75 (by decide)
        · refine bi_const (n := 2) zx zb dX7_plan_78 ?_
          refine lv_goto (tgt := 92) zx zb dX7_plan_79 (by decide) ?_
          refine cvI (rest := []) (As := [.int (iI 2)]) (b := g.1 23) C0 hH (c_X7_isFine l g S 2 (by omega)) kw_X7_55 ky_X7_isFine ⟨Nat.le_of_ble_eq_true rfl, Nat.le_of_ble_eq_true rfl⟩ ⟨Nat.zero_le _, Nat.zero_le _⟩ 23 rfl rfl rfl hl.1 rfl (Nat.le_of_ble_eq_true rfl) dX7_plan_92 (fun H locs hH => ?_)
          show W p l e _ s m args below meth c H _ _ _ _ (F0 m 95 ls [.int (iI 0)])
          refine bz_ne (tgt := 100) zx zb dX7_plan_95 (by decide) ⟨by omega, by omega⟩ (fun zq95 => ?_) (fun zq95 => ?_)
          · exact absurd zq95 (by decide)
          · refine bi_const (n := 0) zx zb dX7_plan_98 ?_
            exact retI C0 hret hlk hH (by rfl) (rfl) dX7_plan_99
      · exact absurd zq66 (by decide)
    · exact absurd zq23 (by decide)
set_option maxRecDepth 100000 in
set_option maxHeartbeats 4000000 in
theorem f3_X7_plan (l : Launch) (g : gT) (S : gSt) (f lat d h : Int) (hnf : 0 ≤ S 23 7 ∧ S 23 7 ≤ 8) (hfo : 0 ≤ f ∧ f < S 23 7) (hto : (-90 ≤ lat ∧ lat ≤ 90) ∧ (0 ≤ d ∧ d < 365) ∧ (0 ≤ h ∧ h < 24)) (hN : okN (S 28)) (hE : okE (S 28) (S 26)) (hO : okE (S 28) (S 27)) (hC : okC (S 24) (S 25)) (hV : okV (S 29)) (hsc : 0 ≤ S 23 11 ∧ S 23 11 ≤ 12) (hbad : ¬(upM (S 28) (S 26) (S 27) (S 24) (S 25) f lat (15 * h + d) = true ∧ nmM (vtI (S 29)) (S 23 7) (S 30) f ≠ -1 ∧ S 23 11 < 12)) : MetG l g yX7_plan cX7_plan 8 (some .int) 5 121 [.ref (g.1 23), .int (iI f), .int (iI lat), .int (iI d), .int (iI h)] S (some (.int (iI 0))) (st (gvJ S (upM (S 28) (S 26) (S 27) (S 24) (S 25) f lat (15 * h + d))) 23 0 3) := by
  refine bodyG (by decide +kernel) (Nat.le_of_ble_eq_true rfl) ?_
  intro p e s m args below meth c ls C0 hret hlk hl hH
  have zx := C0.1
  have zb := C0.2.1
  have hl : lv_has ls 8 [(0, .ref (g.1 23)), (1, .int (iI f)), (2, .int (iI lat)), (3, .int (iI d)), (4, .int (iI h))] := hl
  obtain ⟨H, hHe⟩ : ∃ H : Heap, H = s.heap := ⟨_, rfl⟩
  rw [show (Hp g S s s.heap []) = Hp g S s H [] by rw [hHe]] at hH
  rw [← hHe]
  refine lv_aload_n zx zb dX7_plan_0 rfl (lv_at hl 0 rfl) ?_
  refine lv_iload_n zx zb dX7_plan_1 rfl (lv_at hl 1 rfl) ?_
  refine cvI (rest := []) (As := [.int (iI f)]) (b := g.1 23) C0 hH (c_X7_isFigure l g S f (by omega) (by omega)) kw_X7_80 ky_X7_isFigure ⟨Nat.le_of_ble_eq_true rfl, Nat.le_of_ble_eq_true rfl⟩ ⟨Nat.zero_le _, Nat.zero_le _⟩ 23 rfl rfl rfl hl.1 rfl (Nat.le_of_ble_eq_true rfl) dX7_plan_2 (fun H locs hH => ?_)
  rw [show (if 0 ≤ f ∧ f < S 23 7 then (1 : Int) else 0) = 1 from if_pos hfo]
  refine lv_istore (lv' := [(5, .int (iI 1)), (0, .ref (g.1 23)), (1, .int (iI f)), (2, .int (iI lat)), (3, .int (iI d)), (4, .int (iI h))]) zx zb dX7_plan_5 hl (by decide) rfl (fun ls hl => ?_)
  refine lv_iload_n zx zb dX7_plan_7 rfl (lv_at hl 3 rfl) ?_
  refine lv_iload_n zx zb dX7_plan_8 rfl (lv_at hl 4 rfl) ?_
  refine lv_iload zx zb dX7_plan_9 (lv_at hl 5 rfl) ?_
  refine csI (rest := []) (As := [.int (iI lat), .int (iI d), .int (iI h)]) C0 hH (c_X7_isTime l g S lat d h (by omega) (by omega) (by omega)) kw_X7_128 ky_X7_isTime ⟨Nat.le_of_ble_eq_true rfl, Nat.le_of_ble_eq_true rfl⟩ ⟨Nat.zero_le _, Nat.zero_le _⟩ rfl hl.1 rfl (Nat.le_of_ble_eq_true rfl) dX7_plan_11 (fun H locs hH => ?_)
  rw [show (if (-90 ≤ lat ∧ lat ≤ 90) ∧ (0 ≤ d ∧ d < 365) ∧ (0 ≤ h ∧ h < 24) then (1 : Int) else 0) = 1 from if_pos hto]
  refine lv_istore (lv' := [(6, .int (iI 1)), (5, .int (iI 1)), (0, .ref (g.1 23)), (1, .int (iI f)), (2, .int (iI lat)), (3, .int (iI d)), (4, .int (iI h))]) zx zb dX7_plan_14 hl (by decide) rfl (fun ls hl => ?_)
  refine lv_iload zx zb dX7_plan_16 (lv_at hl 1 rfl) ?_
  refine bz_eq (tgt := 60) zx zb dX7_plan_18 (by decide) ⟨by omega, by omega⟩ (fun zq18 => ?_) (fun zq18 => ?_)
  · exact absurd zq18 (by decide)
  · refine lv_iload zx zb dX7_plan_21 (lv_at hl 0 rfl) ?_
    refine bz_eq (tgt := 60) zx zb dX7_plan_23 (by decide) ⟨by omega, by omega⟩ (fun zq23 => ?_) (fun zq23 => ?_)
    · exact absurd zq23 (by decide)
    · refine lv_aload_n zx zb dX7_plan_26 rfl (lv_at hl 2 rfl) ?_
      refine lv_iload_n zx zb dX7_plan_27 rfl (lv_at hl 3 rfl) ?_
      refine lv_iload_n zx zb dX7_plan_28 rfl (lv_at hl 4 rfl) ?_
      refine lv_iload_n zx zb dX7_plan_29 rfl (lv_at hl 5 rfl) ?_
      refine lv_iload zx zb dX7_plan_30 (lv_at hl 6 rfl) ?_
      refine cvI (rest := []) (As := [.int (iI f), .int (iI lat), .int (iI d), .int (iI h)]) (b := g.1 23) C0 hH (c_X7_isUpNow l g S f lat d h (by omega) (by omega) (by omega) (by omega) (hN) (hE) (hO) (hC)) kw_X7_138 ky_X7_isUpNow ⟨Nat.le_of_ble_eq_true rfl, Nat.le_of_ble_eq_true rfl⟩ ⟨Nat.zero_le _, Nat.zero_le _⟩ 23 rfl rfl rfl hl.1 rfl (Nat.le_of_ble_eq_true rfl) dX7_plan_32 (fun H locs hH => ?_)
      have hb35 := brg (upM (S 28) (S 26) (S 27) (S 24) (S 25) f lat (15 * h + d))
      refine bz_eq (tgt := 60) zx zb dX7_plan_35 (by decide) ⟨by omega, by omega⟩ (fun zq35 => ?_) (fun zq35 => ?_)
      · refine bi_const (n := 0) zx zb dX7_plan_60 ?_
        refine lv_istore (lv' := [(7, .int (iI 0)), (6, .int (iI 1)), (5, .int (iI 1)), (0, .ref (g.1 23)), (1, .int (iI f)), (2, .int (iI lat)), (3, .int (iI d)), (4, .int (iI h))]) zx zb dX7_plan_61 hl (by decide) rfl (fun ls hl => ?_)
        refine lv_aload_n zx zb dX7_plan_63 rfl (lv_at hl 3 rfl) ?_
        refine lv_iload zx zb dX7_plan_64 (lv_at hl 2 rfl) ?_
        refine bz_ne (tgt := 73) zx zb dX7_plan_66 (by decide) ⟨by omega, by omega⟩ (fun zq66 => ?_) (fun zq66 => ?_)
        · refine lv_iload zx zb dX7_plan_73 (lv_at hl 1 rfl) ?_
          refine bz_ne (tgt := 82) zx zb dX7_plan_75 (by decide) ⟨by omega, by omega⟩ (fun zq75 => ?_) (fun zq75 => ?_)
          · refine lv_iload zx zb dX7_plan_82 (lv_at hl 0 rfl) ?_
            refine bz_ne (tgt := 91) zx zb dX7_plan_84 (by decide) ⟨by omega, by omega⟩ (fun zq84 => ?_) (fun zq84 => ?_)
            · exact absurd zq84 (by decide)
            · refine bi_const (n := 3) zx zb dX7_plan_87 ?_
              refine lv_goto (tgt := 92) zx zb dX7_plan_88 (by decide) ?_
              refine cvI (rest := []) (As := [.int (iI 3)]) (b := g.1 23) C0 hH (c_X7_isFine l g S 3 (by omega)) kw_X7_55 ky_X7_isFine ⟨Nat.le_of_ble_eq_true rfl, Nat.le_of_ble_eq_true rfl⟩ ⟨Nat.zero_le _, Nat.zero_le _⟩ 23 rfl rfl rfl hl.1 rfl (Nat.le_of_ble_eq_true rfl) dX7_plan_92 (fun H locs hH => ?_)
              show W p l e _ s m args below meth c H _ _ _ _ (F0 m 95 ls [.int (iI 0)])
              refine bz_ne (tgt := 100) zx zb dX7_plan_95 (by decide) ⟨by omega, by omega⟩ (fun zq95 => ?_) (fun zq95 => ?_)
              · exact absurd zq95 (by decide)
              · refine bi_const (n := 0) zx zb dX7_plan_98 ?_
                exact retI C0 hret hlk hH (by rfl) (by first | (rw [b0 zq35, gvJ_0]; done) | (rw [b1 zq35]; rfl)) dX7_plan_99
          · exact absurd zq75 (by decide)
        · exact absurd zq66 (by decide)
      · refine lv_aload_n zx zb dX7_plan_38 rfl (lv_at hl 2 rfl) ?_
        refine lv_iload_n zx zb dX7_plan_39 rfl (lv_at hl 3 rfl) ?_
        refine cvI (rest := []) (As := [.int (iI f)]) (b := g.1 23) C0 hH (c_X7_nameNow l g S f (by omega) (hnf) (hV)) kw_X7_115 ky_X7_nameNow ⟨Nat.le_of_ble_eq_true rfl, Nat.le_of_ble_eq_true rfl⟩ ⟨Nat.zero_le _, Nat.zero_le _⟩ 23 rfl rfl rfl hl.1 rfl (Nat.le_of_ble_eq_true rfl) dX7_plan_40 (fun H locs hH => ?_)
        have hnb := nmM_b (T := vtI (S 29)) hnf.2 (S 30) (j := f) (by omega) (by omega)
        refine bi_const (n := (-1)) zx zb dX7_plan_43 ?_
        refine bq_eq (tgt := 60) zx zb dX7_plan_44 (by decide) ⟨by omega, by omega⟩ ⟨by omega, by omega⟩ (fun zq44 => ?_) (fun zq44 => ?_)
        · refine bi_const (n := 0) zx zb dX7_plan_60 ?_
          refine lv_istore (lv' := [(7, .int (iI 0)), (6, .int (iI 1)), (5, .int (iI 1)), (0, .ref (g.1 23)), (1, .int (iI f)), (2, .int (iI lat)), (3, .int (iI d)), (4, .int (iI h))]) zx zb dX7_plan_61 hl (by decide) rfl (fun ls hl => ?_)
          refine lv_aload_n zx zb dX7_plan_63 rfl (lv_at hl 3 rfl) ?_
          refine lv_iload zx zb dX7_plan_64 (lv_at hl 2 rfl) ?_
          refine bz_ne (tgt := 73) zx zb dX7_plan_66 (by decide) ⟨by omega, by omega⟩ (fun zq66 => ?_) (fun zq66 => ?_)
          · refine lv_iload zx zb dX7_plan_73 (lv_at hl 1 rfl) ?_
            refine bz_ne (tgt := 82) zx zb dX7_plan_75 (by decide) ⟨by omega, by omega⟩ (fun zq75 => ?_) (fun zq75 => ?_)
            · refine lv_iload zx zb dX7_plan_82 (lv_at hl 0 rfl) ?_
              refine bz_ne (tgt := 91) zx zb dX7_plan_84 (by decide) ⟨by omega, by omega⟩ (fun zq84 => ?_) (fun zq84 => ?_)
              · exact absurd zq84 (by decide)
              · refine bi_const (n := 3) zx zb dX7_plan_87 ?_
                refine lv_goto (tgt := 92) zx zb dX7_plan_88 (by decide) ?_
                refine cvI (rest := []) (As := [.int (iI 3)]) (b := g.1 23) C0 hH (c_X7_isFine l g (gvM S) 3 (by omega)) kw_X7_55 ky_X7_isFine ⟨Nat.le_of_ble_eq_true rfl, Nat.le_of_ble_eq_true rfl⟩ ⟨Nat.zero_le _, Nat.zero_le _⟩ 23 rfl rfl rfl hl.1 rfl (Nat.le_of_ble_eq_true rfl) dX7_plan_92 (fun H locs hH => ?_)
                show W p l e _ s m args below meth c H _ _ _ _ (F0 m 95 ls [.int (iI 0)])
                refine bz_ne (tgt := 100) zx zb dX7_plan_95 (by decide) ⟨by omega, by omega⟩ (fun zq95 => ?_) (fun zq95 => ?_)
                · exact absurd zq95 (by decide)
                · refine bi_const (n := 0) zx zb dX7_plan_98 ?_
                  exact retI C0 hret hlk hH (by rfl) (by first | (rw [b0 zq35, gvJ_0]; done) | (rw [b1 zq35]; rfl)) dX7_plan_99
            · exact absurd zq75 (by decide)
          · exact absurd zq66 (by decide)
        · refine lv_aload_n zx zb dX7_plan_47 rfl (lv_at hl 2 rfl) ?_
          refine gf_X7_144 C0 hH dX7_plan_48 ?_
          show W p l e _ s m args below meth c H _ _ _ _ (F0 m 51 ls [.int (iI (S 23 11))])
          refine bi_bip (n := 12) zx zb dX7_plan_51 (by decide) ?_
          refine bq_ge (tgt := 60) zx zb dX7_plan_53 (by decide) ⟨by omega, by omega⟩ ⟨by omega, by omega⟩ (fun zq53 => ?_) (fun zq53 => ?_)
          · refine bi_const (n := 0) zx zb dX7_plan_60 ?_
            refine lv_istore (lv' := [(7, .int (iI 0)), (6, .int (iI 1)), (5, .int (iI 1)), (0, .ref (g.1 23)), (1, .int (iI f)), (2, .int (iI lat)), (3, .int (iI d)), (4, .int (iI h))]) zx zb dX7_plan_61 hl (by decide) rfl (fun ls hl => ?_)
            refine lv_aload_n zx zb dX7_plan_63 rfl (lv_at hl 3 rfl) ?_
            refine lv_iload zx zb dX7_plan_64 (lv_at hl 2 rfl) ?_
            refine bz_ne (tgt := 73) zx zb dX7_plan_66 (by decide) ⟨by omega, by omega⟩ (fun zq66 => ?_) (fun zq66 => ?_)
            · refine lv_iload zx zb dX7_plan_73 (lv_at hl 1 rfl) ?_
              refine bz_ne (tgt := 82) zx zb dX7_plan_75 (by decide) ⟨by omega, by omega⟩ (fun zq75 => ?_) (fun zq75 => ?_)
              · refine lv_iload zx zb dX7_plan_82 (lv_at hl 0 rfl) ?_
                refine bz_ne (tgt := 91) zx zb dX7_plan_84 (by decide) ⟨by omega, by omega⟩ (fun zq84 => ?_) (fun zq84 => ?_)
                · exact absurd zq84 (by decide)
                · refine bi_const (n := 3) zx zb dX7_plan_87 ?_
                  refine lv_goto (tgt := 92) zx zb dX7_plan_88 (by decide) ?_
                  refine cvI (rest := []) (As := [.int (iI 3)]) (b := g.1 23) C0 hH (c_X7_isFine l g (gvM S) 3 (by omega)) kw_X7_55 ky_X7_isFine ⟨Nat.le_of_ble_eq_true rfl, Nat.le_of_ble_eq_true rfl⟩ ⟨Nat.zero_le _, Nat.zero_le _⟩ 23 rfl rfl rfl hl.1 rfl (Nat.le_of_ble_eq_true rfl) dX7_plan_92 (fun H locs hH => ?_)
                  show W p l e _ s m args below meth c H _ _ _ _ (F0 m 95 ls [.int (iI 0)])
                  refine bz_ne (tgt := 100) zx zb dX7_plan_95 (by decide) ⟨by omega, by omega⟩ (fun zq95 => ?_) (fun zq95 => ?_)
                  · exact absurd zq95 (by decide)
                  · refine bi_const (n := 0) zx zb dX7_plan_98 ?_
                    exact retI C0 hret hlk hH (by rfl) (by first | (rw [b0 zq35, gvJ_0]; done) | (rw [b1 zq35]; rfl)) dX7_plan_99
              · exact absurd zq75 (by decide)
            · exact absurd zq66 (by decide)
          · exact absurd ⟨b1 zq35, zq44, zq53⟩ hbad
set_option maxRecDepth 100000 in
set_option maxHeartbeats 4000000 in
theorem c_X7_isWrong (l : Launch) (g : gT) (S : gSt) (i : Int) (hsc : 0 ≤ S 23 11 ∧ S 23 11 ≤ 12) (hio : 0 ≤ i ∧ i ≤ S 23 11 - 1) (hN : okN (S 28)) (hE : okE (S 28) (S 26)) (hO : okE (S 28) (S 27)) (hC : okC (S 24) (S 25)) (hV : okV (S 29)) (hnf : 0 ≤ S 23 7 ∧ S 23 7 ≤ 8) (hsh : okSh (S 31)) : MetG l g yX7_isWrong cX7_isWrong 2 (some .boolean) 6 143 [.ref (g.1 23), .int (iI i)] S (some (.int (iI (if swM S i = true then 1 else 0)))) (gvJ (st S 23 0 0) (suM S i)) := by
  refine bodyG (by decide +kernel) (Nat.le_of_ble_eq_true rfl) ?_
  intro p e s m args below meth c ls C0 hret hlk hl hH
  have zx := C0.1
  have zb := C0.2.1
  have hl : lv_has ls 2 [(0, .ref (g.1 23)), (1, .int (iI i))] := hl
  obtain ⟨H, hHe⟩ : ∃ H : Heap, H = s.heap := ⟨_, rfl⟩
  rw [show (Hp g S s s.heap []) = Hp g S s H [] by rw [hHe]] at hH
  rw [← hHe]
  refine lv_aload_n zx zb dX7_isWrong_0 rfl (lv_at hl 0 rfl) ?_
  refine lv_iload_n zx zb dX7_isWrong_1 rfl (lv_at hl 1 rfl) ?_
  refine bi_const (n := 0) zx zb dX7_isWrong_2 ?_
  refine lv_aload_n zx zb dX7_isWrong_3 rfl (lv_at hl 0 rfl) ?_
  refine gf_X7_144 C0 hH dX7_isWrong_4 ?_
  refine bi_const (n := 1) zx zb dX7_isWrong_7 ?_
  refine bi_sub zx zb dX7_isWrong_8 ?_
  refine csI (rest := [.ref (g.1 23)]) (As := [.int (iI i), .int (iI 0), .int (iI ((S 23 11) - 1))]) C0 hH (c_X7_isIn l g S i 0 ((S 23 11) - 1) (by omega) (by omega) (by omega)) kw_X7_44 ky_X7_isIn ⟨Nat.le_of_ble_eq_true rfl, Nat.le_of_ble_eq_true rfl⟩ ⟨Nat.zero_le _, Nat.zero_le _⟩ rfl hl.1 rfl (Nat.le_of_ble_eq_true rfl) dX7_isWrong_9 (fun H locs hH => ?_)
  rw [show (if 0 ≤ i ∧ i ≤ S 23 11 - 1 then (1 : Int) else 0) = 1 from if_pos hio]
  refine bz_eq (tgt := 19) zx zb dX7_isWrong_12 (by decide) ⟨by omega, by omega⟩ (fun zq12 => ?_) (fun zq12 => ?_)
  · exact absurd zq12 (by decide)
  · refine bi_const (n := 0) zx zb dX7_isWrong_15 ?_
    refine lv_goto (tgt := 20) zx zb dX7_isWrong_16 (by decide) ?_
    refine cvI (rest := []) (As := [.int (iI 0)]) (b := g.1 23) C0 hH (c_X7_isFine l g S 0 (by omega)) kw_X7_55 ky_X7_isFine ⟨Nat.le_of_ble_eq_true rfl, Nat.le_of_ble_eq_true rfl⟩ ⟨Nat.zero_le _, Nat.zero_le _⟩ 23 rfl rfl rfl hl.1 rfl (Nat.le_of_ble_eq_true rfl) dX7_isWrong_20 (fun H locs hH => ?_)
    show W p l e _ s m args below meth c H _ _ _ _ (F0 m 23 ls [.int (iI 1)])
    refine bz_eq (tgt := 38) zx zb dX7_isWrong_23 (by decide) ⟨by omega, by omega⟩ (fun zq23 => ?_) (fun zq23 => ?_)
    · exact absurd zq23 (by decide)
    · refine lv_aload_n zx zb dX7_isWrong_26 rfl (lv_at hl 0 rfl) ?_
      refine lv_iload_n zx zb dX7_isWrong_27 rfl (lv_at hl 1 rfl) ?_
      refine cvI (rest := []) (As := [.int (iI i)]) (b := g.1 23) C0 hH (c_X7_isWrongNow l g (st S 23 0 0) i (by omega) (hN) (hE) (hO) (hC) (hV) (hnf) (hsh)) kw_X7_147 ky_X7_isWrongNow ⟨Nat.le_of_ble_eq_true rfl, Nat.le_of_ble_eq_true rfl⟩ ⟨Nat.zero_le _, Nat.zero_le _⟩ 23 rfl rfl rfl hl.1 rfl (Nat.le_of_ble_eq_true rfl) dX7_isWrong_28 (fun H locs hH => ?_)
      have hb31 := brg (swM S i)
      refine bz_eq (tgt := 38) zx zb dX7_isWrong_31 (by decide) ⟨by omega, by omega⟩ (fun zq31 => ?_) (fun zq31 => ?_)
      · refine bi_const (n := 0) zx zb dX7_isWrong_38 ?_
        exact retZ C0 hret hlk hH (by first | (rw [show swM S i = true from b1 zq31]; rfl) | (rw [show swM S i = false from b0 zq31]; rfl)) (by omega) (rfl) dX7_isWrong_39
      · refine bi_const (n := 1) zx zb dX7_isWrong_34 ?_
        refine lv_goto (tgt := 39) zx zb dX7_isWrong_35 (by decide) ?_
        exact retZ C0 hret hlk hH (by first | (rw [show swM S i = true from b1 zq31]; rfl) | (rw [show swM S i = false from b0 zq31]; rfl)) (by omega) (rfl) dX7_isWrong_39
set_option maxRecDepth 100000 in
set_option maxHeartbeats 4000000 in
theorem f1_X7_isWrong (l : Launch) (g : gT) (S : gSt) (i : Int) (hsc : 0 ≤ S 23 11 ∧ S 23 11 ≤ 12) (hr_i : -2147483648 ≤ i ∧ i < 2147483648) (hbad : ¬(0 ≤ i ∧ i ≤ S 23 11 - 1)) : MetG l g yX7_isWrong cX7_isWrong 2 (some .boolean) 1 22 [.ref (g.1 23), .int (iI i)] S (some (.int (iI 0))) (st S 23 0 1) := by
  refine bodyG (by decide +kernel) (Nat.le_of_ble_eq_true rfl) ?_
  intro p e s m args below meth c ls C0 hret hlk hl hH
  have zx := C0.1
  have zb := C0.2.1
  have hl : lv_has ls 2 [(0, .ref (g.1 23)), (1, .int (iI i))] := hl
  obtain ⟨H, hHe⟩ : ∃ H : Heap, H = s.heap := ⟨_, rfl⟩
  rw [show (Hp g S s s.heap []) = Hp g S s H [] by rw [hHe]] at hH
  rw [← hHe]
  refine lv_aload_n zx zb dX7_isWrong_0 rfl (lv_at hl 0 rfl) ?_
  refine lv_iload_n zx zb dX7_isWrong_1 rfl (lv_at hl 1 rfl) ?_
  refine bi_const (n := 0) zx zb dX7_isWrong_2 ?_
  refine lv_aload_n zx zb dX7_isWrong_3 rfl (lv_at hl 0 rfl) ?_
  refine gf_X7_144 C0 hH dX7_isWrong_4 ?_
  refine bi_const (n := 1) zx zb dX7_isWrong_7 ?_
  refine bi_sub zx zb dX7_isWrong_8 ?_
  refine csI (rest := [.ref (g.1 23)]) (As := [.int (iI i), .int (iI 0), .int (iI ((S 23 11) - 1))]) C0 hH (c_X7_isIn l g S i 0 ((S 23 11) - 1) (by omega) (by omega) (by omega)) kw_X7_44 ky_X7_isIn ⟨Nat.le_of_ble_eq_true rfl, Nat.le_of_ble_eq_true rfl⟩ ⟨Nat.zero_le _, Nat.zero_le _⟩ rfl hl.1 rfl (Nat.le_of_ble_eq_true rfl) dX7_isWrong_9 (fun H locs hH => ?_)
  rw [show (if 0 ≤ i ∧ i ≤ S 23 11 - 1 then (1 : Int) else 0) = 0 from if_neg hbad]
  refine bz_eq (tgt := 19) zx zb dX7_isWrong_12 (by decide) ⟨by omega, by omega⟩ (fun zq12 => ?_) (fun zq12 => ?_)
  · refine bi_const (n := 1) zx zb dX7_isWrong_19 ?_
    refine cvI (rest := []) (As := [.int (iI 1)]) (b := g.1 23) C0 hH (c_X7_isFine l g S 1 (by omega)) kw_X7_55 ky_X7_isFine ⟨Nat.le_of_ble_eq_true rfl, Nat.le_of_ble_eq_true rfl⟩ ⟨Nat.zero_le _, Nat.zero_le _⟩ 23 rfl rfl rfl hl.1 rfl (Nat.le_of_ble_eq_true rfl) dX7_isWrong_20 (fun H locs hH => ?_)
    show W p l e _ s m args below meth c H _ _ _ _ (F0 m 23 ls [.int (iI 0)])
    refine bz_eq (tgt := 38) zx zb dX7_isWrong_23 (by decide) ⟨by omega, by omega⟩ (fun zq23 => ?_) (fun zq23 => ?_)
    · refine bi_const (n := 0) zx zb dX7_isWrong_38 ?_
      exact retZ C0 hret hlk hH (by rfl) (by omega) (rfl) dX7_isWrong_39
    · exact absurd zq23 (by decide)
  · exact absurd zq12 (by decide)
set_option maxRecDepth 100000 in
set_option maxHeartbeats 4000000 in
theorem c_X7_wrong (l : Launch) (g : gT) (S : gSt) (hN : okN (S 28)) (hE : okE (S 28) (S 26)) (hO : okE (S 28) (S 27)) (hC : okC (S 24) (S 25)) (hV : okV (S 29)) (hnf : 0 ≤ S 23 7 ∧ S 23 7 ≤ 8) (hsh : okSh (S 31)) (hsc : 0 ≤ S 23 11 ∧ S 23 11 ≤ 12) : MetG l g yX7_wrong cX7_wrong 1 (some .int) 7 165 [.ref (g.1 23)] S (some (.int (iI (wrM S)))) (gvJ (st S 23 0 0) (exF (suM S) (S 23 11).toNat 0)) := by
  refine bodyG (by decide +kernel) (Nat.le_of_ble_eq_true rfl) ?_
  intro p e s m args below meth c ls C0 hret hlk hl hH
  have zx := C0.1
  have zb := C0.2.1
  have hl : lv_has ls 1 [(0, .ref (g.1 23))] := hl
  obtain ⟨H, hHe⟩ : ∃ H : Heap, H = s.heap := ⟨_, rfl⟩
  rw [show (Hp g S s s.heap []) = Hp g S s H [] by rw [hHe]] at hH
  rw [← hHe]
  refine lv_aload_n zx zb dX7_wrong_0 rfl (lv_at hl 0 rfl) ?_
  refine bi_const (n := 0) zx zb dX7_wrong_1 ?_
  refine pf_X7_37 C0 hH dX7_wrong_2 (fun H locs hH => ?_)
  refine lv_aload_n zx zb dX7_wrong_5 rfl (lv_at hl 0 rfl) ?_
  refine cvI (rest := []) (As := []) (b := g.1 23) C0 hH (c_X7_wrongNow l g (st S 23 0 0) (hN) (hE) (hO) (hC) (hV) (hnf) (hsh) (hsc)) kw_X7_69 ky_X7_wrongNow ⟨Nat.le_of_ble_eq_true rfl, Nat.le_of_ble_eq_true rfl⟩ ⟨Nat.zero_le _, Nat.zero_le _⟩ 23 rfl rfl rfl hl.1 rfl (Nat.le_of_ble_eq_true rfl) dX7_wrong_6 (fun H locs hH => ?_)
  exact retI C0 hret hlk hH (by rfl) (rfl) dX7_wrong_9
