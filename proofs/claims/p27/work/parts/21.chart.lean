set_option maxRecDepth 100000 in
set_option maxHeartbeats 4000000 in
theorem c_X2_move (l : Launch) (g : gT) (S : gSt) (z a u : Int) (hz : 0 ≤ z ∧ z < 24) : MetG l g yX2_move cX2_move 4 none 0 0 [.ref (g.1 1), .int (iI z), .int (iI a), .int (iI u)] S none (mvS S z a u) := by
  refine bodyG (by decide +kernel) (Nat.le_of_ble_eq_true rfl) ?_
  intro p e s m args below meth c ls C0 hret hlk hl hH
  have zx := C0.1
  have zb := C0.2.1
  have hl : lv_has ls 4 [(0, .ref (g.1 1)), (1, .int (iI z)), (2, .int (iI a)), (3, .int (iI u))] := hl
  obtain ⟨H, hHe⟩ : ∃ H : Heap, H = s.heap := ⟨_, rfl⟩
  rw [show (Hp g S s s.heap []) = Hp g S s H [] by rw [hHe]] at hH
  rw [← hHe]
  refine lv_aload_n zx zb dX2_move_0 rfl (lv_at hl 0 rfl) ?_
  refine gf_X2_9 C0 hH dX2_move_1 ?_
  refine lv_iload_n zx zb dX2_move_4 rfl (lv_at hl 1 rfl) ?_
  refine lv_iload_n zx zb dX2_move_5 rfl (lv_at hl 2 rfl) ?_
  refine as_2 C0 hH (by omega) (by omega) dX2_move_6 (fun H locs hH => ?_)
  refine lv_aload_n zx zb dX2_move_7 rfl (lv_at hl 0 rfl) ?_
  refine gf_X2_15 C0 hH dX2_move_8 ?_
  refine lv_iload_n zx zb dX2_move_11 rfl (lv_at hl 1 rfl) ?_
  refine lv_iload_n zx zb dX2_move_12 rfl (lv_at hl 3 rfl) ?_
  refine as_3 C0 hH (by omega) (by omega) dX2_move_13 (fun H locs hH => ?_)
  exact retV C0 hret hlk hH (rfl) dX2_move_14
set_option maxRecDepth 100000 in
set_option maxHeartbeats 4000000 in
theorem c_X2_append (l : Launch) (g : gT) (S : gSt) (a u : Int) (hn : 0 ≤ S 1 0 ∧ S 1 0 < 24) : MetG l g yX2_append cX2_append 4 (some .int) 1 23 [.ref (g.1 1), .int (iI a), .int (iI u)] S (some (.int (iI (S 1 0)))) (adS S a u) := by
  refine bodyG (by decide +kernel) (Nat.le_of_ble_eq_true rfl) ?_
  intro p e s m args below meth c ls C0 hret hlk hl hH
  have zx := C0.1
  have zb := C0.2.1
  have hl : lv_has ls 4 [(0, .ref (g.1 1)), (1, .int (iI a)), (2, .int (iI u))] := hl
  obtain ⟨H, hHe⟩ : ∃ H : Heap, H = s.heap := ⟨_, rfl⟩
  rw [show (Hp g S s s.heap []) = Hp g S s H [] by rw [hHe]] at hH
  rw [← hHe]
  refine lv_aload_n zx zb dX2_append_0 rfl (lv_at hl 0 rfl) ?_
  refine gf_X2_18 C0 hH dX2_append_1 ?_
  refine lv_istore_n (lv' := [(3, .int (iI (S 1 0))), (0, .ref (g.1 1)), (1, .int (iI a)), (2, .int (iI u))]) zx zb dX2_append_4 rfl hl (by decide) rfl (fun ls hl => ?_)
  refine lv_iload_n zx zb dX2_append_5 rfl (lv_at hl 0 rfl) ?_
  refine bi_bip (n := 24) zx zb dX2_append_6 (by decide) ?_
  refine bq_ge (tgt := 28) zx zb dX2_append_8 (by decide) ⟨by omega, by omega⟩ ⟨by omega, by omega⟩ (fun zq8 => ?_) (fun zq8 => ?_)
  · exact absurd zq8 (by omega)
  · refine lv_aload_n zx zb dX2_append_11 rfl (lv_at hl 1 rfl) ?_
    refine lv_iload_n zx zb dX2_append_12 rfl (lv_at hl 0 rfl) ?_
    refine lv_iload_n zx zb dX2_append_13 rfl (lv_at hl 2 rfl) ?_
    refine lv_iload_n zx zb dX2_append_14 rfl (lv_at hl 3 rfl) ?_
    refine cvN (rest := []) (As := [.int (iI (S 1 0)), .int (iI a), .int (iI u)]) (b := g.1 1) C0 hH (c_X2_move l g S (S 1 0) a u (by omega)) kw_X2_22 ky_X2_move ⟨Nat.le_of_ble_eq_true rfl, Nat.le_of_ble_eq_true rfl⟩ ⟨Nat.zero_le _, Nat.zero_le _⟩ 1 rfl rfl rfl hl.1 rfl (Nat.le_of_ble_eq_true rfl) dX2_append_15 (fun H locs hH => ?_)
    refine lv_aload_n zx zb dX2_append_18 rfl (lv_at hl 1 rfl) ?_
    refine lv_dup zx zb dX2_append_19 rfl ?_
    refine gf_X2_18 C0 hH dX2_append_20 ?_
    show W p l e _ s m args below meth c H _ _ _ _ (F0 m 23 ls [.int (iI (S 1 0)), .ref (g.1 1)])
    refine bi_const (n := 1) zx zb dX2_append_23 ?_
    refine bi_add zx zb dX2_append_24 ?_
    refine pf_X2_18 C0 hH dX2_append_25 (fun H locs hH => ?_)
    refine lv_iload_n zx zb dX2_append_28 rfl (lv_at hl 0 rfl) ?_
    exact retI C0 hret hlk hH (by rfl) (rfl) dX2_append_29
set_option maxRecDepth 100000 in
set_option maxHeartbeats 4000000 in
theorem c_X2_spansOverlap (l : Launch) (g : gT) (S : gSt) (a b y t : Int) (ha : -400 ≤ a ∧ a < 400) (hb : -400 ≤ b ∧ b < 400) (hc : -400 ≤ y ∧ y < 400) (hd : -400 ≤ t ∧ t < 400) : MetG l g yX2_spansOverlap cX2_spansOverlap 4 (some .boolean) 1 21 [.int (iI a), .int (iI b), .int (iI y), .int (iI t)] S (some (.int (iI (if spB a b y t = true then 1 else 0)))) S := by
  refine bodyG (by decide +kernel) (Nat.le_of_ble_eq_true rfl) ?_
  intro p e s m args below meth c ls C0 hret hlk hl hH
  have zx := C0.1
  have zb := C0.2.1
  have hl : lv_has ls 4 [(0, .int (iI a)), (1, .int (iI b)), (2, .int (iI y)), (3, .int (iI t))] := hl
  obtain ⟨H, hHe⟩ : ∃ H : Heap, H = s.heap := ⟨_, rfl⟩
  rw [show (Hp g S s s.heap []) = Hp g S s H [] by rw [hHe]] at hH
  rw [← hHe]
  refine lv_iload_n zx zb dX2_spansOverlap_0 rfl (lv_at hl 0 rfl) ?_
  refine lv_iload_n zx zb dX2_spansOverlap_1 rfl (lv_at hl 1 rfl) ?_
  refine csI (rest := []) (As := [.int (iI a), .int (iI b)]) C0 hH (c_J9_max_7cf53 l g S a b (by omega) (by omega)) kw_X2_48 ky_J9_max_7cf53 ⟨Nat.le_of_ble_eq_true rfl, Nat.le_of_ble_eq_true rfl⟩ ⟨Nat.zero_le _, Nat.zero_le _⟩ rfl hl.1 rfl (Nat.le_of_ble_eq_true rfl) dX2_spansOverlap_2 (fun H locs hH => ?_)
  refine lv_iload_n zx zb dX2_spansOverlap_5 rfl (lv_at hl 2 rfl) ?_
  refine lv_iload_n zx zb dX2_spansOverlap_6 rfl (lv_at hl 3 rfl) ?_
  refine csI (rest := [.int (iI (max a b))]) (As := [.int (iI y), .int (iI t)]) C0 hH (c_J9_min_7cf53 l g S y t (by omega) (by omega)) kw_X2_51 ky_J9_min_7cf53 ⟨Nat.le_of_ble_eq_true rfl, Nat.le_of_ble_eq_true rfl⟩ ⟨Nat.zero_le _, Nat.zero_le _⟩ rfl hl.1 rfl (Nat.le_of_ble_eq_true rfl) dX2_spansOverlap_7 (fun H locs hH => ?_)
  refine bq_lt (tgt := 30) zx zb dX2_spansOverlap_10 (by decide) ⟨by omega, by omega⟩ ⟨by omega, by omega⟩ (fun zq10 => ?_) (fun zq10 => ?_)
  · refine bi_const (n := 0) zx zb dX2_spansOverlap_30 ?_
    exact retZ C0 hret hlk hH (by unfold spB; first | (rw [if_pos (by simp; omega)]; done) | (rw [if_neg (by simp; omega)]; done)) (by omega) (rfl) dX2_spansOverlap_31
  · refine lv_iload_n zx zb dX2_spansOverlap_13 rfl (lv_at hl 2 rfl) ?_
    refine lv_iload_n zx zb dX2_spansOverlap_14 rfl (lv_at hl 3 rfl) ?_
    refine csI (rest := []) (As := [.int (iI y), .int (iI t)]) C0 hH (c_J9_max_7cf53 l g S y t (by omega) (by omega)) kw_X2_48 ky_J9_max_7cf53 ⟨Nat.le_of_ble_eq_true rfl, Nat.le_of_ble_eq_true rfl⟩ ⟨Nat.zero_le _, Nat.zero_le _⟩ rfl hl.1 rfl (Nat.le_of_ble_eq_true rfl) dX2_spansOverlap_15 (fun H locs hH => ?_)
    refine lv_iload_n zx zb dX2_spansOverlap_18 rfl (lv_at hl 0 rfl) ?_
    refine lv_iload_n zx zb dX2_spansOverlap_19 rfl (lv_at hl 1 rfl) ?_
    refine csI (rest := [.int (iI (max y t))]) (As := [.int (iI a), .int (iI b)]) C0 hH (c_J9_min_7cf53 l g S a b (by omega) (by omega)) kw_X2_51 ky_J9_min_7cf53 ⟨Nat.le_of_ble_eq_true rfl, Nat.le_of_ble_eq_true rfl⟩ ⟨Nat.zero_le _, Nat.zero_le _⟩ rfl hl.1 rfl (Nat.le_of_ble_eq_true rfl) dX2_spansOverlap_20 (fun H locs hH => ?_)
    refine bq_lt (tgt := 30) zx zb dX2_spansOverlap_23 (by decide) ⟨by omega, by omega⟩ ⟨by omega, by omega⟩ (fun zq23 => ?_) (fun zq23 => ?_)
    · refine bi_const (n := 0) zx zb dX2_spansOverlap_30 ?_
      exact retZ C0 hret hlk hH (by unfold spB; first | (rw [if_pos (by simp; omega)]; done) | (rw [if_neg (by simp; omega)]; done)) (by omega) (rfl) dX2_spansOverlap_31
    · refine bi_const (n := 1) zx zb dX2_spansOverlap_26 ?_
      refine lv_goto (tgt := 31) zx zb dX2_spansOverlap_27 (by decide) ?_
      exact retZ C0 hret hlk hH (by unfold spB; first | (rw [if_pos (by simp; omega)]; done) | (rw [if_neg (by simp; omega)]; done)) (by omega) (rfl) dX2_spansOverlap_31
set_option maxRecDepth 100000 in
set_option maxHeartbeats 4000000 in
theorem c_X2_sideOf (l : Launch) (g : gT) (S : gSt) (a b y : Int) (ha : 0 ≤ a ∧ a < 24) (hb : 0 ≤ b ∧ b < 24) (hc : 0 ≤ y ∧ y < 24) (hC : okC (S 2) (S 3)) : MetG l g yX2_sideOf cX2_sideOf 4 (some .int) 1 21 [.ref (g.1 1), .int (iI a), .int (iI b), .int (iI y)] S (some (.int (iI (sdI (S 2) (S 3) a b y)))) S := by
  refine bodyG (by decide +kernel) (Nat.le_of_ble_eq_true rfl) ?_
  intro p e s m args below meth c ls C0 hret hlk hl hH
  have zx := C0.1
  have zb := C0.2.1
  have hl : lv_has ls 4 [(0, .ref (g.1 1)), (1, .int (iI a)), (2, .int (iI b)), (3, .int (iI y))] := hl
  obtain ⟨H, hHe⟩ : ∃ H : Heap, H = s.heap := ⟨_, rfl⟩
  rw [show (Hp g S s s.heap []) = Hp g S s H [] by rw [hHe]] at hH
  rw [← hHe]
  have ca := hC a ha.1 ha.2
  have cb := hC b hb.1 hb.2
  have cc1 := hC y hc.1 hc.2
  have m1 := mul_b (a := S 2 b - S 2 a) (b := S 3 y - S 3 a) (A := 360) (B := 180) (by omega) (by omega) (by decide) (by decide)
  have m2 := mul_b (a := S 3 b - S 3 a) (b := S 2 y - S 2 a) (A := 180) (B := 360) (by omega) (by omega) (by decide) (by decide)
  refine lv_aload_n zx zb dX2_sideOf_0 rfl (lv_at hl 0 rfl) ?_
  refine gf_X2_9 C0 hH dX2_sideOf_1 ?_
  refine lv_iload_n zx zb dX2_sideOf_4 rfl (lv_at hl 2 rfl) ?_
  refine al_2 C0 hH (by omega) (by omega) dX2_sideOf_5 ?_
  refine lv_aload_n zx zb dX2_sideOf_6 rfl (lv_at hl 0 rfl) ?_
  refine gf_X2_9 C0 hH dX2_sideOf_7 ?_
  refine lv_iload_n zx zb dX2_sideOf_10 rfl (lv_at hl 1 rfl) ?_
  refine al_2 C0 hH (by omega) (by omega) dX2_sideOf_11 ?_
  refine bi_sub zx zb dX2_sideOf_12 ?_
  refine lv_aload_n zx zb dX2_sideOf_13 rfl (lv_at hl 0 rfl) ?_
  refine gf_X2_15 C0 hH dX2_sideOf_14 ?_
  refine lv_iload_n zx zb dX2_sideOf_17 rfl (lv_at hl 3 rfl) ?_
  refine al_3 C0 hH (by omega) (by omega) dX2_sideOf_18 ?_
  refine lv_aload_n zx zb dX2_sideOf_19 rfl (lv_at hl 0 rfl) ?_
  refine gf_X2_15 C0 hH dX2_sideOf_20 ?_
  refine lv_iload_n zx zb dX2_sideOf_23 rfl (lv_at hl 1 rfl) ?_
  refine al_3 C0 hH (by omega) (by omega) dX2_sideOf_24 ?_
  refine bi_sub zx zb dX2_sideOf_25 ?_
  refine bi_mul zx zb dX2_sideOf_26 ?_
  refine lv_aload_n zx zb dX2_sideOf_27 rfl (lv_at hl 0 rfl) ?_
  refine gf_X2_15 C0 hH dX2_sideOf_28 ?_
  refine lv_iload_n zx zb dX2_sideOf_31 rfl (lv_at hl 2 rfl) ?_
  refine al_3 C0 hH (by omega) (by omega) dX2_sideOf_32 ?_
  refine lv_aload_n zx zb dX2_sideOf_33 rfl (lv_at hl 0 rfl) ?_
  refine gf_X2_15 C0 hH dX2_sideOf_34 ?_
  refine lv_iload_n zx zb dX2_sideOf_37 rfl (lv_at hl 1 rfl) ?_
  refine al_3 C0 hH (by omega) (by omega) dX2_sideOf_38 ?_
  refine bi_sub zx zb dX2_sideOf_39 ?_
  refine lv_aload_n zx zb dX2_sideOf_40 rfl (lv_at hl 0 rfl) ?_
  refine gf_X2_9 C0 hH dX2_sideOf_41 ?_
  refine lv_iload_n zx zb dX2_sideOf_44 rfl (lv_at hl 3 rfl) ?_
  refine al_2 C0 hH (by omega) (by omega) dX2_sideOf_45 ?_
  refine lv_aload_n zx zb dX2_sideOf_46 rfl (lv_at hl 0 rfl) ?_
  refine gf_X2_9 C0 hH dX2_sideOf_47 ?_
  refine lv_iload_n zx zb dX2_sideOf_50 rfl (lv_at hl 1 rfl) ?_
  refine al_2 C0 hH (by omega) (by omega) dX2_sideOf_51 ?_
  refine bi_sub zx zb dX2_sideOf_52 ?_
  refine bi_mul zx zb dX2_sideOf_53 ?_
  refine csI (rest := []) (As := [.int (iI (((S 2 b) - (S 2 a)) * ((S 3 y) - (S 3 a)))), .int (iI (((S 3 b) - (S 3 a)) * ((S 2 y) - (S 2 a))))]) C0 hH (c_J6_compare_7cf53 l g S (((S 2 b) - (S 2 a)) * ((S 3 y) - (S 3 a))) (((S 3 b) - (S 3 a)) * ((S 2 y) - (S 2 a))) (by omega) (by omega)) kw_X2_58 ky_J6_compare_7cf53 ⟨Nat.le_of_ble_eq_true rfl, Nat.le_of_ble_eq_true rfl⟩ ⟨Nat.zero_le _, Nat.zero_le _⟩ rfl hl.1 rfl (Nat.le_of_ble_eq_true rfl) dX2_sideOf_54 (fun H locs hH => ?_)
  exact retI C0 hret hlk hH (by rfl) (rfl) dX2_sideOf_57
set_option maxRecDepth 100000 in
set_option maxHeartbeats 4000000 in
theorem c_X2_straddles (l : Launch) (g : gT) (S : gSt) (a b y t : Int) (ha : 0 ≤ a ∧ a < 24) (hb : 0 ≤ b ∧ b < 24) (hc : 0 ≤ y ∧ y < 24) (hd : 0 ≤ t ∧ t < 24) (hC : okC (S 2) (S 3)) : MetG l g yX2_straddles cX2_straddles 5 (some .boolean) 2 44 [.ref (g.1 1), .int (iI a), .int (iI b), .int (iI y), .int (iI t)] S (some (.int (iI (if stB (S 2) (S 3) a b y t = true then 1 else 0)))) S := by
  refine bodyG (by decide +kernel) (Nat.le_of_ble_eq_true rfl) ?_
  intro p e s m args below meth c ls C0 hret hlk hl hH
  have zx := C0.1
  have zb := C0.2.1
  have hl : lv_has ls 5 [(0, .ref (g.1 1)), (1, .int (iI a)), (2, .int (iI b)), (3, .int (iI y)), (4, .int (iI t))] := hl
  obtain ⟨H, hHe⟩ : ∃ H : Heap, H = s.heap := ⟨_, rfl⟩
  rw [show (Hp g S s s.heap []) = Hp g S s H [] by rw [hHe]] at hH
  rw [← hHe]
  have m1 := mul_b (sdI_b (S 2) (S 3) a b y) (sdI_b (S 2) (S 3) a b t) (by decide) (by decide)
  refine lv_aload_n zx zb dX2_straddles_0 rfl (lv_at hl 0 rfl) ?_
  refine lv_iload_n zx zb dX2_straddles_1 rfl (lv_at hl 1 rfl) ?_
  refine lv_iload_n zx zb dX2_straddles_2 rfl (lv_at hl 2 rfl) ?_
  refine lv_iload_n zx zb dX2_straddles_3 rfl (lv_at hl 3 rfl) ?_
  refine cvI (rest := []) (As := [.int (iI a), .int (iI b), .int (iI y)]) (b := g.1 1) C0 hH (c_X2_sideOf l g S a b y (by omega) (by omega) (by omega) (by omega)) kw_X2_54 ky_X2_sideOf ⟨Nat.le_of_ble_eq_true rfl, Nat.le_of_ble_eq_true rfl⟩ ⟨Nat.zero_le _, Nat.zero_le _⟩ 1 rfl rfl rfl hl.1 rfl (Nat.le_of_ble_eq_true rfl) dX2_straddles_4 (fun H locs hH => ?_)
  refine lv_aload_n zx zb dX2_straddles_7 rfl (lv_at hl 0 rfl) ?_
  refine lv_iload_n zx zb dX2_straddles_8 rfl (lv_at hl 1 rfl) ?_
  refine lv_iload_n zx zb dX2_straddles_9 rfl (lv_at hl 2 rfl) ?_
  refine lv_iload zx zb dX2_straddles_10 (lv_at hl 4 rfl) ?_
  refine cvI (rest := [.int (iI (sdI (S 2) (S 3) a b y))]) (As := [.int (iI a), .int (iI b), .int (iI t)]) (b := g.1 1) C0 hH (c_X2_sideOf l g S a b t (by omega) (by omega) (by omega) (by omega)) kw_X2_54 ky_X2_sideOf ⟨Nat.le_of_ble_eq_true rfl, Nat.le_of_ble_eq_true rfl⟩ ⟨Nat.zero_le _, Nat.zero_le _⟩ 1 rfl rfl rfl hl.1 rfl (Nat.le_of_ble_eq_true rfl) dX2_straddles_12 (fun H locs hH => ?_)
  refine bi_mul zx zb dX2_straddles_15 ?_
  refine bz_gt (tgt := 23) zx zb dX2_straddles_16 (by decide) ⟨by omega, by omega⟩ (fun zq16 => ?_) (fun zq16 => ?_)
  · refine bi_const (n := 0) zx zb dX2_straddles_23 ?_
    exact retZ C0 hret hlk hH (by unfold stB; first | (rw [if_pos (by simp; omega)]; done) | (rw [if_neg (by simp; omega)]; done)) (by omega) (rfl) dX2_straddles_24
  · refine bi_const (n := 1) zx zb dX2_straddles_19 ?_
    refine lv_goto (tgt := 24) zx zb dX2_straddles_20 (by decide) ?_
    exact retZ C0 hret hlk hH (by unfold stB; first | (rw [if_pos (by simp; omega)]; done) | (rw [if_neg (by simp; omega)]; done)) (by omega) (rfl) dX2_straddles_24
set_option maxRecDepth 100000 in
set_option maxHeartbeats 4000000 in
theorem c_X2_meet (l : Launch) (g : gT) (S : gSt) (a b y t : Int) (ha : 0 ≤ a ∧ a < 24) (hb : 0 ≤ b ∧ b < 24) (hc : 0 ≤ y ∧ y < 24) (hd : 0 ≤ t ∧ t < 24) (hC : okC (S 2) (S 3)) : MetG l g yX2_meet cX2_meet 5 (some .boolean) 3 68 [.ref (g.1 1), .int (iI a), .int (iI b), .int (iI y), .int (iI t)] S (some (.int (iI (if meB (S 2) (S 3) a b y t = true then 1 else 0)))) S := by
  refine bodyG (by decide +kernel) (Nat.le_of_ble_eq_true rfl) ?_
  intro p e s m args below meth c ls C0 hret hlk hl hH
  have zx := C0.1
  have zb := C0.2.1
  have hl : lv_has ls 5 [(0, .ref (g.1 1)), (1, .int (iI a)), (2, .int (iI b)), (3, .int (iI y)), (4, .int (iI t))] := hl
  obtain ⟨H, hHe⟩ : ∃ H : Heap, H = s.heap := ⟨_, rfl⟩
  rw [show (Hp g S s s.heap []) = Hp g S s H [] by rw [hHe]] at hH
  rw [← hHe]
  have ca := hC a ha.1 ha.2
  have cb := hC b hb.1 hb.2
  have cc1 := hC y hc.1 hc.2
  have cd := hC t hd.1 hd.2
  refine lv_aload_n zx zb dX2_meet_0 rfl (lv_at hl 0 rfl) ?_
  refine gf_X2_9 C0 hH dX2_meet_1 ?_
  refine lv_iload_n zx zb dX2_meet_4 rfl (lv_at hl 1 rfl) ?_
  refine al_2 C0 hH (by omega) (by omega) dX2_meet_5 ?_
  refine lv_aload_n zx zb dX2_meet_6 rfl (lv_at hl 0 rfl) ?_
  refine gf_X2_9 C0 hH dX2_meet_7 ?_
  refine lv_iload_n zx zb dX2_meet_10 rfl (lv_at hl 2 rfl) ?_
  refine al_2 C0 hH (by omega) (by omega) dX2_meet_11 ?_
  refine lv_aload_n zx zb dX2_meet_12 rfl (lv_at hl 0 rfl) ?_
  refine gf_X2_9 C0 hH dX2_meet_13 ?_
  refine lv_iload_n zx zb dX2_meet_16 rfl (lv_at hl 3 rfl) ?_
  refine al_2 C0 hH (by omega) (by omega) dX2_meet_17 ?_
  refine lv_aload_n zx zb dX2_meet_18 rfl (lv_at hl 0 rfl) ?_
  refine gf_X2_9 C0 hH dX2_meet_19 ?_
  refine lv_iload zx zb dX2_meet_22 (lv_at hl 4 rfl) ?_
  refine al_2 C0 hH (by omega) (by omega) dX2_meet_24 ?_
  refine csI (rest := []) (As := [.int (iI (S 2 a)), .int (iI (S 2 b)), .int (iI (S 2 y)), .int (iI (S 2 t))]) C0 hH (c_X2_spansOverlap l g S (S 2 a) (S 2 b) (S 2 y) (S 2 t) (by omega) (by omega) (by omega) (by omega)) kw_X2_41 ky_X2_spansOverlap ⟨Nat.le_of_ble_eq_true rfl, Nat.le_of_ble_eq_true rfl⟩ ⟨Nat.zero_le _, Nat.zero_le _⟩ rfl hl.1 rfl (Nat.le_of_ble_eq_true rfl) dX2_meet_25 (fun H locs hH => ?_)
  have hq28 := brg (spB (S 2 a) (S 2 b) (S 2 y) (S 2 t))
  refine bz_eq (tgt := 90) zx zb dX2_meet_28 (by decide) ⟨by omega, by omega⟩ (fun zq28 => ?_) (fun zq28 => ?_)
  · refine bi_const (n := 0) zx zb dX2_meet_90 ?_
    exact retZ C0 hret hlk hH (by unfold meB; first | (rw [b0 zq28]; simp; done) | (rw [b0 zq59]; simp; done) | (rw [b0 zq71]; simp; done) | (rw [b0 zq83]; simp; done) | (rw [b1 zq28, b1 zq59, b1 zq71, b1 zq83]; rfl)) (by omega) (rfl) dX2_meet_91
  · refine lv_aload_n zx zb dX2_meet_31 rfl (lv_at hl 0 rfl) ?_
    refine gf_X2_15 C0 hH dX2_meet_32 ?_
    refine lv_iload_n zx zb dX2_meet_35 rfl (lv_at hl 1 rfl) ?_
    refine al_3 C0 hH (by omega) (by omega) dX2_meet_36 ?_
    refine lv_aload_n zx zb dX2_meet_37 rfl (lv_at hl 0 rfl) ?_
    refine gf_X2_15 C0 hH dX2_meet_38 ?_
    refine lv_iload_n zx zb dX2_meet_41 rfl (lv_at hl 2 rfl) ?_
    refine al_3 C0 hH (by omega) (by omega) dX2_meet_42 ?_
    refine lv_aload_n zx zb dX2_meet_43 rfl (lv_at hl 0 rfl) ?_
    refine gf_X2_15 C0 hH dX2_meet_44 ?_
    refine lv_iload_n zx zb dX2_meet_47 rfl (lv_at hl 3 rfl) ?_
    refine al_3 C0 hH (by omega) (by omega) dX2_meet_48 ?_
    refine lv_aload_n zx zb dX2_meet_49 rfl (lv_at hl 0 rfl) ?_
    refine gf_X2_15 C0 hH dX2_meet_50 ?_
    refine lv_iload zx zb dX2_meet_53 (lv_at hl 4 rfl) ?_
    refine al_3 C0 hH (by omega) (by omega) dX2_meet_55 ?_
    refine csI (rest := []) (As := [.int (iI (S 3 a)), .int (iI (S 3 b)), .int (iI (S 3 y)), .int (iI (S 3 t))]) C0 hH (c_X2_spansOverlap l g S (S 3 a) (S 3 b) (S 3 y) (S 3 t) (by omega) (by omega) (by omega) (by omega)) kw_X2_41 ky_X2_spansOverlap ⟨Nat.le_of_ble_eq_true rfl, Nat.le_of_ble_eq_true rfl⟩ ⟨Nat.zero_le _, Nat.zero_le _⟩ rfl hl.1 rfl (Nat.le_of_ble_eq_true rfl) dX2_meet_56 (fun H locs hH => ?_)
    have hq59 := brg (spB (S 3 a) (S 3 b) (S 3 y) (S 3 t))
    refine bz_eq (tgt := 90) zx zb dX2_meet_59 (by decide) ⟨by omega, by omega⟩ (fun zq59 => ?_) (fun zq59 => ?_)
    · refine bi_const (n := 0) zx zb dX2_meet_90 ?_
      exact retZ C0 hret hlk hH (by unfold meB; first | (rw [b0 zq28]; simp; done) | (rw [b0 zq59]; simp; done) | (rw [b0 zq71]; simp; done) | (rw [b0 zq83]; simp; done) | (rw [b1 zq28, b1 zq59, b1 zq71, b1 zq83]; rfl)) (by omega) (rfl) dX2_meet_91
    · refine lv_aload_n zx zb dX2_meet_62 rfl (lv_at hl 0 rfl) ?_
      refine lv_iload_n zx zb dX2_meet_63 rfl (lv_at hl 1 rfl) ?_
      refine lv_iload_n zx zb dX2_meet_64 rfl (lv_at hl 2 rfl) ?_
      refine lv_iload_n zx zb dX2_meet_65 rfl (lv_at hl 3 rfl) ?_
      refine lv_iload zx zb dX2_meet_66 (lv_at hl 4 rfl) ?_
      refine cvI (rest := []) (As := [.int (iI a), .int (iI b), .int (iI y), .int (iI t)]) (b := g.1 1) C0 hH (c_X2_straddles l g S a b y t (by omega) (by omega) (by omega) (by omega) (by omega)) kw_X2_45 ky_X2_straddles ⟨Nat.le_of_ble_eq_true rfl, Nat.le_of_ble_eq_true rfl⟩ ⟨Nat.zero_le _, Nat.zero_le _⟩ 1 rfl rfl rfl hl.1 rfl (Nat.le_of_ble_eq_true rfl) dX2_meet_68 (fun H locs hH => ?_)
      have hq71 := brg (stB (S 2) (S 3) a b y t)
      refine bz_eq (tgt := 90) zx zb dX2_meet_71 (by decide) ⟨by omega, by omega⟩ (fun zq71 => ?_) (fun zq71 => ?_)
      · refine bi_const (n := 0) zx zb dX2_meet_90 ?_
        exact retZ C0 hret hlk hH (by unfold meB; first | (rw [b0 zq28]; simp; done) | (rw [b0 zq59]; simp; done) | (rw [b0 zq71]; simp; done) | (rw [b0 zq83]; simp; done) | (rw [b1 zq28, b1 zq59, b1 zq71, b1 zq83]; rfl)) (by omega) (rfl) dX2_meet_91
      · refine lv_aload_n zx zb dX2_meet_74 rfl (lv_at hl 0 rfl) ?_
        refine lv_iload_n zx zb dX2_meet_75 rfl (lv_at hl 3 rfl) ?_
        refine lv_iload zx zb dX2_meet_76 (lv_at hl 4 rfl) ?_
        refine lv_iload_n zx zb dX2_meet_78 rfl (lv_at hl 1 rfl) ?_
        refine lv_iload_n zx zb dX2_meet_79 rfl (lv_at hl 2 rfl) ?_
        refine cvI (rest := []) (As := [.int (iI y), .int (iI t), .int (iI a), .int (iI b)]) (b := g.1 1) C0 hH (c_X2_straddles l g S y t a b (by omega) (by omega) (by omega) (by omega) (by omega)) kw_X2_45 ky_X2_straddles ⟨Nat.le_of_ble_eq_true rfl, Nat.le_of_ble_eq_true rfl⟩ ⟨Nat.zero_le _, Nat.zero_le _⟩ 1 rfl rfl rfl hl.1 rfl (Nat.le_of_ble_eq_true rfl) dX2_meet_80 (fun H locs hH => ?_)
        have hq83 := brg (stB (S 2) (S 3) y t a b)
        refine bz_eq (tgt := 90) zx zb dX2_meet_83 (by decide) ⟨by omega, by omega⟩ (fun zq83 => ?_) (fun zq83 => ?_)
        · refine bi_const (n := 0) zx zb dX2_meet_90 ?_
          exact retZ C0 hret hlk hH (by unfold meB; first | (rw [b0 zq28]; simp; done) | (rw [b0 zq59]; simp; done) | (rw [b0 zq71]; simp; done) | (rw [b0 zq83]; simp; done) | (rw [b1 zq28, b1 zq59, b1 zq71, b1 zq83]; rfl)) (by omega) (rfl) dX2_meet_91
        · refine bi_const (n := 1) zx zb dX2_meet_86 ?_
          refine lv_goto (tgt := 91) zx zb dX2_meet_87 (by decide) ?_
          exact retZ C0 hret hlk hH (by unfold meB; first | (rw [b0 zq28]; simp; done) | (rw [b0 zq59]; simp; done) | (rw [b0 zq71]; simp; done) | (rw [b0 zq83]; simp; done) | (rw [b1 zq28, b1 zq59, b1 zq71, b1 zq83]; rfl)) (by omega) (rfl) dX2_meet_91
