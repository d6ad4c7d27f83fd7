set_option maxRecDepth 100000 in
set_option maxHeartbeats 4000000 in
theorem c_X3_keep (l : Launch) (g : gT) (S : gSt) (a b v u w : Int) (hn : 0 ≤ S 17 0 ∧ S 17 0 < 30) (hk : 0 ≤ S 17 1 ∧ S 17 1 ≤ 30) : MetG l g yX3_keep cX3_keep 6 none 1 21 [.ref (g.1 17), .int (iI a), .int (iI b), .int (iI v), .int (iI u), .int (iI w)] S none (kpS S a b v u w) := by
  refine bodyG (by decide +kernel) (Nat.le_of_ble_eq_true rfl) ?_
  intro p e s m args below meth c ls C0 hret hlk hl hH
  have zx := C0.1
  have zb := C0.2.1
  have hl : lv_has ls 6 [(0, .ref (g.1 17)), (1, .int (iI a)), (2, .int (iI b)), (3, .int (iI v)), (4, .int (iI u)), (5, .int (iI w))] := hl
  obtain ⟨H, hHe⟩ : ∃ H : Heap, H = s.heap := ⟨_, rfl⟩
  rw [show (Hp g S s s.heap []) = Hp g S s H [] by rw [hHe]] at hH
  rw [← hHe]
  refine lv_aload_n zx zb dX3_keep_0 rfl (lv_at hl 0 rfl) ?_
  refine gf_X3_9 C0 hH dX3_keep_1 ?_
  refine lv_aload_n zx zb dX3_keep_4 rfl (lv_at hl 0 rfl) ?_
  refine gf_X3_27 C0 hH dX3_keep_5 ?_
  refine lv_iload_n zx zb dX3_keep_8 rfl (lv_at hl 1 rfl) ?_
  refine as_18 C0 hH (by omega) (by omega) dX3_keep_9 (fun H locs hH => ?_)
  refine lv_aload_n zx zb dX3_keep_10 rfl (lv_at hl 0 rfl) ?_
  refine gf_X3_15 C0 hH dX3_keep_11 ?_
  refine lv_aload_n zx zb dX3_keep_14 rfl (lv_at hl 0 rfl) ?_
  refine gf_X3_27 C0 hH dX3_keep_15 ?_
  show W p l e _ s m args below meth c H _ _ _ _ (F0 m 18 ls [.int (iI (S 17 0)), .ref (g.1 19)])
  refine lv_iload_n zx zb dX3_keep_18 rfl (lv_at hl 2 rfl) ?_
  refine as_19 C0 hH (by omega) (by omega) dX3_keep_19 (fun H locs hH => ?_)
  refine lv_aload_n zx zb dX3_keep_20 rfl (lv_at hl 0 rfl) ?_
  refine gf_X3_18 C0 hH dX3_keep_21 ?_
  refine lv_aload_n zx zb dX3_keep_24 rfl (lv_at hl 0 rfl) ?_
  refine gf_X3_27 C0 hH dX3_keep_25 ?_
  show W p l e _ s m args below meth c H _ _ _ _ (F0 m 28 ls [.int (iI (S 17 0)), .ref (g.1 20)])
  refine lv_iload_n zx zb dX3_keep_28 rfl (lv_at hl 3 rfl) ?_
  refine as_20 C0 hH (by omega) (by omega) dX3_keep_29 (fun H locs hH => ?_)
  refine lv_aload_n zx zb dX3_keep_30 rfl (lv_at hl 0 rfl) ?_
  refine gf_X3_21 C0 hH dX3_keep_31 ?_
  refine lv_aload_n zx zb dX3_keep_34 rfl (lv_at hl 0 rfl) ?_
  refine gf_X3_27 C0 hH dX3_keep_35 ?_
  show W p l e _ s m args below meth c H _ _ _ _ (F0 m 38 ls [.int (iI (S 17 0)), .ref (g.1 21)])
  refine lv_iload zx zb dX3_keep_38 (lv_at hl 4 rfl) ?_
  refine as_21 C0 hH (by omega) (by omega) dX3_keep_40 (fun H locs hH => ?_)
  refine lv_aload_n zx zb dX3_keep_41 rfl (lv_at hl 0 rfl) ?_
  refine gf_X3_24 C0 hH dX3_keep_42 ?_
  refine lv_aload_n zx zb dX3_keep_45 rfl (lv_at hl 0 rfl) ?_
  refine gf_X3_27 C0 hH dX3_keep_46 ?_
  show W p l e _ s m args below meth c H _ _ _ _ (F0 m 49 ls [.int (iI (S 17 0)), .ref (g.1 22)])
  refine lv_iload zx zb dX3_keep_49 (lv_at hl 5 rfl) ?_
  refine as_22 C0 hH (by omega) (by omega) dX3_keep_51 (fun H locs hH => ?_)
  refine lv_aload_n zx zb dX3_keep_52 rfl (lv_at hl 0 rfl) ?_
  refine lv_aload_n zx zb dX3_keep_53 rfl (lv_at hl 0 rfl) ?_
  refine gf_X3_27 C0 hH dX3_keep_54 ?_
  show W p l e _ s m args below meth c H _ _ _ _ (F0 m 57 ls [.int (iI (S 17 0)), .ref (g.1 17)])
  refine bi_const (n := 1) zx zb dX3_keep_57 ?_
  refine bi_add zx zb dX3_keep_58 ?_
  refine bi_bip (n := 30) zx zb dX3_keep_59 (by decide) ?_
  refine bi_rem zx zb dX3_keep_61 ⟨by omega, by omega⟩ ⟨by omega, by omega⟩ (by omega) ?_
  rw [tm_p (show 0 ≤ S 17 0 + 1 by omega)]
  refine pf_X3_27 C0 hH dX3_keep_62 (fun H locs hH => ?_)
  refine lv_aload_n zx zb dX3_keep_65 rfl (lv_at hl 0 rfl) ?_
  refine lv_aload_n zx zb dX3_keep_66 rfl (lv_at hl 0 rfl) ?_
  refine gf_X3_31 C0 hH dX3_keep_67 ?_
  show W p l e _ s m args below meth c H _ _ _ _ (F0 m 70 ls [.int (iI (S 17 1)), .ref (g.1 17)])
  refine bi_const (n := 1) zx zb dX3_keep_70 ?_
  refine bi_add zx zb dX3_keep_71 ?_
  refine bi_bip (n := 30) zx zb dX3_keep_72 (by decide) ?_
  refine csI (rest := [.ref (g.1 17)]) (As := [.int (iI ((S 17 1) + 1)), .int (iI 30)]) C0 hH (c_J9_min_7cf53 l g (st (st (st (st (st (st S 18 (S 17 0) a) 19 (S 17 0) b) 20 (S 17 0) v) 21 (S 17 0) u) 22 (S 17 0) w) 17 0 (((S 17 0) + 1) % 30)) ((S 17 1) + 1) 30 (by omega) (by omega)) kw_X3_34 ky_J9_min_7cf53 ⟨Nat.le_of_ble_eq_true rfl, Nat.le_of_ble_eq_true rfl⟩ ⟨Nat.zero_le _, Nat.zero_le _⟩ rfl hl.1 rfl (Nat.le_of_ble_eq_true rfl) dX3_keep_74 (fun H locs hH => ?_)
  refine pf_X3_31 C0 hH dX3_keep_77 (fun H locs hH => ?_)
  exact retV C0 hret hlk hH (rfl) dX3_keep_80
set_option maxRecDepth 100000 in
set_option maxHeartbeats 4000000 in
theorem c_X3_stepBack (l : Launch) (g : gT) (S : gSt) (hn : 0 ≤ S 17 0 ∧ S 17 0 < 30) (hk : 0 ≤ S 17 1 ∧ S 17 1 ≤ 30) : MetG l g yX3_stepBack cX3_stepBack 1 none 0 0 [.ref (g.1 17)] S none (sbS S) := by
  refine bodyG (by decide +kernel) (Nat.le_of_ble_eq_true rfl) ?_
  intro p e s m args below meth c ls C0 hret hlk hl hH
  have zx := C0.1
  have zb := C0.2.1
  have hl : lv_has ls 1 [(0, .ref (g.1 17))] := hl
  obtain ⟨H, hHe⟩ : ∃ H : Heap, H = s.heap := ⟨_, rfl⟩
  rw [show (Hp g S s s.heap []) = Hp g S s H [] by rw [hHe]] at hH
  rw [← hHe]
  refine lv_aload_n zx zb dX3_stepBack_0 rfl (lv_at hl 0 rfl) ?_
  refine lv_aload_n zx zb dX3_stepBack_1 rfl (lv_at hl 0 rfl) ?_
  refine gf_X3_27 C0 hH dX3_stepBack_2 ?_
  refine bi_bip (n := 30) zx zb dX3_stepBack_5 (by decide) ?_
  refine bi_add zx zb dX3_stepBack_7 ?_
  refine bi_const (n := 1) zx zb dX3_stepBack_8 ?_
  refine bi_sub zx zb dX3_stepBack_9 ?_
  refine bi_bip (n := 30) zx zb dX3_stepBack_10 (by decide) ?_
  refine bi_rem zx zb dX3_stepBack_12 ⟨by omega, by omega⟩ ⟨by omega, by omega⟩ (by omega) ?_
  rw [tm_p (show 0 ≤ S 17 0 + 30 - 1 by omega), show S 17 0 + 30 - 1 = S 17 0 + 29 by omega]
  refine pf_X3_27 C0 hH dX3_stepBack_13 (fun H locs hH => ?_)
  refine lv_aload_n zx zb dX3_stepBack_16 rfl (lv_at hl 0 rfl) ?_
  refine lv_dup zx zb dX3_stepBack_17 rfl ?_
  refine gf_X3_31 C0 hH dX3_stepBack_18 ?_
  show W p l e _ s m args below meth c H _ _ _ _ (F0 m 21 ls [.int (iI (S 17 1)), .ref (g.1 17)])
  refine bi_const (n := 1) zx zb dX3_stepBack_21 ?_
  refine bi_sub zx zb dX3_stepBack_22 ?_
  refine pf_X3_31 C0 hH dX3_stepBack_23 (fun H locs hH => ?_)
  exact retV C0 hret hlk hH (rfl) dX3_stepBack_26
set_option maxRecDepth 100000 in
set_option maxHeartbeats 4000000 in
theorem c_X4_append (l : Launch) (g : gT) (S : gSt) (a b v u : Int) (hn : 0 ≤ S 12 0 ∧ S 12 0 < 12) : MetG l g yX4_append cX4_append 6 (some .int) 0 0 [.ref (g.1 12), .int (iI a), .int (iI b), .int (iI v), .int (iI u)] S (some (.int (iI (S 12 0)))) (apS S a b v u) := by
  refine bodyG (by decide +kernel) (Nat.le_of_ble_eq_true rfl) ?_
  intro p e s m args below meth c ls C0 hret hlk hl hH
  have zx := C0.1
  have zb := C0.2.1
  have hl : lv_has ls 6 [(0, .ref (g.1 12)), (1, .int (iI a)), (2, .int (iI b)), (3, .int (iI v)), (4, .int (iI u))] := hl
  obtain ⟨H, hHe⟩ : ∃ H : Heap, H = s.heap := ⟨_, rfl⟩
  rw [show (Hp g S s s.heap []) = Hp g S s H [] by rw [hHe]] at hH
  rw [← hHe]
  refine lv_aload_n zx zb dX4_append_0 rfl (lv_at hl 0 rfl) ?_
  refine gf_X4_24 C0 hH dX4_append_1 ?_
  refine lv_istore (lv' := [(5, .int (iI (S 12 0))), (0, .ref (g.1 12)), (1, .int (iI a)), (2, .int (iI b)), (3, .int (iI v)), (4, .int (iI u))]) zx zb dX4_append_4 hl (by decide) rfl (fun ls hl => ?_)
  refine lv_iload zx zb dX4_append_6 (lv_at hl 0 rfl) ?_
  refine bi_bip (n := 12) zx zb dX4_append_8 (by decide) ?_
  refine bq_ge (tgt := 56) zx zb dX4_append_10 (by decide) ⟨by omega, by omega⟩ ⟨by omega, by omega⟩ (fun zq10 => ?_) (fun zq10 => ?_)
  · exact absurd zq10 (by omega)
  · refine lv_aload_n zx zb dX4_append_13 rfl (lv_at hl 1 rfl) ?_
    refine gf_X4_9 C0 hH dX4_append_14 ?_
    refine lv_iload zx zb dX4_append_17 (lv_at hl 0 rfl) ?_
    refine lv_iload_n zx zb dX4_append_19 rfl (lv_at hl 2 rfl) ?_
    refine as_13 C0 hH (by omega) (by omega) dX4_append_20 (fun H locs hH => ?_)
    refine lv_aload_n zx zb dX4_append_21 rfl (lv_at hl 1 rfl) ?_
    refine gf_X4_15 C0 hH dX4_append_22 ?_
    refine lv_iload zx zb dX4_append_25 (lv_at hl 0 rfl) ?_
    refine lv_iload_n zx zb dX4_append_27 rfl (lv_at hl 3 rfl) ?_
    refine as_14 C0 hH (by omega) (by omega) dX4_append_28 (fun H locs hH => ?_)
    refine lv_aload_n zx zb dX4_append_29 rfl (lv_at hl 1 rfl) ?_
    refine gf_X4_18 C0 hH dX4_append_30 ?_
    refine lv_iload zx zb dX4_append_33 (lv_at hl 0 rfl) ?_
    refine lv_iload_n zx zb dX4_append_35 rfl (lv_at hl 4 rfl) ?_
    refine as_15 C0 hH (by omega) (by omega) dX4_append_36 (fun H locs hH => ?_)
    refine lv_aload_n zx zb dX4_append_37 rfl (lv_at hl 1 rfl) ?_
    refine gf_X4_21 C0 hH dX4_append_38 ?_
    refine lv_iload zx zb dX4_append_41 (lv_at hl 0 rfl) ?_
    refine lv_iload zx zb dX4_append_43 (lv_at hl 5 rfl) ?_
    refine as_16 C0 hH (by omega) (by omega) dX4_append_45 (fun H locs hH => ?_)
    refine lv_aload_n zx zb dX4_append_46 rfl (lv_at hl 1 rfl) ?_
    refine lv_dup zx zb dX4_append_47 rfl ?_
    refine gf_X4_24 C0 hH dX4_append_48 ?_
    show W p l e _ s m args below meth c H _ _ _ _ (F0 m 51 ls [.int (iI (S 12 0)), .ref (g.1 12)])
    refine bi_const (n := 1) zx zb dX4_append_51 ?_
    refine bi_add zx zb dX4_append_52 ?_
    refine pf_X4_24 C0 hH dX4_append_53 (fun H locs hH => ?_)
    refine lv_iload zx zb dX4_append_56 (lv_at hl 0 rfl) ?_
    exact retI C0 hret hlk hH (by rfl) (rfl) dX4_append_58
