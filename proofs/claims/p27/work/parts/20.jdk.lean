set_option maxRecDepth 100000 in
set_option maxHeartbeats 4000000 in
theorem c_J9_floorMod_7cf53 (l : Launch) (g : gT) (S : gSt) (x : Int) (h0 : -2147483648 ≤ x ∧ x < 2147483648) : MetG l g yJ9_floorMod_7cf53 cJ9_floorMod_7cf53 3 (some .int) 0 0 [.int (iI x), .int (iI 360)] S (some (.int (iI (x % 360)))) S := by
  refine bodyG (by decide +kernel) (Nat.le_of_ble_eq_true rfl) ?_
  intro p e s m args below meth c ls C0 hret hlk hl hH
  have zx := C0.1
  have zb := C0.2.1
  have hl : lv_has ls 3 [(0, .int (iI x)), (1, .int (iI 360))] := hl
  obtain ⟨H, hHe⟩ : ∃ H : Heap, H = s.heap := ⟨_, rfl⟩
  rw [show (Hp g S s s.heap []) = Hp g S s H [] by rw [hHe]] at hH
  rw [← hHe]
  refine lv_iload_n zx zb dJ9_floorMod_7cf53_0 rfl (lv_at hl 0 rfl) ?_
  refine lv_iload_n zx zb dJ9_floorMod_7cf53_1 rfl (lv_at hl 1 rfl) ?_
  refine bi_rem zx zb dJ9_floorMod_7cf53_2 ⟨by omega, by omega⟩ ⟨by omega, by omega⟩ (by omega) ?_
  have e3 : (x.tmod 360) = if 0 ≤ x then x % 360 else -((-x) % 360) := by by_cases h : 0 ≤ x; (rw [if_pos h]; exact tm_p h); (rw [if_neg h]; exact tm_n (by omega))
  have e4 : (0 ≤ x ∧ x.tmod 360 = x % 360) ∨ (x < 0 ∧ x.tmod 360 = -((-x) % 360)) := by split at e3 <;> omega
  refine lv_istore_n (lv' := [(2, .int (iI (x.tmod 360))), (0, .int (iI x)), (1, .int (iI 360))]) zx zb dJ9_floorMod_7cf53_3 rfl hl (by decide) rfl (fun ls hl => ?_)
  refine lv_iload_n zx zb dJ9_floorMod_7cf53_4 rfl (lv_at hl 1 rfl) ?_
  refine lv_iload_n zx zb dJ9_floorMod_7cf53_5 rfl (lv_at hl 2 rfl) ?_
  refine bx_xorge (tgt := 18) zx zb dJ9_floorMod_7cf53_6 dJ9_floorMod_7cf53_7 (by decide) ⟨by omega, by omega⟩ ⟨by omega, by omega⟩ (by omega) (fun zq6 => ?_) (fun zq6 => ?_)
  · refine lv_iload_n zx zb dJ9_floorMod_7cf53_18 rfl (lv_at hl 0 rfl) ?_
    exact retI C0 hret hlk hH (by omega) (rfl) dJ9_floorMod_7cf53_19
  · refine lv_iload_n zx zb dJ9_floorMod_7cf53_10 rfl (lv_at hl 0 rfl) ?_
    refine bz_eq (tgt := 18) zx zb dJ9_floorMod_7cf53_11 (by decide) ⟨by omega, by omega⟩ (fun zq11 => ?_) (fun zq11 => ?_)
    · refine lv_iload_n zx zb dJ9_floorMod_7cf53_18 rfl (lv_at hl 0 rfl) ?_
      exact retI C0 hret hlk hH (by omega) (rfl) dJ9_floorMod_7cf53_19
    · refine lv_iload_n zx zb dJ9_floorMod_7cf53_14 rfl (lv_at hl 0 rfl) ?_
      refine lv_iload_n zx zb dJ9_floorMod_7cf53_15 rfl (lv_at hl 2 rfl) ?_
      refine bi_add zx zb dJ9_floorMod_7cf53_16 ?_
      exact retI C0 hret hlk hH (by omega) (rfl) dJ9_floorMod_7cf53_17
set_option maxRecDepth 100000 in
set_option maxHeartbeats 4000000 in
theorem c_J9_floorDiv_7cf53 (l : Launch) (g : gT) (S : gSt) (x : Int) (h0 : -2147483648 ≤ x ∧ x < 2147483648) : MetG l g yJ9_floorDiv_7cf53 cJ9_floorDiv_7cf53 3 (some .int) 0 0 [.int (iI x), .int (iI 1000)] S (some (.int (iI (x / 1000)))) S := by
  refine bodyG (by decide +kernel) (Nat.le_of_ble_eq_true rfl) ?_
  intro p e s m args below meth c ls C0 hret hlk hl hH
  have zx := C0.1
  have zb := C0.2.1
  have hl : lv_has ls 3 [(0, .int (iI x)), (1, .int (iI 1000))] := hl
  obtain ⟨H, hHe⟩ : ∃ H : Heap, H = s.heap := ⟨_, rfl⟩
  rw [show (Hp g S s s.heap []) = Hp g S s H [] by rw [hHe]] at hH
  rw [← hHe]
  refine lv_iload_n zx zb dJ9_floorDiv_7cf53_0 rfl (lv_at hl 0 rfl) ?_
  refine lv_iload_n zx zb dJ9_floorDiv_7cf53_1 rfl (lv_at hl 1 rfl) ?_
  refine bi_div zx zb dJ9_floorDiv_7cf53_2 ⟨by omega, by omega⟩ ⟨by omega, by omega⟩ (by omega) ?_
  have e4 : (0 ≤ x ∧ x.tdiv 1000 = x / 1000) ∨ (x < 0 ∧ x.tdiv 1000 = -((-x) / 1000)) := by by_cases h : 0 ≤ x; (exact Or.inl ⟨h, td_p h⟩); (exact Or.inr ⟨by omega, td_n (by omega)⟩)
  refine lv_istore_n (lv' := [(2, .int (iI (x.tdiv 1000))), (0, .int (iI x)), (1, .int (iI 1000))]) zx zb dJ9_floorDiv_7cf53_3 rfl hl (by decide) rfl (fun ls hl => ?_)
  refine lv_iload_n zx zb dJ9_floorDiv_7cf53_4 rfl (lv_at hl 1 rfl) ?_
  refine lv_iload_n zx zb dJ9_floorDiv_7cf53_5 rfl (lv_at hl 2 rfl) ?_
  refine bx_xorge (tgt := 21) zx zb dJ9_floorDiv_7cf53_6 dJ9_floorDiv_7cf53_7 (by decide) ⟨by omega, by omega⟩ ⟨by omega, by omega⟩ (by omega) (fun zq6 => ?_) (fun zq6 => ?_)
  · refine lv_iload_n zx zb dJ9_floorDiv_7cf53_21 rfl (lv_at hl 0 rfl) ?_
    exact retI C0 hret hlk hH (by omega) (rfl) dJ9_floorDiv_7cf53_22
  · refine lv_iload_n zx zb dJ9_floorDiv_7cf53_10 rfl (lv_at hl 0 rfl) ?_
    refine lv_iload_n zx zb dJ9_floorDiv_7cf53_11 rfl (lv_at hl 2 rfl) ?_
    refine bi_mul zx zb dJ9_floorDiv_7cf53_12 ?_
    refine lv_iload_n zx zb dJ9_floorDiv_7cf53_13 rfl (lv_at hl 1 rfl) ?_
    refine bq_eq (tgt := 21) zx zb dJ9_floorDiv_7cf53_14 (by decide) ⟨by omega, by omega⟩ ⟨by omega, by omega⟩ (fun zq14 => ?_) (fun zq14 => ?_)
    · refine lv_iload_n zx zb dJ9_floorDiv_7cf53_21 rfl (lv_at hl 0 rfl) ?_
      exact retI C0 hret hlk hH (by omega) (rfl) dJ9_floorDiv_7cf53_22
    · refine lv_iload_n zx zb dJ9_floorDiv_7cf53_17 rfl (lv_at hl 0 rfl) ?_
      refine bi_const (n := 1) zx zb dJ9_floorDiv_7cf53_18 ?_
      refine bi_sub zx zb dJ9_floorDiv_7cf53_19 ?_
      exact retI C0 hret hlk hH (by omega) (rfl) dJ9_floorDiv_7cf53_20
set_option maxRecDepth 100000 in
set_option maxHeartbeats 4000000 in
theorem c_J9_min_7cf53 (l : Launch) (g : gT) (S : gSt) (x y : Int) (h0 : -2147483648 ≤ x ∧ x < 2147483648) (h1 : -2147483648 ≤ y ∧ y < 2147483648) : MetG l g yJ9_min_7cf53 cJ9_min_7cf53 2 (some .int) 0 0 [.int (iI x), .int (iI y)] S (some (.int (iI (min x y)))) S := by
  refine bodyG (by decide +kernel) (Nat.le_of_ble_eq_true rfl) ?_
  intro p e s m args below meth c ls C0 hret hlk hl hH
  have zx := C0.1
  have zb := C0.2.1
  have hl : lv_has ls 2 [(0, .int (iI x)), (1, .int (iI y))] := hl
  obtain ⟨H, hHe⟩ : ∃ H : Heap, H = s.heap := ⟨_, rfl⟩
  rw [show (Hp g S s s.heap []) = Hp g S s H [] by rw [hHe]] at hH
  rw [← hHe]
  refine lv_iload_n zx zb dJ9_min_7cf53_0 rfl (lv_at hl 0 rfl) ?_
  refine lv_iload_n zx zb dJ9_min_7cf53_1 rfl (lv_at hl 1 rfl) ?_
  refine bq_gt (tgt := 9) zx zb dJ9_min_7cf53_2 (by decide) ⟨by omega, by omega⟩ ⟨by omega, by omega⟩ (fun zq2 => ?_) (fun zq2 => ?_)
  · refine lv_iload_n zx zb dJ9_min_7cf53_9 rfl (lv_at hl 1 rfl) ?_
    exact retI C0 hret hlk hH (by omega) (rfl) dJ9_min_7cf53_10
  · refine lv_iload_n zx zb dJ9_min_7cf53_5 rfl (lv_at hl 0 rfl) ?_
    refine lv_goto (tgt := 10) zx zb dJ9_min_7cf53_6 (by decide) ?_
    exact retI C0 hret hlk hH (by omega) (rfl) dJ9_min_7cf53_10
set_option maxRecDepth 100000 in
set_option maxHeartbeats 4000000 in
theorem c_J9_max_7cf53 (l : Launch) (g : gT) (S : gSt) (x y : Int) (h0 : -2147483648 ≤ x ∧ x < 2147483648) (h1 : -2147483648 ≤ y ∧ y < 2147483648) : MetG l g yJ9_max_7cf53 cJ9_max_7cf53 2 (some .int) 0 0 [.int (iI x), .int (iI y)] S (some (.int (iI (max x y)))) S := by
  refine bodyG (by decide +kernel) (Nat.le_of_ble_eq_true rfl) ?_
  intro p e s m args below meth c ls C0 hret hlk hl hH
  have zx := C0.1
  have zb := C0.2.1
  have hl : lv_has ls 2 [(0, .int (iI x)), (1, .int (iI y))] := hl
  obtain ⟨H, hHe⟩ : ∃ H : Heap, H = s.heap := ⟨_, rfl⟩
  rw [show (Hp g S s s.heap []) = Hp g S s H [] by rw [hHe]] at hH
  rw [← hHe]
  refine lv_iload_n zx zb dJ9_max_7cf53_0 rfl (lv_at hl 0 rfl) ?_
  refine lv_iload_n zx zb dJ9_max_7cf53_1 rfl (lv_at hl 1 rfl) ?_
  refine bq_lt (tgt := 9) zx zb dJ9_max_7cf53_2 (by decide) ⟨by omega, by omega⟩ ⟨by omega, by omega⟩ (fun zq2 => ?_) (fun zq2 => ?_)
  · refine lv_iload_n zx zb dJ9_max_7cf53_9 rfl (lv_at hl 1 rfl) ?_
    exact retI C0 hret hlk hH (by omega) (rfl) dJ9_max_7cf53_10
  · refine lv_iload_n zx zb dJ9_max_7cf53_5 rfl (lv_at hl 0 rfl) ?_
    refine lv_goto (tgt := 10) zx zb dJ9_max_7cf53_6 (by decide) ?_
    exact retI C0 hret hlk hH (by omega) (rfl) dJ9_max_7cf53_10
set_option maxRecDepth 100000 in
set_option maxHeartbeats 4000000 in
theorem c_J6_compare_7cf53 (l : Launch) (g : gT) (S : gSt) (x y : Int) (h0 : -2147483648 ≤ x ∧ x < 2147483648) (h1 : -2147483648 ≤ y ∧ y < 2147483648) : MetG l g yJ6_compare_7cf53 cJ6_compare_7cf53 2 (some .int) 0 0 [.int (iI x), .int (iI y)] S (some (.int (iI (if x < y then -1 else if x = y then 0 else 1)))) S := by
  refine bodyG (by decide +kernel) (Nat.le_of_ble_eq_true rfl) ?_
  intro p e s m args below meth c ls C0 hret hlk hl hH
  have zx := C0.1
  have zb := C0.2.1
  have hl : lv_has ls 2 [(0, .int (iI x)), (1, .int (iI y))] := hl
  obtain ⟨H, hHe⟩ : ∃ H : Heap, H = s.heap := ⟨_, rfl⟩
  rw [show (Hp g S s s.heap []) = Hp g S s H [] by rw [hHe]] at hH
  rw [← hHe]
  refine lv_iload_n zx zb dJ6_compare_7cf53_0 rfl (lv_at hl 0 rfl) ?_
  refine lv_iload_n zx zb dJ6_compare_7cf53_1 rfl (lv_at hl 1 rfl) ?_
  refine bq_ge (tgt := 9) zx zb dJ6_compare_7cf53_2 (by decide) ⟨by omega, by omega⟩ ⟨by omega, by omega⟩ (fun zq2 => ?_) (fun zq2 => ?_)
  · refine lv_iload_n zx zb dJ6_compare_7cf53_9 rfl (lv_at hl 0 rfl) ?_
    refine lv_iload_n zx zb dJ6_compare_7cf53_10 rfl (lv_at hl 1 rfl) ?_
    refine bq_ne (tgt := 18) zx zb dJ6_compare_7cf53_11 (by decide) ⟨by omega, by omega⟩ ⟨by omega, by omega⟩ (fun zq11 => ?_) (fun zq11 => ?_)
    · refine bi_const (n := 1) zx zb dJ6_compare_7cf53_18 ?_
      exact retI C0 hret hlk hH (by split <;> (try split) <;> omega) (rfl) dJ6_compare_7cf53_19
    · refine bi_const (n := 0) zx zb dJ6_compare_7cf53_14 ?_
      refine lv_goto (tgt := 19) zx zb dJ6_compare_7cf53_15 (by decide) ?_
      exact retI C0 hret hlk hH (by split <;> (try split) <;> omega) (rfl) dJ6_compare_7cf53_19
  · refine bi_const (n := (-1)) zx zb dJ6_compare_7cf53_5 ?_
    refine lv_goto (tgt := 19) zx zb dJ6_compare_7cf53_6 (by decide) ?_
    exact retI C0 hret hlk hH (by split <;> (try split) <;> omega) (rfl) dJ6_compare_7cf53_19
set_option maxRecDepth 100000 in
set_option maxHeartbeats 4000000 in
theorem c_X0_sine (l : Launch) (g : gT) (S : gSt) (a : Int) (h0 : -2147483648 ≤ a ∧ a < 2147483648) : MetG l g yX0_sine cX0_sine 6 (some .int) 1 22 [.int (iI a)] S (some (.int (iI (sn a)))) S := by
  refine bodyG (by decide +kernel) (Nat.le_of_ble_eq_true rfl) ?_
  intro p e s m args below meth c ls C0 hret hlk hl hH
  have zx := C0.1
  have zb := C0.2.1
  have hl : lv_has ls 6 [(0, .int (iI a))] := hl
  obtain ⟨H, hHe⟩ : ∃ H : Heap, H = s.heap := ⟨_, rfl⟩
  rw [show (Hp g S s s.heap []) = Hp g S s H [] by rw [hHe]] at hH
  rw [← hHe]
  refine lv_iload_n zx zb dX0_sine_0 rfl (lv_at hl 0 rfl) ?_
  refine bi_sip (n := 360) zx zb dX0_sine_1 (by decide) ?_
  refine csI (rest := []) (As := [.int (iI a), .int (iI 360)]) C0 hH (c_J9_floorMod_7cf53 l g S a (by omega)) kw_X0_9 ky_J9_floorMod_7cf53 ⟨Nat.le_of_ble_eq_true rfl, Nat.le_of_ble_eq_true rfl⟩ ⟨Nat.zero_le _, Nat.zero_le _⟩ rfl hl.1 rfl (Nat.le_of_ble_eq_true rfl) dX0_sine_4 (fun H locs hH => ?_)
  refine lv_istore_n (lv' := [(1, .int (iI (a % 360))), (0, .int (iI a))]) zx zb dX0_sine_7 rfl hl (by decide) rfl (fun ls hl => ?_)
  refine lv_iload_n zx zb dX0_sine_8 rfl (lv_at hl 0 rfl) ?_
  refine bi_sip (n := 180) zx zb dX0_sine_9 (by decide) ?_
  refine bi_rem zx zb dX0_sine_12 ⟨by omega, by omega⟩ ⟨by omega, by omega⟩ (by omega) ?_
  rw [tm_p (show 0 ≤ a % 360 by omega)]
  refine lv_istore_n (lv' := [(2, .int (iI (a % 360 % 180))), (1, .int (iI (a % 360))), (0, .int (iI a))]) zx zb dX0_sine_13 rfl hl (by decide) rfl (fun ls hl => ?_)
  refine lv_iload_n zx zb dX0_sine_14 rfl (lv_at hl 0 rfl) ?_
  refine bi_sip (n := 180) zx zb dX0_sine_15 (by decide) ?_
  refine lv_iload_n zx zb dX0_sine_18 rfl (lv_at hl 0 rfl) ?_
  refine bi_sub zx zb dX0_sine_19 ?_
  refine bi_mul zx zb dX0_sine_20 ?_
  have hpb := prod_b (h := a % 360 % 180) (by omega) (by omega)
  obtain ⟨P, hP⟩ : ∃ P : Int, P = a % 360 % 180 * (180 - a % 360 % 180) := ⟨_, rfl⟩
  rw [← hP] at hpb ⊢
  refine lv_istore_n (lv' := [(3, .int (iI P)), (2, .int (iI (a % 360 % 180))), (1, .int (iI (a % 360))), (0, .int (iI a))]) zx zb dX0_sine_21 rfl hl (by decide) rfl (fun ls hl => ?_)
  refine bi_ldc (n := 40500) zx zb C0.2.2.2.1 (C0.2.2.2.2.1.w (gm 340 (by decide +kernel) rfl)) dX0_sine_22 ?_
  refine lv_iload_n zx zb dX0_sine_24 rfl (lv_at hl 0 rfl) ?_
  refine bi_sub zx zb dX0_sine_25 ?_
  refine lv_istore (lv' := [(4, .int (iI (40500 - P))), (3, .int (iI P)), (2, .int (iI (a % 360 % 180))), (1, .int (iI (a % 360))), (0, .int (iI a))]) zx zb dX0_sine_26 hl (by decide) rfl (fun ls hl => ?_)
  refine lv_iload zx zb dX0_sine_28 (lv_at hl 0 rfl) ?_
  refine bz_le (tgt := 44) zx zb dX0_sine_30 (by decide) ⟨by omega, by omega⟩ (fun zq30 => ?_) (fun zq30 => ?_)
  · exact absurd zq30 (by omega)
  · refine bi_sip (n := 4000) zx zb dX0_sine_33 (by decide) ?_
    refine lv_iload_n zx zb dX0_sine_36 rfl (lv_at hl 1 rfl) ?_
    refine bi_mul zx zb dX0_sine_37 ?_
    refine lv_iload zx zb dX0_sine_38 (lv_at hl 0 rfl) ?_
    refine bi_div zx zb dX0_sine_40 ⟨by omega, by omega⟩ ⟨by omega, by omega⟩ (by omega) ?_
    rw [td_p (show 0 ≤ 4000 * P by omega)]
    refine lv_goto (tgt := 45) zx zb dX0_sine_41 (by decide) ?_
    refine lv_istore (lv' := [(5, .int (iI ((4000 * P) / (40500 - P)))), (4, .int (iI (40500 - P))), (3, .int (iI P)), (2, .int (iI (a % 360 % 180))), (1, .int (iI (a % 360))), (0, .int (iI a))]) zx zb dX0_sine_45 hl (by decide) rfl (fun ls hl => ?_)
    refine lv_iload_n zx zb dX0_sine_47 rfl (lv_at hl 4 rfl) ?_
    refine bi_sip (n := 180) zx zb dX0_sine_48 (by decide) ?_
    refine bq_ge (tgt := 59) zx zb dX0_sine_51 (by decide) ⟨by omega, by omega⟩ ⟨by omega, by omega⟩ (fun zq51 => ?_) (fun zq51 => ?_)
    · refine lv_iload zx zb dX0_sine_59 (lv_at hl 0 rfl) ?_
      refine bi_neg zx zb dX0_sine_61 ?_
      exact retI C0 hret hlk hH (by simp only [sn, sh, ← hP]; split <;> first | rfl | omega) (rfl) dX0_sine_62
    · refine lv_iload zx zb dX0_sine_54 (lv_at hl 0 rfl) ?_
      refine lv_goto (tgt := 62) zx zb dX0_sine_56 (by decide) ?_
      exact retI C0 hret hlk hH (by simp only [sn, sh, ← hP]; split <;> first | rfl | omega) (rfl) dX0_sine_62
set_option maxRecDepth 100000 in
set_option maxHeartbeats 4000000 in
theorem c_X0_cosine (l : Launch) (g : gT) (S : gSt) (a : Int) (h0 : -2147483648 ≤ a ∧ a < 2147483000) : MetG l g yX0_cosine cX0_cosine 1 (some .int) 2 47 [.int (iI a)] S (some (.int (iI (cs a)))) S := by
  refine bodyG (by decide +kernel) (Nat.le_of_ble_eq_true rfl) ?_
  intro p e s m args below meth c ls C0 hret hlk hl hH
  have zx := C0.1
  have zb := C0.2.1
  have hl : lv_has ls 1 [(0, .int (iI a))] := hl
  obtain ⟨H, hHe⟩ : ∃ H : Heap, H = s.heap := ⟨_, rfl⟩
  rw [show (Hp g S s s.heap []) = Hp g S s H [] by rw [hHe]] at hH
  rw [← hHe]
  refine lv_iload_n zx zb dX0_cosine_0 rfl (lv_at hl 0 rfl) ?_
  refine bi_bip (n := 90) zx zb dX0_cosine_1 (by decide) ?_
  refine bi_add zx zb dX0_cosine_3 ?_
  refine csI (rest := []) (As := [.int (iI (a + 90))]) C0 hH (c_X0_sine l g S (a + 90) (by omega)) kw_X0_18 ky_X0_sine ⟨Nat.le_of_ble_eq_true rfl, Nat.le_of_ble_eq_true rfl⟩ ⟨Nat.zero_le _, Nat.zero_le _⟩ rfl hl.1 rfl (Nat.le_of_ble_eq_true rfl) dX0_cosine_4 (fun H locs hH => ?_)
  exact retI C0 hret hlk hH (by rfl) (rfl) dX0_cosine_7
set_option maxRecDepth 100000 in
set_option maxHeartbeats 4000000 in
theorem c_X2_heightAt (l : Launch) (g : gT) (S : gSt) (z lat t : Int) (hz : 0 ≤ z ∧ z < 24) (hlat : -90 ≤ lat ∧ lat ≤ 90) (ht : 0 ≤ t ∧ t ≤ 1000) (hC : okC (S 2) (S 3)) : MetG l g yX2_heightAt cX2_heightAt 7 (some .int) 3 67 [.ref (g.1 1), .int (iI z), .int (iI lat), .int (iI t)] S (some (.int (iI (hg lat (S 3 z) (t - S 2 z))))) S := by
  refine bodyG (by decide +kernel) (Nat.le_of_ble_eq_true rfl) ?_
  intro p e s m args below meth c ls C0 hret hlk hl hH
  have zx := C0.1
  have zb := C0.2.1
  have hl : lv_has ls 7 [(0, .ref (g.1 1)), (1, .int (iI z)), (2, .int (iI lat)), (3, .int (iI t))] := hl
  obtain ⟨H, hHe⟩ : ∃ H : Heap, H = s.heap := ⟨_, rfl⟩
  rw [show (Hp g S s s.heap []) = Hp g S s H [] by rw [hHe]] at hH
  rw [← hHe]
  have hc := hC z hz.1 hz.2
  refine lv_aload_n zx zb dX2_heightAt_0 rfl (lv_at hl 0 rfl) ?_
  refine gf_X2_15 C0 hH dX2_heightAt_1 ?_
  refine lv_iload_n zx zb dX2_heightAt_4 rfl (lv_at hl 1 rfl) ?_
  refine al_3 C0 hH (by omega) (by omega) dX2_heightAt_5 ?_
  refine lv_istore (lv' := [(4, .int (iI (S 3 z))), (0, .ref (g.1 1)), (1, .int (iI z)), (2, .int (iI lat)), (3, .int (iI t))]) zx zb dX2_heightAt_6 hl (by decide) rfl (fun ls hl => ?_)
  refine lv_iload_n zx zb dX2_heightAt_8 rfl (lv_at hl 3 rfl) ?_
  refine csI (rest := []) (As := [.int (iI lat)]) C0 hH (c_X0_sine l g S lat (by omega)) kw_X2_26 ky_X0_sine ⟨Nat.le_of_ble_eq_true rfl, Nat.le_of_ble_eq_true rfl⟩ ⟨Nat.zero_le _, Nat.zero_le _⟩ rfl hl.1 rfl (Nat.le_of_ble_eq_true rfl) dX2_heightAt_9 (fun H locs hH => ?_)
  refine lv_iload zx zb dX2_heightAt_12 (lv_at hl 0 rfl) ?_
  refine csI (rest := [.int (iI (sn lat))]) (As := [.int (iI (S 3 z))]) C0 hH (c_X0_sine l g S (S 3 z) (by omega)) kw_X2_26 ky_X0_sine ⟨Nat.le_of_ble_eq_true rfl, Nat.le_of_ble_eq_true rfl⟩ ⟨Nat.zero_le _, Nat.zero_le _⟩ rfl hl.1 rfl (Nat.le_of_ble_eq_true rfl) dX2_heightAt_14 (fun H locs hH => ?_)
  refine bi_mul zx zb dX2_heightAt_17 ?_
  refine lv_istore (lv' := [(5, .int (iI ((sn lat) * (sn (S 3 z))))), (4, .int (iI (S 3 z))), (0, .ref (g.1 1)), (1, .int (iI z)), (2, .int (iI lat)), (3, .int (iI t))]) zx zb dX2_heightAt_18 hl (by decide) rfl (fun ls hl => ?_)
  refine lv_iload_n zx zb dX2_heightAt_20 rfl (lv_at hl 4 rfl) ?_
  refine csI (rest := []) (As := [.int (iI lat)]) C0 hH (c_X0_cosine l g S lat (by omega)) kw_X2_32 ky_X0_cosine ⟨Nat.le_of_ble_eq_true rfl, Nat.le_of_ble_eq_true rfl⟩ ⟨Nat.zero_le _, Nat.zero_le _⟩ rfl hl.1 rfl (Nat.le_of_ble_eq_true rfl) dX2_heightAt_21 (fun H locs hH => ?_)
  refine lv_iload zx zb dX2_heightAt_24 (lv_at hl 1 rfl) ?_
  refine csI (rest := [.int (iI (cs lat))]) (As := [.int (iI (S 3 z))]) C0 hH (c_X0_cosine l g S (S 3 z) (by omega)) kw_X2_32 ky_X0_cosine ⟨Nat.le_of_ble_eq_true rfl, Nat.le_of_ble_eq_true rfl⟩ ⟨Nat.zero_le _, Nat.zero_le _⟩ rfl hl.1 rfl (Nat.le_of_ble_eq_true rfl) dX2_heightAt_26 (fun H locs hH => ?_)
  refine bi_mul zx zb dX2_heightAt_29 ?_
  refine lv_iload_n zx zb dX2_heightAt_30 rfl (lv_at hl 5 rfl) ?_
  refine lv_aload_n zx zb dX2_heightAt_31 rfl (lv_at hl 2 rfl) ?_
  refine gf_X2_9 C0 hH dX2_heightAt_32 ?_
  refine lv_iload_n zx zb dX2_heightAt_35 rfl (lv_at hl 3 rfl) ?_
  refine al_2 C0 hH (by omega) (by omega) dX2_heightAt_36 ?_
  refine bi_sub zx zb dX2_heightAt_37 ?_
  refine csI (rest := [.int (iI ((cs lat) * (cs (S 3 z))))]) (As := [.int (iI (t - (S 2 z)))]) C0 hH (c_X0_cosine l g S (t - (S 2 z)) (by omega)) kw_X2_32 ky_X0_cosine ⟨Nat.le_of_ble_eq_true rfl, Nat.le_of_ble_eq_true rfl⟩ ⟨Nat.zero_le _, Nat.zero_le _⟩ rfl hl.1 rfl (Nat.le_of_ble_eq_true rfl) dX2_heightAt_38 (fun H locs hH => ?_)
  refine bi_mul zx zb dX2_heightAt_41 ?_
  refine lv_istore (lv' := [(6, .int (iI (((cs lat) * (cs (S 3 z))) * (cs (t - (S 2 z)))))), (5, .int (iI ((sn lat) * (sn (S 3 z))))), (4, .int (iI (S 3 z))), (0, .ref (g.1 1)), (1, .int (iI z)), (2, .int (iI lat)), (3, .int (iI t))]) zx zb dX2_heightAt_42 hl (by decide) rfl (fun ls hl => ?_)
  have b1 := mul_b (sn_b lat) (sn_b (S 3 z)) (by decide) (by decide)
  have b2 := mul_b (cs_b lat) (cs_b (S 3 z)) (by decide) (by decide)
  have b3 := mul_b b2 (cs_b (t - S 2 z)) (by decide) (by decide)
  refine lv_iload zx zb dX2_heightAt_44 (lv_at hl 1 rfl) ?_
  refine lv_iload zx zb dX2_heightAt_46 (lv_at hl 0 rfl) ?_
  refine bi_sip (n := 1000) zx zb dX2_heightAt_48 (by decide) ?_
  refine csI (rest := [.int (iI ((sn lat) * (sn (S 3 z))))]) (As := [.int (iI (((cs lat) * (cs (S 3 z))) * (cs (t - (S 2 z))))), .int (iI 1000)]) C0 hH (c_J9_floorDiv_7cf53 l g S (((cs lat) * (cs (S 3 z))) * (cs (t - (S 2 z)))) (by omega)) kw_X2_35 ky_J9_floorDiv_7cf53 ⟨Nat.le_of_ble_eq_true rfl, Nat.le_of_ble_eq_true rfl⟩ ⟨Nat.zero_le _, Nat.zero_le _⟩ rfl hl.1 rfl (Nat.le_of_ble_eq_true rfl) dX2_heightAt_51 (fun H locs hH => ?_)
  refine bi_add zx zb dX2_heightAt_54 ?_
  refine bi_sip (n := 1000) zx zb dX2_heightAt_55 (by decide) ?_
  refine csI (rest := []) (As := [.int (iI (((sn lat) * (sn (S 3 z))) + ((((cs lat) * (cs (S 3 z))) * (cs (t - (S 2 z)))) / 1000))), .int (iI 1000)]) C0 hH (c_J9_floorDiv_7cf53 l g S (((sn lat) * (sn (S 3 z))) + ((((cs lat) * (cs (S 3 z))) * (cs (t - (S 2 z)))) / 1000)) (by omega)) kw_X2_35 ky_J9_floorDiv_7cf53 ⟨Nat.le_of_ble_eq_true rfl, Nat.le_of_ble_eq_true rfl⟩ ⟨Nat.zero_le _, Nat.zero_le _⟩ rfl hl.1 rfl (Nat.le_of_ble_eq_true rfl) dX2_heightAt_58 (fun H locs hH => ?_)
  exact retI C0 hret hlk hH (by rfl) (rfl) dX2_heightAt_61
