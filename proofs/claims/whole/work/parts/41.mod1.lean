set_option maxRecDepth 100000 in
set_option maxHeartbeats 4000000 in
theorem c_X7_thrown (l : Launch) (g : gT) (S : gSt)  : MetG l g yX7_thrown cX7_thrown 1 (some .int) 0 0 [.ref (g.1 23)] S (some (.int (iI (S 23 0)))) S := by
  refine bodyG (by decide +kernel) (Nat.le_of_ble_eq_true rfl) ?_
  intro p e s m args below meth c ls C0 hret hlk hl hH
  have zx := C0.1
  have zb := C0.2.1
  have hl : lv_has ls 1 [(0, .ref (g.1 23))] := hl
  obtain ⟨H, hHe⟩ : ∃ H : Heap, H = s.heap := ⟨_, rfl⟩
  rw [show (Hp g S s s.heap []) = Hp g S s H [] by rw [hHe]] at hH
  rw [← hHe]
  refine lv_aload_n zx zb dX7_thrown_0 rfl (lv_at hl 0 rfl) ?_
  refine gf_X7_37 C0 hH dX7_thrown_1 ?_
  exact retI C0 hret hlk hH (by rfl) (rfl) dX7_thrown_4
set_option maxRecDepth 100000 in
set_option maxHeartbeats 4000000 in
theorem c_X7_isFine (l : Launch) (g : gT) (S : gSt) (a : Int) (ha : 0 ≤ a ∧ a ≤ 3) : MetG l g yX7_isFine cX7_isFine 2 (some .boolean) 0 0 [.ref (g.1 23), .int (iI a)] S (some (.int (iI (if a = 0 then 1 else 0)))) (st S 23 0 a) := by
  refine bodyG (by decide +kernel) (Nat.le_of_ble_eq_true rfl) ?_
  intro p e s m args below meth c ls C0 hret hlk hl hH
  have zx := C0.1
  have zb := C0.2.1
  have hl : lv_has ls 2 [(0, .ref (g.1 23)), (1, .int (iI a))] := hl
  obtain ⟨H, hHe⟩ : ∃ H : Heap, H = s.heap := ⟨_, rfl⟩
  rw [show (Hp g S s s.heap []) = Hp g S s H [] by rw [hHe]] at hH
  rw [← hHe]
  refine lv_aload_n zx zb dX7_isFine_0 rfl (lv_at hl 0 rfl) ?_
  refine lv_iload_n zx zb dX7_isFine_1 rfl (lv_at hl 1 rfl) ?_
  refine pf_X7_37 C0 hH dX7_isFine_2 (fun H locs hH => ?_)
  refine lv_iload_n zx zb dX7_isFine_5 rfl (lv_at hl 1 rfl) ?_
  refine bz_ne (tgt := 13) zx zb dX7_isFine_6 (by decide) ⟨by omega, by omega⟩ (fun zq6 => ?_) (fun zq6 => ?_)
  · refine bi_const (n := 0) zx zb dX7_isFine_13 ?_
    exact retZ C0 hret hlk hH (by first | (rw [if_pos zq6]; done) | (rw [if_neg zq6]; done)) (by omega) (rfl) dX7_isFine_14
  · refine bi_const (n := 1) zx zb dX7_isFine_9 ?_
    refine lv_goto (tgt := 14) zx zb dX7_isFine_10 (by decide) ?_
    exact retZ C0 hret hlk hH (by first | (rw [if_pos zq6]; done) | (rw [if_neg zq6]; done)) (by omega) (rfl) dX7_isFine_14
set_option maxRecDepth 100000 in
set_option maxHeartbeats 4000000 in
theorem c_X7_isIn (l : Launch) (g : gT) (S : gSt) (v x y : Int) (hr_v : -2147483648 ≤ v ∧ v < 2147483648) (hr_x : -2147483648 ≤ x ∧ x < 2147483648) (hr_y : -2147483648 ≤ y ∧ y < 2147483648) : MetG l g yX7_isIn cX7_isIn 3 (some .boolean) 0 0 [.int (iI v), .int (iI x), .int (iI y)] S (some (.int (iI (if x ≤ v ∧ v ≤ y then 1 else 0)))) S := by
  refine bodyG (by decide +kernel) (Nat.le_of_ble_eq_true rfl) ?_
  intro p e s m args below meth c ls C0 hret hlk hl hH
  have zx := C0.1
  have zb := C0.2.1
  have hl : lv_has ls 3 [(0, .int (iI v)), (1, .int (iI x)), (2, .int (iI y))] := hl
  obtain ⟨H, hHe⟩ : ∃ H : Heap, H = s.heap := ⟨_, rfl⟩
  rw [show (Hp g S s s.heap []) = Hp g S s H [] by rw [hHe]] at hH
  rw [← hHe]
  refine lv_iload_n zx zb dX7_isIn_0 rfl (lv_at hl 0 rfl) ?_
  refine lv_iload_n zx zb dX7_isIn_1 rfl (lv_at hl 1 rfl) ?_
  refine bq_lt (tgt := 14) zx zb dX7_isIn_2 (by decide) ⟨by omega, by omega⟩ ⟨by omega, by omega⟩ (fun zq2 => ?_) (fun zq2 => ?_)
  · refine bi_const (n := 0) zx zb dX7_isIn_14 ?_
    exact retZ C0 hret hlk hH (by first | (rw [if_pos ⟨zq2, zq7⟩]; done) | (rw [if_neg (by omega)]; done)) (by omega) (rfl) dX7_isIn_15
  · refine lv_iload_n zx zb dX7_isIn_5 rfl (lv_at hl 0 rfl) ?_
    refine lv_iload_n zx zb dX7_isIn_6 rfl (lv_at hl 2 rfl) ?_
    refine bq_gt (tgt := 14) zx zb dX7_isIn_7 (by decide) ⟨by omega, by omega⟩ ⟨by omega, by omega⟩ (fun zq7 => ?_) (fun zq7 => ?_)
    · refine bi_const (n := 0) zx zb dX7_isIn_14 ?_
      exact retZ C0 hret hlk hH (by first | (rw [if_pos ⟨zq2, zq7⟩]; done) | (rw [if_neg (by omega)]; done)) (by omega) (rfl) dX7_isIn_15
    · refine bi_const (n := 1) zx zb dX7_isIn_10 ?_
      refine lv_goto (tgt := 15) zx zb dX7_isIn_11 (by decide) ?_
      exact retZ C0 hret hlk hH (by first | (rw [if_pos ⟨zq2, zq7⟩]; done) | (rw [if_neg (by omega)]; done)) (by omega) (rfl) dX7_isIn_15
set_option maxRecDepth 100000 in
set_option maxHeartbeats 4000000 in
theorem c_X7_isStar (l : Launch) (g : gT) (S : gSt) (a : Int) (hr_a : -2147483648 ≤ a ∧ a < 2147483648) (hn1 : 0 ≤ S 23 3 ∧ S 23 3 ≤ 24) : MetG l g yX7_isStar cX7_isStar 2 (some .boolean) 1 22 [.ref (g.1 23), .int (iI a)] S (some (.int (iI (if 0 ≤ a ∧ a < S 23 3 then 1 else 0)))) S := by
  refine bodyG (by decide +kernel) (Nat.le_of_ble_eq_true rfl) ?_
  intro p e s m args below meth c ls C0 hret hlk hl hH
  have zx := C0.1
  have zb := C0.2.1
  have hl : lv_has ls 2 [(0, .ref (g.1 23)), (1, .int (iI a))] := hl
  obtain ⟨H, hHe⟩ : ∃ H : Heap, H = s.heap := ⟨_, rfl⟩
  rw [show (Hp g S s s.heap []) = Hp g S s H [] by rw [hHe]] at hH
  rw [← hHe]
  refine lv_iload_n zx zb dX7_isStar_0 rfl (lv_at hl 1 rfl) ?_
  refine bi_const (n := 0) zx zb dX7_isStar_1 ?_
  refine lv_aload_n zx zb dX7_isStar_2 rfl (lv_at hl 0 rfl) ?_
  refine gf_X7_41 C0 hH dX7_isStar_3 ?_
  refine bi_const (n := 1) zx zb dX7_isStar_6 ?_
  refine bi_sub zx zb dX7_isStar_7 ?_
  refine csI (rest := []) (As := [.int (iI a), .int (iI 0), .int (iI ((S 23 3) - 1))]) C0 hH (c_X7_isIn l g S a 0 ((S 23 3) - 1) (by omega) (by omega) (by omega)) kw_X7_44 ky_X7_isIn ⟨Nat.le_of_ble_eq_true rfl, Nat.le_of_ble_eq_true rfl⟩ ⟨Nat.zero_le _, Nat.zero_le _⟩ rfl hl.1 rfl (Nat.le_of_ble_eq_true rfl) dX7_isStar_8 (fun H locs hH => ?_)
  exact retZ C0 hret hlk hH (by split <;> split <;> omega) (by have := prg (0 ≤ a ∧ a ≤ S 23 3 - 1); omega) (rfl) dX7_isStar_11
set_option maxRecDepth 100000 in
set_option maxHeartbeats 4000000 in
theorem c_X7_isFigure (l : Launch) (g : gT) (S : gSt) (a : Int) (hr_a : -2147483648 ≤ a ∧ a < 2147483648) (hnf : 0 ≤ S 23 7 ∧ S 23 7 ≤ 8) : MetG l g yX7_isFigure cX7_isFigure 2 (some .boolean) 1 22 [.ref (g.1 23), .int (iI a)] S (some (.int (iI (if 0 ≤ a ∧ a < S 23 7 then 1 else 0)))) S := by
  refine bodyG (by decide +kernel) (Nat.le_of_ble_eq_true rfl) ?_
  intro p e s m args below meth c ls C0 hret hlk hl hH
  have zx := C0.1
  have zb := C0.2.1
  have hl : lv_has ls 2 [(0, .ref (g.1 23)), (1, .int (iI a))] := hl
  obtain ⟨H, hHe⟩ : ∃ H : Heap, H = s.heap := ⟨_, rfl⟩
  rw [show (Hp g S s s.heap []) = Hp g S s H [] by rw [hHe]] at hH
  rw [← hHe]
  refine lv_iload_n zx zb dX7_isFigure_0 rfl (lv_at hl 1 rfl) ?_
  refine bi_const (n := 0) zx zb dX7_isFigure_1 ?_
  refine lv_aload_n zx zb dX7_isFigure_2 rfl (lv_at hl 0 rfl) ?_
  refine gf_X7_48 C0 hH dX7_isFigure_3 ?_
  refine bi_const (n := 1) zx zb dX7_isFigure_6 ?_
  refine bi_sub zx zb dX7_isFigure_7 ?_
  refine csI (rest := []) (As := [.int (iI a), .int (iI 0), .int (iI ((S 23 7) - 1))]) C0 hH (c_X7_isIn l g S a 0 ((S 23 7) - 1) (by omega) (by omega) (by omega)) kw_X7_44 ky_X7_isIn ⟨Nat.le_of_ble_eq_true rfl, Nat.le_of_ble_eq_true rfl⟩ ⟨Nat.zero_le _, Nat.zero_le _⟩ rfl hl.1 rfl (Nat.le_of_ble_eq_true rfl) dX7_isFigure_8 (fun H locs hH => ?_)
  exact retZ C0 hret hlk hH (by split <;> split <;> omega) (by have := prg (0 ≤ a ∧ a ≤ S 23 7 - 1); omega) (rfl) dX7_isFigure_11
set_option maxRecDepth 100000 in
set_option maxHeartbeats 4000000 in
theorem c_X7_isPlace (l : Launch) (g : gT) (S : gSt) (a u : Int) (hr_a : -2147483648 ≤ a ∧ a < 2147483648) (hr_u : -2147483648 ≤ u ∧ u < 2147483648) : MetG l g yX7_isPlace cX7_isPlace 2 (some .boolean) 1 22 [.int (iI a), .int (iI u)] S (some (.int (iI (if (0 ≤ a ∧ a < 360) ∧ (-90 ≤ u ∧ u ≤ 90) then 1 else 0)))) S := by
  refine bodyG (by decide +kernel) (Nat.le_of_ble_eq_true rfl) ?_
  intro p e s m args below meth c ls C0 hret hlk hl hH
  have zx := C0.1
  have zb := C0.2.1
  have hl : lv_has ls 2 [(0, .int (iI a)), (1, .int (iI u))] := hl
  obtain ⟨H, hHe⟩ : ∃ H : Heap, H = s.heap := ⟨_, rfl⟩
  rw [show (Hp g S s s.heap []) = Hp g S s H [] by rw [hHe]] at hH
  rw [← hHe]
  refine lv_iload_n zx zb dX7_isPlace_0 rfl (lv_at hl 0 rfl) ?_
  refine bi_const (n := 0) zx zb dX7_isPlace_1 ?_
  refine bi_sip (n := 359) zx zb dX7_isPlace_2 (by decide) ?_
  refine csI (rest := []) (As := [.int (iI a), .int (iI 0), .int (iI 359)]) C0 hH (c_X7_isIn l g S a 0 359 (by omega) (by omega) (by omega)) kw_X7_44 ky_X7_isIn ⟨Nat.le_of_ble_eq_true rfl, Nat.le_of_ble_eq_true rfl⟩ ⟨Nat.zero_le _, Nat.zero_le _⟩ rfl hl.1 rfl (Nat.le_of_ble_eq_true rfl) dX7_isPlace_5 (fun H locs hH => ?_)
  have hb8 := prg (0 ≤ a ∧ a ≤ 359)
  refine bz_eq (tgt := 26) zx zb dX7_isPlace_8 (by decide) ⟨by omega, by omega⟩ (fun zq8 => ?_) (fun zq8 => ?_)
  · refine bi_const (n := 0) zx zb dX7_isPlace_26 ?_
    exact retZ C0 hret hlk hH (by first | (have h1 := p0 zq8; rw [if_neg (by omega)]; done) | (have h1 := p0 zq19; rw [if_neg (by omega)]; done) | (have h1 := p1 zq8; have h2 := p1 zq19; rw [if_pos (by omega)]; done)) (by omega) (rfl) dX7_isPlace_27
  · refine lv_iload_n zx zb dX7_isPlace_11 rfl (lv_at hl 1 rfl) ?_
    refine bi_bip (n := (-90)) zx zb dX7_isPlace_12 (by decide) ?_
    refine bi_bip (n := 90) zx zb dX7_isPlace_14 (by decide) ?_
    refine csI (rest := []) (As := [.int (iI u), .int (iI (-90)), .int (iI 90)]) C0 hH (c_X7_isIn l g S u (-90) 90 (by omega) (by omega) (by omega)) kw_X7_44 ky_X7_isIn ⟨Nat.le_of_ble_eq_true rfl, Nat.le_of_ble_eq_true rfl⟩ ⟨Nat.zero_le _, Nat.zero_le _⟩ rfl hl.1 rfl (Nat.le_of_ble_eq_true rfl) dX7_isPlace_16 (fun H locs hH => ?_)
    have hb19 := prg (-90 ≤ u ∧ u ≤ 90)
    refine bz_eq (tgt := 26) zx zb dX7_isPlace_19 (by decide) ⟨by omega, by omega⟩ (fun zq19 => ?_) (fun zq19 => ?_)
    · refine bi_const (n := 0) zx zb dX7_isPlace_26 ?_
      exact retZ C0 hret hlk hH (by first | (have h1 := p0 zq8; rw [if_neg (by omega)]; done) | (have h1 := p0 zq19; rw [if_neg (by omega)]; done) | (have h1 := p1 zq8; have h2 := p1 zq19; rw [if_pos (by omega)]; done)) (by omega) (rfl) dX7_isPlace_27
    · refine bi_const (n := 1) zx zb dX7_isPlace_22 ?_
      refine lv_goto (tgt := 27) zx zb dX7_isPlace_23 (by decide) ?_
      exact retZ C0 hret hlk hH (by first | (have h1 := p0 zq8; rw [if_neg (by omega)]; done) | (have h1 := p0 zq19; rw [if_neg (by omega)]; done) | (have h1 := p1 zq8; have h2 := p1 zq19; rw [if_pos (by omega)]; done)) (by omega) (rfl) dX7_isPlace_27
set_option maxRecDepth 100000 in
set_option maxHeartbeats 4000000 in
theorem c_X7_isTime (l : Launch) (g : gT) (S : gSt) (lat d h : Int) (hr_lat : -2147483648 ≤ lat ∧ lat < 2147483648) (hr_d : -2147483648 ≤ d ∧ d < 2147483648) (hr_h : -2147483648 ≤ h ∧ h < 2147483648) : MetG l g yX7_isTime cX7_isTime 3 (some .boolean) 1 22 [.int (iI lat), .int (iI d), .int (iI h)] S (some (.int (iI (if (-90 ≤ lat ∧ lat ≤ 90) ∧ (0 ≤ d ∧ d < 365) ∧ (0 ≤ h ∧ h < 24) then 1 else 0)))) S := by
  refine bodyG (by decide +kernel) (Nat.le_of_ble_eq_true rfl) ?_
  intro p e s m args below meth c ls C0 hret hlk hl hH
  have zx := C0.1
  have zb := C0.2.1
  have hl : lv_has ls 3 [(0, .int (iI lat)), (1, .int (iI d)), (2, .int (iI h))] := hl
  obtain ⟨H, hHe⟩ : ∃ H : Heap, H = s.heap := ⟨_, rfl⟩
  rw [show (Hp g S s s.heap []) = Hp g S s H [] by rw [hHe]] at hH
  rw [← hHe]
  refine lv_iload_n zx zb dX7_isTime_0 rfl (lv_at hl 0 rfl) ?_
  refine bi_bip (n := (-90)) zx zb dX7_isTime_1 (by decide) ?_
  refine bi_bip (n := 90) zx zb dX7_isTime_3 (by decide) ?_
  refine csI (rest := []) (As := [.int (iI lat), .int (iI (-90)), .int (iI 90)]) C0 hH (c_X7_isIn l g S lat (-90) 90 (by omega) (by omega) (by omega)) kw_X7_44 ky_X7_isIn ⟨Nat.le_of_ble_eq_true rfl, Nat.le_of_ble_eq_true rfl⟩ ⟨Nat.zero_le _, Nat.zero_le _⟩ rfl hl.1 rfl (Nat.le_of_ble_eq_true rfl) dX7_isTime_5 (fun H locs hH => ?_)
  have hb8 := prg (-90 ≤ lat ∧ lat ≤ 90)
  refine bz_eq (tgt := 36) zx zb dX7_isTime_8 (by decide) ⟨by omega, by omega⟩ (fun zq8 => ?_) (fun zq8 => ?_)
  · refine bi_const (n := 0) zx zb dX7_isTime_36 ?_
    exact retZ C0 hret hlk hH (by first | (have h1 := p0 zq8; rw [if_neg (by omega)]; done) | (have h1 := p0 zq19; rw [if_neg (by omega)]; done) | (have h1 := p0 zq29; rw [if_neg (by omega)]; done) | (have h1 := p1 zq8; have h2 := p1 zq19; have h3 := p1 zq29; rw [if_pos (by omega)]; done)) (by omega) (rfl) dX7_isTime_37
  · refine lv_iload_n zx zb dX7_isTime_11 rfl (lv_at hl 1 rfl) ?_
    refine bi_const (n := 0) zx zb dX7_isTime_12 ?_
    refine bi_sip (n := 364) zx zb dX7_isTime_13 (by decide) ?_
    refine csI (rest := []) (As := [.int (iI d), .int (iI 0), .int (iI 364)]) C0 hH (c_X7_isIn l g S d 0 364 (by omega) (by omega) (by omega)) kw_X7_44 ky_X7_isIn ⟨Nat.le_of_ble_eq_true rfl, Nat.le_of_ble_eq_true rfl⟩ ⟨Nat.zero_le _, Nat.zero_le _⟩ rfl hl.1 rfl (Nat.le_of_ble_eq_true rfl) dX7_isTime_16 (fun H locs hH => ?_)
    have hb19 := prg (0 ≤ d ∧ d ≤ 364)
    refine bz_eq (tgt := 36) zx zb dX7_isTime_19 (by decide) ⟨by omega, by omega⟩ (fun zq19 => ?_) (fun zq19 => ?_)
    · refine bi_const (n := 0) zx zb dX7_isTime_36 ?_
      exact retZ C0 hret hlk hH (by first | (have h1 := p0 zq8; rw [if_neg (by omega)]; done) | (have h1 := p0 zq19; rw [if_neg (by omega)]; done) | (have h1 := p0 zq29; rw [if_neg (by omega)]; done) | (have h1 := p1 zq8; have h2 := p1 zq19; have h3 := p1 zq29; rw [if_pos (by omega)]; done)) (by omega) (rfl) dX7_isTime_37
    · refine lv_iload_n zx zb dX7_isTime_22 rfl (lv_at hl 2 rfl) ?_
      refine bi_const (n := 0) zx zb dX7_isTime_23 ?_
      refine bi_bip (n := 23) zx zb dX7_isTime_24 (by decide) ?_
      refine csI (rest := []) (As := [.int (iI h), .int (iI 0), .int (iI 23)]) C0 hH (c_X7_isIn l g S h 0 23 (by omega) (by omega) (by omega)) kw_X7_44 ky_X7_isIn ⟨Nat.le_of_ble_eq_true rfl, Nat.le_of_ble_eq_true rfl⟩ ⟨Nat.zero_le _, Nat.zero_le _⟩ rfl hl.1 rfl (Nat.le_of_ble_eq_true rfl) dX7_isTime_26 (fun H locs hH => ?_)
      have hb29 := prg (0 ≤ h ∧ h ≤ 23)
      refine bz_eq (tgt := 36) zx zb dX7_isTime_29 (by decide) ⟨by omega, by omega⟩ (fun zq29 => ?_) (fun zq29 => ?_)
      · refine bi_const (n := 0) zx zb dX7_isTime_36 ?_
        exact retZ C0 hret hlk hH (by first | (have h1 := p0 zq8; rw [if_neg (by omega)]; done) | (have h1 := p0 zq19; rw [if_neg (by omega)]; done) | (have h1 := p0 zq29; rw [if_neg (by omega)]; done) | (have h1 := p1 zq8; have h2 := p1 zq19; have h3 := p1 zq29; rw [if_pos (by omega)]; done)) (by omega) (rfl) dX7_isTime_37
      · refine bi_const (n := 1) zx zb dX7_isTime_32 ?_
        refine lv_goto (tgt := 37) zx zb dX7_isTime_33 (by decide) ?_
        exact retZ C0 hret hlk hH (by first | (have h1 := p0 zq8; rw [if_neg (by omega)]; done) | (have h1 := p0 zq19; rw [if_neg (by omega)]; done) | (have h1 := p0 zq29; rw [if_neg (by omega)]; done) | (have h1 := p1 zq8; have h2 := p1 zq19; have h3 := p1 zq29; rw [if_pos (by omega)]; done)) (by omega) (rfl) dX7_isTime_37
set_option maxRecDepth 100000 in
set_option maxHeartbeats 4000000 in
theorem c_X7_notes (l : Launch) (g : gT) (S : gSt) (w a b x y : Int) (hdn : 0 ≤ S 23 13 ∧ S 23 13 ≤ 30) : MetG l g yX7_notes cX7_notes 7 none 0 0 [.ref (g.1 23), .int (iI w), .int (iI a), .int (iI b), .int (iI x), .int (iI y)] S none (ntS S w a b x y) := by
  refine bodyG (by decide +kernel) (Nat.le_of_ble_eq_true rfl) ?_
  intro p e s m args below meth c ls C0 hret hlk hl hH
  have zx := C0.1
  have zb := C0.2.1
  have hl : lv_has ls 7 [(0, .ref (g.1 23)), (1, .int (iI w)), (2, .int (iI a)), (3, .int (iI b)), (4, .int (iI x)), (5, .int (iI y))] := hl
  have L22 : ∀ (μ : Nat) (i : Int), (145 - i).toNat = μ → (S 23 13 = 30) → (0 ≤ i ∧ i ≤ 145) → ∀ (H : Heap) (locs : List Loc), Hp g (sA (st S 23 13 (S 23 13 - 1)) 32 (shI i (S 32))) s H locs → ∀ ls : Array Slot, lv_has ls 7 [(0, .ref (g.1 23)), (1, .int (iI w)), (2, .int (iI a)), (3, .int (iI b)), (4, .int (iI x)), (5, .int (iI y)), (6, .int (iI i))] → W p l e { frames := 0, cells := 0, slots := 0, locals := 0 } s m args below meth c H locs 0 0 (MQ below (RetG g none (ntS S w a b x y)) args s 0 0 (oA g)) (F0 m 22 ls []) := by
    refine lpN (fun μ22 ih22 => ?_)
    intro i hμ22 h30 hi H locs hH ls hl
    refine lv_iload zx zb dX7_notes_22 (lv_at hl 6 rfl) ?_
    refine bi_const (n := 5) zx zb dX7_notes_24 ?_
    refine lv_aload_n zx zb dX7_notes_25 rfl (lv_at hl 0 rfl) ?_
    refine gf_X7_59 C0 hH dX7_notes_26 ?_
    show W p l e _ s m args below meth c H _ _ _ _ (F0 m 29 ls [.int (iI (S 23 13 - 1)), .int (iI 5), .int (iI i)])
    refine bi_mul zx zb dX7_notes_29 ?_
    refine bq_ge (tgt := 55) zx zb dX7_notes_30 (by decide) ⟨by omega, by omega⟩ ⟨by omega, by omega⟩ (fun zq30 => ?_) (fun zq30 => ?_)
    · refine lv_aload_n zx zb dX7_notes_55 rfl (lv_at hl 0 rfl) ?_
      refine gf_X7_34 C0 hH dX7_notes_56 ?_
      refine bi_const (n := 5) zx zb dX7_notes_59 ?_
      refine lv_aload_n zx zb dX7_notes_60 rfl (lv_at hl 0 rfl) ?_
      refine gf_X7_59 C0 hH dX7_notes_61 ?_
      show W p l e _ s m args below meth c H _ _ _ _ (F0 m 64 ls [.int (iI (S 23 13 - 1)), .int (iI 5), .ref (g.1 32)])
      refine bi_mul zx zb dX7_notes_64 ?_
      refine lv_iload_n zx zb dX7_notes_65 rfl (lv_at hl 1 rfl) ?_
      refine as_32 C0 hH (by omega) (by omega) dX7_notes_66 (fun H locs hH => ?_)
      refine lv_aload_n zx zb dX7_notes_67 rfl (lv_at hl 0 rfl) ?_
      refine gf_X7_34 C0 hH dX7_notes_68 ?_
      refine bi_const (n := 5) zx zb dX7_notes_71 ?_
      refine lv_aload_n zx zb dX7_notes_72 rfl (lv_at hl 0 rfl) ?_
      refine gf_X7_59 C0 hH dX7_notes_73 ?_
      show W p l e _ s m args below meth c H _ _ _ _ (F0 m 76 ls [.int (iI (S 23 13 - 1)), .int (iI 5), .ref (g.1 32)])
      refine bi_mul zx zb dX7_notes_76 ?_
      refine bi_const (n := 1) zx zb dX7_notes_77 ?_
      refine bi_add zx zb dX7_notes_78 ?_
      refine lv_iload_n zx zb dX7_notes_79 rfl (lv_at hl 2 rfl) ?_
      refine as_32 C0 hH (by omega) (by omega) dX7_notes_80 (fun H locs hH => ?_)
      refine lv_aload_n zx zb dX7_notes_81 rfl (lv_at hl 0 rfl) ?_
      refine gf_X7_34 C0 hH dX7_notes_82 ?_
      refine bi_const (n := 5) zx zb dX7_notes_85 ?_
      refine lv_aload_n zx zb dX7_notes_86 rfl (lv_at hl 0 rfl) ?_
      refine gf_X7_59 C0 hH dX7_notes_87 ?_
      show W p l e _ s m args below meth c H _ _ _ _ (F0 m 90 ls [.int (iI (S 23 13 - 1)), .int (iI 5), .ref (g.1 32)])
      refine bi_mul zx zb dX7_notes_90 ?_
      refine bi_const (n := 2) zx zb dX7_notes_91 ?_
      refine bi_add zx zb dX7_notes_92 ?_
      refine lv_iload_n zx zb dX7_notes_93 rfl (lv_at hl 3 rfl) ?_
      refine as_32 C0 hH (by omega) (by omega) dX7_notes_94 (fun H locs hH => ?_)
      refine lv_aload_n zx zb dX7_notes_95 rfl (lv_at hl 0 rfl) ?_
      refine gf_X7_34 C0 hH dX7_notes_96 ?_
      refine bi_const (n := 5) zx zb dX7_notes_99 ?_
      refine lv_aload_n zx zb dX7_notes_100 rfl (lv_at hl 0 rfl) ?_
      refine gf_X7_59 C0 hH dX7_notes_101 ?_
      show W p l e _ s m args below meth c H _ _ _ _ (F0 m 104 ls [.int (iI (S 23 13 - 1)), .int (iI 5), .ref (g.1 32)])
      refine bi_mul zx zb dX7_notes_104 ?_
      refine bi_const (n := 3) zx zb dX7_notes_105 ?_
      refine bi_add zx zb dX7_notes_106 ?_
      refine lv_iload zx zb dX7_notes_107 (lv_at hl 4 rfl) ?_
      refine as_32 C0 hH (by omega) (by omega) dX7_notes_109 (fun H locs hH => ?_)
      refine lv_aload_n zx zb dX7_notes_110 rfl (lv_at hl 0 rfl) ?_
      refine gf_X7_34 C0 hH dX7_notes_111 ?_
      refine bi_const (n := 5) zx zb dX7_notes_114 ?_
      refine lv_aload_n zx zb dX7_notes_115 rfl (lv_at hl 0 rfl) ?_
      refine gf_X7_59 C0 hH dX7_notes_116 ?_
      show W p l e _ s m args below meth c H _ _ _ _ (F0 m 119 ls [.int (iI (S 23 13 - 1)), .int (iI 5), .ref (g.1 32)])
      refine bi_mul zx zb dX7_notes_119 ?_
      refine bi_const (n := 4) zx zb dX7_notes_120 ?_
      refine bi_add zx zb dX7_notes_121 ?_
      refine lv_iload zx zb dX7_notes_122 (lv_at hl 5 rfl) ?_
      refine as_32 C0 hH (by omega) (by omega) dX7_notes_124 (fun H locs hH => ?_)
      refine lv_aload_n zx zb dX7_notes_125 rfl (lv_at hl 0 rfl) ?_
      refine lv_dup zx zb dX7_notes_126 rfl ?_
      refine gf_X7_59 C0 hH dX7_notes_127 ?_
      show W p l e _ s m args below meth c H _ _ _ _ (F0 m 130 ls [.int (iI (S 23 13 - 1)), .ref (g.1 23)])
      refine bi_const (n := 1) zx zb dX7_notes_130 ?_
      refine bi_add zx zb dX7_notes_131 ?_
      refine pf_X7_59 C0 hH dX7_notes_132 (fun H locs hH => ?_)
      exact retV C0 hret hlk hH (by unfold ntS; first | (rw [ntT_0 zq6, if_neg zq6]; rfl) | (have hz : i = 145 := (by omega); subst hz; rw [ntT_1 h30, if_pos h30, show S 23 13 - 1 = 29 by omega]; rfl)) dX7_notes_135
    · have hlt : i < 145 := by omega
      refine lv_aload_n zx zb dX7_notes_33 rfl (lv_at hl 0 rfl) ?_
      refine gf_X7_34 C0 hH dX7_notes_34 ?_
      refine lv_iload zx zb dX7_notes_37 (lv_at hl 6 rfl) ?_
      refine lv_aload_n zx zb dX7_notes_39 rfl (lv_at hl 0 rfl) ?_
      refine gf_X7_34 C0 hH dX7_notes_40 ?_
      refine lv_iload zx zb dX7_notes_43 (lv_at hl 6 rfl) ?_
      refine bi_const (n := 5) zx zb dX7_notes_45 ?_
      refine bi_add zx zb dX7_notes_46 ?_
      refine al_32 C0 hH (by omega) (by omega) dX7_notes_47 ?_
      show W p l e _ s m args below meth c H _ _ _ _ (F0 m 48 ls [.int (iI ((sA (st S 23 13 (S 23 13 - 1)) 32 (shI i (S 32))) 32 (i + 5))), .int (iI i), .ref (g.1 32)])
      refine as_32 C0 hH (by omega) (by omega) dX7_notes_48 (fun H locs hH => ?_)
      refine bi_inc (k0 := 6) (n := 1) (lv' := [(6, .int (iI (i + 1))), (0, .ref (g.1 23)), (1, .int (iI w)), (2, .int (iI a)), (3, .int (iI b)), (4, .int (iI x)), (5, .int (iI y))]) zx zb dX7_notes_49 hl rfl (by decide) rfl (fun ls hl => ?_)
      refine lv_goto (tgt := 22) zx zb dX7_notes_52 (by decide) ?_
      exact ih22 ((145 - (i + 1)).toNat) (by omega) (i + 1) rfl (by omega) (by omega) _ _ (hp_eq (by rw [st_sA, sA_sA, sA_s, shI_s _ hi.1]) hH) ls (lv_sub hl [1, 2, 3, 4, 5, 6, 0] rfl)
  obtain ⟨H, hHe⟩ : ∃ H : Heap, H = s.heap := ⟨_, rfl⟩
  rw [show (Hp g S s s.heap []) = Hp g S s H [] by rw [hHe]] at hH
  rw [← hHe]
  refine lv_aload_n zx zb dX7_notes_0 rfl (lv_at hl 0 rfl) ?_
  refine gf_X7_59 C0 hH dX7_notes_1 ?_
  refine bi_bip (n := 30) zx zb dX7_notes_4 (by decide) ?_
  refine bq_ne (tgt := 55) zx zb dX7_notes_6 (by decide) ⟨by omega, by omega⟩ ⟨by omega, by omega⟩ (fun zq6 => ?_) (fun zq6 => ?_)
  · refine lv_aload_n zx zb dX7_notes_55 rfl (lv_at hl 0 rfl) ?_
    refine gf_X7_34 C0 hH dX7_notes_56 ?_
    refine bi_const (n := 5) zx zb dX7_notes_59 ?_
    refine lv_aload_n zx zb dX7_notes_60 rfl (lv_at hl 0 rfl) ?_
    refine gf_X7_59 C0 hH dX7_notes_61 ?_
    refine bi_mul zx zb dX7_notes_64 ?_
    refine lv_iload_n zx zb dX7_notes_65 rfl (lv_at hl 1 rfl) ?_
    refine as_32 C0 hH (by omega) (by omega) dX7_notes_66 (fun H locs hH => ?_)
    refine lv_aload_n zx zb dX7_notes_67 rfl (lv_at hl 0 rfl) ?_
    refine gf_X7_34 C0 hH dX7_notes_68 ?_
    refine bi_const (n := 5) zx zb dX7_notes_71 ?_
    refine lv_aload_n zx zb dX7_notes_72 rfl (lv_at hl 0 rfl) ?_
    refine gf_X7_59 C0 hH dX7_notes_73 ?_
    show W p l e _ s m args below meth c H _ _ _ _ (F0 m 76 ls [.int (iI (S 23 13)), .int (iI 5), .ref (g.1 32)])
    refine bi_mul zx zb dX7_notes_76 ?_
    refine bi_const (n := 1) zx zb dX7_notes_77 ?_
    refine bi_add zx zb dX7_notes_78 ?_
    refine lv_iload_n zx zb dX7_notes_79 rfl (lv_at hl 2 rfl) ?_
    refine as_32 C0 hH (by omega) (by omega) dX7_notes_80 (fun H locs hH => ?_)
    refine lv_aload_n zx zb dX7_notes_81 rfl (lv_at hl 0 rfl) ?_
    refine gf_X7_34 C0 hH dX7_notes_82 ?_
    refine bi_const (n := 5) zx zb dX7_notes_85 ?_
    refine lv_aload_n zx zb dX7_notes_86 rfl (lv_at hl 0 rfl) ?_
    refine gf_X7_59 C0 hH dX7_notes_87 ?_
    show W p l e _ s m args below meth c H _ _ _ _ (F0 m 90 ls [.int (iI (S 23 13)), .int (iI 5), .ref (g.1 32)])
    refine bi_mul zx zb dX7_notes_90 ?_
    refine bi_const (n := 2) zx zb dX7_notes_91 ?_
    refine bi_add zx zb dX7_notes_92 ?_
    refine lv_iload_n zx zb dX7_notes_93 rfl (lv_at hl 3 rfl) ?_
    refine as_32 C0 hH (by omega) (by omega) dX7_notes_94 (fun H locs hH => ?_)
    refine lv_aload_n zx zb dX7_notes_95 rfl (lv_at hl 0 rfl) ?_
    refine gf_X7_34 C0 hH dX7_notes_96 ?_
    refine bi_const (n := 5) zx zb dX7_notes_99 ?_
    refine lv_aload_n zx zb dX7_notes_100 rfl (lv_at hl 0 rfl) ?_
    refine gf_X7_59 C0 hH dX7_notes_101 ?_
    show W p l e _ s m args below meth c H _ _ _ _ (F0 m 104 ls [.int (iI (S 23 13)), .int (iI 5), .ref (g.1 32)])
    refine bi_mul zx zb dX7_notes_104 ?_
    refine bi_const (n := 3) zx zb dX7_notes_105 ?_
    refine bi_add zx zb dX7_notes_106 ?_
    refine lv_iload zx zb dX7_notes_107 (lv_at hl 4 rfl) ?_
    refine as_32 C0 hH (by omega) (by omega) dX7_notes_109 (fun H locs hH => ?_)
    refine lv_aload_n zx zb dX7_notes_110 rfl (lv_at hl 0 rfl) ?_
    refine gf_X7_34 C0 hH dX7_notes_111 ?_
    refine bi_const (n := 5) zx zb dX7_notes_114 ?_
    refine lv_aload_n zx zb dX7_notes_115 rfl (lv_at hl 0 rfl) ?_
    refine gf_X7_59 C0 hH dX7_notes_116 ?_
    show W p l e _ s m args below meth c H _ _ _ _ (F0 m 119 ls [.int (iI (S 23 13)), .int (iI 5), .ref (g.1 32)])
    refine bi_mul zx zb dX7_notes_119 ?_
    refine bi_const (n := 4) zx zb dX7_notes_120 ?_
    refine bi_add zx zb dX7_notes_121 ?_
    refine lv_iload zx zb dX7_notes_122 (lv_at hl 5 rfl) ?_
    refine as_32 C0 hH (by omega) (by omega) dX7_notes_124 (fun H locs hH => ?_)
    refine lv_aload_n zx zb dX7_notes_125 rfl (lv_at hl 0 rfl) ?_
    refine lv_dup zx zb dX7_notes_126 rfl ?_
    refine gf_X7_59 C0 hH dX7_notes_127 ?_
    show W p l e _ s m args below meth c H _ _ _ _ (F0 m 130 ls [.int (iI (S 23 13)), .ref (g.1 23)])
    refine bi_const (n := 1) zx zb dX7_notes_130 ?_
    refine bi_add zx zb dX7_notes_131 ?_
    refine pf_X7_59 C0 hH dX7_notes_132 (fun H locs hH => ?_)
    exact retV C0 hret hlk hH (by unfold ntS; first | (rw [ntT_0 zq6, if_neg zq6]; rfl) | (have hz : i = 145 := (by omega); subst hz; rw [ntT_1 h30, if_pos h30, show S 23 13 - 1 = 29 by omega]; rfl)) dX7_notes_135
  · refine lv_aload_n zx zb dX7_notes_9 rfl (lv_at hl 0 rfl) ?_
    refine lv_dup zx zb dX7_notes_10 rfl ?_
    refine gf_X7_59 C0 hH dX7_notes_11 ?_
    refine bi_const (n := 1) zx zb dX7_notes_14 ?_
    refine bi_sub zx zb dX7_notes_15 ?_
    refine pf_X7_59 C0 hH dX7_notes_16 (fun H locs hH => ?_)
    refine bi_const (n := 0) zx zb dX7_notes_19 ?_
    refine lv_istore (lv' := [(6, .int (iI 0)), (0, .ref (g.1 23)), (1, .int (iI w)), (2, .int (iI a)), (3, .int (iI b)), (4, .int (iI x)), (5, .int (iI y))]) zx zb dX7_notes_20 hl (by decide) rfl (fun ls hl => ?_)
    exact L22 _ 0 rfl (by omega) (by omega) _ _ (hp_eq (by rw [shI_0]; exact (sA_id _ 32).symm) hH) ls (lv_sub hl [1, 2, 3, 4, 5, 6, 0] rfl)
set_option maxRecDepth 100000 in
set_option maxHeartbeats 4000000 in
theorem c_X7_isOf (l : Launch) (g : gT) (S : gSt) (f z : Int) (hf : 0 ≤ f ∧ f < 8) (hz : 0 ≤ z ∧ z < 24) (hN : okN (S 28)) (hE : okE (S 28) (S 26)) (hO : okE (S 28) (S 27)) : MetG l g yX7_isOf cX7_isOf 5 (some .boolean) 0 0 [.ref (g.1 23), .int (iI f), .int (iI z)] S (some (.int (iI (if hsB (S 28) (S 26) (S 27) f z = true then 1 else 0)))) S := by
  refine bodyG (by decide +kernel) (Nat.le_of_ble_eq_true rfl) ?_
  intro p e s m args below meth c ls C0 hret hlk hl hH
  have zx := C0.1
  have zb := C0.2.1
  have hl : lv_has ls 5 [(0, .ref (g.1 23)), (1, .int (iI f)), (2, .int (iI z))] := hl
  have L8 : ∀ (μ : Nat) (j : Int) (b : Bool), (10 * f + S 28 f - j).toNat = μ → (10 * f ≤ j ∧ j ≤ 10 * f + S 28 f) → (hsB (S 28) (S 26) (S 27) f z = (b || exF (hsQ (S 26) (S 27) z) (10 * f + S 28 f - j).toNat j)) → ∀ (H : Heap) (locs : List Loc), Hp g S s H locs → ∀ ls : Array Slot, lv_has ls 5 [(0, .ref (g.1 23)), (1, .int (iI f)), (2, .int (iI z)), (3, .int (iI (if b = true then 1 else 0))), (4, .int (iI j))] → W p l e { frames := 0, cells := 0, slots := 0, locals := 0 } s m args below meth c H locs 0 0 (MQ below (RetG g (some (.int (iI (if hsB (S 28) (S 26) (S 27) f z = true then 1 else 0)))) S) args s 0 0 (oA g)) (F0 m 8 ls []) := by
    refine lpN (fun μ8 ih8 => ?_)
    intro j b hμ8 hj hR H locs hH ls hl
    have hn := hN f hf.1 hf.2
    refine lv_iload zx zb dX7_isOf_8 (lv_at hl 4 rfl) ?_
    refine bi_bip (n := 10) zx zb dX7_isOf_10 (by decide) ?_
    refine lv_iload_n zx zb dX7_isOf_12 rfl (lv_at hl 1 rfl) ?_
    refine bi_mul zx zb dX7_isOf_13 ?_
    refine lv_aload_n zx zb dX7_isOf_14 rfl (lv_at hl 0 rfl) ?_
    refine gf_X7_22 C0 hH dX7_isOf_15 ?_
    refine lv_iload_n zx zb dX7_isOf_18 rfl (lv_at hl 1 rfl) ?_
    refine al_28 C0 hH (by omega) (by omega) dX7_isOf_19 ?_
    refine bi_add zx zb dX7_isOf_20 ?_
    refine bq_ge (tgt := 62) zx zb dX7_isOf_21 (by decide) ⟨by omega, by omega⟩ ⟨by omega, by omega⟩ (fun zq21 => ?_) (fun zq21 => ?_)
    · refine lv_iload_n zx zb dX7_isOf_62 rfl (lv_at hl 3 rfl) ?_
      exact retZ C0 hret hlk hH (by rw [hR, exF_e2 zq21, Bool.or_false]) (by exact bI_b b) (rfl) dX7_isOf_63
    · have he := hE f (j - 10 * f) hf.1 hf.2 (by omega) (by omega)
      have ho := hO f (j - 10 * f) hf.1 hf.2 (by omega) (by omega)
      rw [show 10 * f + (j - 10 * f) = j by omega] at he ho
      have hb25 := brg b
      refine lv_iload_n zx zb dX7_isOf_24 rfl (lv_at hl 3 rfl) ?_
      refine bz_ne (tgt := 50) zx zb dX7_isOf_25 (by decide) ⟨by omega, by omega⟩ (fun zq25 => ?_) (fun zq25 => ?_)
      · refine bi_const (n := 1) zx zb dX7_isOf_50 ?_
        refine lv_goto (tgt := 55) zx zb dX7_isOf_51 (by decide) ?_
        refine lv_istore_n (lv' := [(3, .int (iI 1)), (0, .ref (g.1 23)), (1, .int (iI f)), (2, .int (iI z)), (4, .int (iI j))]) zx zb dX7_isOf_55 rfl hl (by decide) rfl (fun ls hl => ?_)
        refine bi_inc (k0 := 4) (n := 1) (lv' := [(4, .int (iI (j + 1))), (3, .int (iI 1)), (0, .ref (g.1 23)), (1, .int (iI f)), (2, .int (iI z))]) zx zb dX7_isOf_56 hl rfl (by decide) rfl (fun ls hl => ?_)
        refine lv_goto (tgt := 8) zx zb dX7_isOf_59 (by decide) ?_
        exact ih8 ((10 * f + S 28 f - (j + 1)).toNat) (by omega) (j + 1) true rfl (by omega) (by rw [hR]; first | (rw [b1 zq25]; rfl) | (rw [b0 zq25, exF_f zq21 (by unfold hsQ; rw [decide_eq_true zq36]; rfl)]; rfl) | (rw [b0 zq25, exF_f zq21 (by unfold hsQ; rw [decide_eq_true zq47, Bool.or_true])]; rfl) | (rw [b0 zq25, exF_t zq21 (by unfold hsQ; rw [decide_eq_false zq36, decide_eq_false zq47]; rfl)])) _ _ hH ls (lv_sub hl [2, 3, 4, 1, 0] rfl)
      · refine lv_aload_n zx zb dX7_isOf_28 rfl (lv_at hl 0 rfl) ?_
        refine gf_X7_16 C0 hH dX7_isOf_29 ?_
        refine lv_iload zx zb dX7_isOf_32 (lv_at hl 4 rfl) ?_
        refine al_26 C0 hH (by omega) (by omega) dX7_isOf_34 ?_
        refine lv_iload_n zx zb dX7_isOf_35 rfl (lv_at hl 2 rfl) ?_
        refine bq_eq (tgt := 50) zx zb dX7_isOf_36 (by decide) ⟨by omega, by omega⟩ ⟨by omega, by omega⟩ (fun zq36 => ?_) (fun zq36 => ?_)
        · refine bi_const (n := 1) zx zb dX7_isOf_50 ?_
          refine lv_goto (tgt := 55) zx zb dX7_isOf_51 (by decide) ?_
          refine lv_istore_n (lv' := [(3, .int (iI 1)), (0, .ref (g.1 23)), (1, .int (iI f)), (2, .int (iI z)), (4, .int (iI j))]) zx zb dX7_isOf_55 rfl hl (by decide) rfl (fun ls hl => ?_)
          refine bi_inc (k0 := 4) (n := 1) (lv' := [(4, .int (iI (j + 1))), (3, .int (iI 1)), (0, .ref (g.1 23)), (1, .int (iI f)), (2, .int (iI z))]) zx zb dX7_isOf_56 hl rfl (by decide) rfl (fun ls hl => ?_)
          refine lv_goto (tgt := 8) zx zb dX7_isOf_59 (by decide) ?_
          exact ih8 ((10 * f + S 28 f - (j + 1)).toNat) (by omega) (j + 1) true rfl (by omega) (by rw [hR]; first | (rw [b1 zq25]; rfl) | (rw [b0 zq25, exF_f zq21 (by unfold hsQ; rw [decide_eq_true zq36]; rfl)]; rfl) | (rw [b0 zq25, exF_f zq21 (by unfold hsQ; rw [decide_eq_true zq47, Bool.or_true])]; rfl) | (rw [b0 zq25, exF_t zq21 (by unfold hsQ; rw [decide_eq_false zq36, decide_eq_false zq47]; rfl)])) _ _ hH ls (lv_sub hl [2, 3, 4, 1, 0] rfl)
        · refine lv_aload_n zx zb dX7_isOf_39 rfl (lv_at hl 0 rfl) ?_
          refine gf_X7_19 C0 hH dX7_isOf_40 ?_
          refine lv_iload zx zb dX7_isOf_43 (lv_at hl 4 rfl) ?_
          refine al_27 C0 hH (by omega) (by omega) dX7_isOf_45 ?_
          refine lv_iload_n zx zb dX7_isOf_46 rfl (lv_at hl 2 rfl) ?_
          refine bq_ne (tgt := 54) zx zb dX7_isOf_47 (by decide) ⟨by omega, by omega⟩ ⟨by omega, by omega⟩ (fun zq47 => ?_) (fun zq47 => ?_)
          · refine bi_const (n := 0) zx zb dX7_isOf_54 ?_
            refine lv_istore_n (lv' := [(3, .int (iI 0)), (0, .ref (g.1 23)), (1, .int (iI f)), (2, .int (iI z)), (4, .int (iI j))]) zx zb dX7_isOf_55 rfl hl (by decide) rfl (fun ls hl => ?_)
            refine bi_inc (k0 := 4) (n := 1) (lv' := [(4, .int (iI (j + 1))), (3, .int (iI 0)), (0, .ref (g.1 23)), (1, .int (iI f)), (2, .int (iI z))]) zx zb dX7_isOf_56 hl rfl (by decide) rfl (fun ls hl => ?_)
            refine lv_goto (tgt := 8) zx zb dX7_isOf_59 (by decide) ?_
            exact ih8 ((10 * f + S 28 f - (j + 1)).toNat) (by omega) (j + 1) false rfl (by omega) (by rw [hR]; first | (rw [b1 zq25]; rfl) | (rw [b0 zq25, exF_f zq21 (by unfold hsQ; rw [decide_eq_true zq36]; rfl)]; rfl) | (rw [b0 zq25, exF_f zq21 (by unfold hsQ; rw [decide_eq_true zq47, Bool.or_true])]; rfl) | (rw [b0 zq25, exF_t zq21 (by unfold hsQ; rw [decide_eq_false zq36, decide_eq_false zq47]; rfl)])) _ _ hH ls (lv_sub hl [2, 3, 4, 1, 0] rfl)
          · refine bi_const (n := 1) zx zb dX7_isOf_50 ?_
            refine lv_goto (tgt := 55) zx zb dX7_isOf_51 (by decide) ?_
            refine lv_istore_n (lv' := [(3, .int (iI 1)), (0, .ref (g.1 23)), (1, .int (iI f)), (2, .int (iI z)), (4, .int (iI j))]) zx zb dX7_isOf_55 rfl hl (by decide) rfl (fun ls hl => ?_)
            refine bi_inc (k0 := 4) (n := 1) (lv' := [(4, .int (iI (j + 1))), (3, .int (iI 1)), (0, .ref (g.1 23)), (1, .int (iI f)), (2, .int (iI z))]) zx zb dX7_isOf_56 hl rfl (by decide) rfl (fun ls hl => ?_)
            refine lv_goto (tgt := 8) zx zb dX7_isOf_59 (by decide) ?_
            exact ih8 ((10 * f + S 28 f - (j + 1)).toNat) (by omega) (j + 1) true rfl (by omega) (by rw [hR]; first | (rw [b1 zq25]; rfl) | (rw [b0 zq25, exF_f zq21 (by unfold hsQ; rw [decide_eq_true zq36]; rfl)]; rfl) | (rw [b0 zq25, exF_f zq21 (by unfold hsQ; rw [decide_eq_true zq47, Bool.or_true])]; rfl) | (rw [b0 zq25, exF_t zq21 (by unfold hsQ; rw [decide_eq_false zq36, decide_eq_false zq47]; rfl)])) _ _ hH ls (lv_sub hl [2, 3, 4, 1, 0] rfl)
  obtain ⟨H, hHe⟩ : ∃ H : Heap, H = s.heap := ⟨_, rfl⟩
  rw [show (Hp g S s s.heap []) = Hp g S s H [] by rw [hHe]] at hH
  rw [← hHe]
  have hn := hN f hf.1 hf.2
  refine bi_const (n := 0) zx zb dX7_isOf_0 ?_
  refine lv_istore_n (lv' := [(3, .int (iI 0)), (0, .ref (g.1 23)), (1, .int (iI f)), (2, .int (iI z))]) zx zb dX7_isOf_1 rfl hl (by decide) rfl (fun ls hl => ?_)
  refine bi_bip (n := 10) zx zb dX7_isOf_2 (by decide) ?_
  refine lv_iload_n zx zb dX7_isOf_4 rfl (lv_at hl 2 rfl) ?_
  refine bi_mul zx zb dX7_isOf_5 ?_
  refine lv_istore (lv' := [(4, .int (iI (10 * f))), (3, .int (iI 0)), (0, .ref (g.1 23)), (1, .int (iI f)), (2, .int (iI z))]) zx zb dX7_isOf_6 hl (by decide) rfl (fun ls hl => ?_)
  exact L8 _ (10 * f) false rfl (by omega) (by rw [show 10 * f + S 28 f - 10 * f = S 28 f by omega]; rfl) _ _ hH ls (lv_sub hl [2, 3, 4, 1, 0] rfl)
set_option maxRecDepth 100000 in
set_option maxHeartbeats 4000000 in
theorem c_X7_figureNow (l : Launch) (g : gT) (S : gSt) (z : Int) (hz : 0 ≤ z ∧ z < 24) (hnf : 0 ≤ S 23 7 ∧ S 23 7 ≤ 8) (hN : okN (S 28)) (hE : okE (S 28) (S 26)) (hO : okE (S 28) (S 27)) : MetG l g yX7_figureNow cX7_figureNow 4 (some .int) 1 24 [.ref (g.1 23), .int (iI z)] S (some (.int (iI (laI (S 23 7) (S 28) (S 26) (S 27) z)))) S := by
  refine bodyG (by decide +kernel) (Nat.le_of_ble_eq_true rfl) ?_
  intro p e s m args below meth c ls C0 hret hlk hl hH
  have zx := C0.1
  have zb := C0.2.1
  have hl : lv_has ls 4 [(0, .ref (g.1 23)), (1, .int (iI z))] := hl
  have L4 : ∀ (μ : Nat) (i : Int) (a : Int), (S 23 7 - i).toNat = μ → (0 ≤ i ∧ i ≤ S 23 7) → (laI (S 23 7) (S 28) (S 26) (S 27) z = lpF (laQ (S 28) (S 26) (S 27) z) (S 23 7 - i).toNat i a) → ∀ (H : Heap) (locs : List Loc), Hp g S s H locs → ∀ ls : Array Slot, lv_has ls 4 [(0, .ref (g.1 23)), (1, .int (iI z)), (2, .int (iI a)), (3, .int (iI i))] → W p l e { frames := 1, cells := 0, slots := 0, locals := 24 } s m args below meth c H locs 0 0 (MQ below (RetG g (some (.int (iI (laI (S 23 7) (S 28) (S 26) (S 27) z)))) S) args s 0 0 (oA g)) (F0 m 4 ls []) := by
    refine lpN (fun μ4 ih4 => ?_)
    intro i a hμ4 hi hR H locs hH ls hl
    refine lv_iload_n zx zb dX7_figureNow_4 rfl (lv_at hl 3 rfl) ?_
    refine lv_aload_n zx zb dX7_figureNow_5 rfl (lv_at hl 0 rfl) ?_
    refine gf_X7_48 C0 hH dX7_figureNow_6 ?_
    refine bq_ge (tgt := 33) zx zb dX7_figureNow_9 (by decide) ⟨by omega, by omega⟩ ⟨by omega, by omega⟩ (fun zq9 => ?_) (fun zq9 => ?_)
    · refine lv_iload_n zx zb dX7_figureNow_33 rfl (lv_at hl 2 rfl) ?_
      exact retI C0 hret hlk hH (by rw [hR, lpF_e zq9]) (rfl) dX7_figureNow_34
    · refine lv_aload_n zx zb dX7_figureNow_12 rfl (lv_at hl 0 rfl) ?_
      refine lv_iload_n zx zb dX7_figureNow_13 rfl (lv_at hl 3 rfl) ?_
      refine lv_iload_n zx zb dX7_figureNow_14 rfl (lv_at hl 1 rfl) ?_
      refine cvI (rest := []) (As := [.int (iI i), .int (iI z)]) (b := g.1 23) C0 hH (c_X7_isOf l g S i z (by omega) (by omega) (hN) (hE) (hO)) kw_X7_73 ky_X7_isOf ⟨Nat.le_of_ble_eq_true rfl, Nat.le_of_ble_eq_true rfl⟩ ⟨Nat.zero_le _, Nat.zero_le _⟩ 23 rfl rfl rfl hl.1 rfl (Nat.le_of_ble_eq_true rfl) dX7_figureNow_15 (fun H locs hH => ?_)
      have hb18 := brg (hsB (S 28) (S 26) (S 27) i z)
      refine bz_eq (tgt := 25) zx zb dX7_figureNow_18 (by decide) ⟨by omega, by omega⟩ (fun zq18 => ?_) (fun zq18 => ?_)
      · refine lv_iload_n zx zb dX7_figureNow_25 rfl (lv_at hl 2 rfl) ?_
        refine lv_istore_n (lv' := [(2, .int (iI a)), (0, .ref (g.1 23)), (1, .int (iI z)), (3, .int (iI i))]) zx zb dX7_figureNow_26 rfl hl (by decide) rfl (fun ls hl => ?_)
        refine bi_inc (k0 := 3) (n := 1) (lv' := [(3, .int (iI (i + 1))), (2, .int (iI a)), (0, .ref (g.1 23)), (1, .int (iI z))]) zx zb dX7_figureNow_27 hl rfl (by decide) rfl (fun ls hl => ?_)
        refine lv_goto (tgt := 4) zx zb dX7_figureNow_30 (by decide) ?_
        exact ih4 ((S 23 7 - (i + 1)).toNat) (by omega) (i + 1) a rfl (by omega) (by rw [hR, lpF_s zq9]; unfold laQ; first | (rw [b0 zq18]; rfl) | (rw [b1 zq18]; rfl)) _ _ hH ls (lv_sub hl [2, 3, 1, 0] rfl)
      · refine lv_iload_n zx zb dX7_figureNow_21 rfl (lv_at hl 3 rfl) ?_
        refine lv_goto (tgt := 26) zx zb dX7_figureNow_22 (by decide) ?_
        refine lv_istore_n (lv' := [(2, .int (iI i)), (0, .ref (g.1 23)), (1, .int (iI z)), (3, .int (iI i))]) zx zb dX7_figureNow_26 rfl hl (by decide) rfl (fun ls hl => ?_)
        refine bi_inc (k0 := 3) (n := 1) (lv' := [(3, .int (iI (i + 1))), (2, .int (iI i)), (0, .ref (g.1 23)), (1, .int (iI z))]) zx zb dX7_figureNow_27 hl rfl (by decide) rfl (fun ls hl => ?_)
        refine lv_goto (tgt := 4) zx zb dX7_figureNow_30 (by decide) ?_
        exact ih4 ((S 23 7 - (i + 1)).toNat) (by omega) (i + 1) i rfl (by omega) (by rw [hR, lpF_s zq9]; unfold laQ; first | (rw [b0 zq18]; rfl) | (rw [b1 zq18]; rfl)) _ _ hH ls (lv_sub hl [2, 3, 1, 0] rfl)
  obtain ⟨H, hHe⟩ : ∃ H : Heap, H = s.heap := ⟨_, rfl⟩
  rw [show (Hp g S s s.heap []) = Hp g S s H [] by rw [hHe]] at hH
  rw [← hHe]
  refine bi_const (n := (-1)) zx zb dX7_figureNow_0 ?_
  refine lv_istore_n (lv' := [(2, .int (iI (-1))), (0, .ref (g.1 23)), (1, .int (iI z))]) zx zb dX7_figureNow_1 rfl hl (by decide) rfl (fun ls hl => ?_)
  refine bi_const (n := 0) zx zb dX7_figureNow_2 ?_
  refine lv_istore_n (lv' := [(3, .int (iI 0)), (2, .int (iI (-1))), (0, .ref (g.1 23)), (1, .int (iI z))]) zx zb dX7_figureNow_3 rfl hl (by decide) rfl (fun ls hl => ?_)
  exact L4 _ 0 (-1) rfl (by omega) (by unfold laI; rw [Int.sub_zero]) _ _ hH ls (lv_sub hl [2, 3, 1, 0] rfl)
set_option maxRecDepth 100000 in
set_option maxHeartbeats 4000000 in
theorem c_X7_isFree (l : Launch) (g : gT) (S : gSt) (f z : Int) (hf : 0 ≤ f ∧ f < 8) (hz : 0 ≤ z ∧ z < 24) (hnf : 0 ≤ S 23 7 ∧ S 23 7 ≤ 8) (hN : okN (S 28)) (hE : okE (S 28) (S 26)) (hO : okE (S 28) (S 27)) : MetG l g yX7_isFree cX7_isFree 3 (some .boolean) 2 47 [.ref (g.1 23), .int (iI f), .int (iI z)] S (some (.int (iI (if laI (S 23 7) (S 28) (S 26) (S 27) z = -1 ∨ laI (S 23 7) (S 28) (S 26) (S 27) z = f then 1 else 0)))) S := by
  refine bodyG (by decide +kernel) (Nat.le_of_ble_eq_true rfl) ?_
  intro p e s m args below meth c ls C0 hret hlk hl hH
  have zx := C0.1
  have zb := C0.2.1
  have hl : lv_has ls 3 [(0, .ref (g.1 23)), (1, .int (iI f)), (2, .int (iI z))] := hl
  obtain ⟨H, hHe⟩ : ∃ H : Heap, H = s.heap := ⟨_, rfl⟩
  rw [show (Hp g S s s.heap []) = Hp g S s H [] by rw [hHe]] at hH
  rw [← hHe]
  have hlb := laI_b (nf := S 23 7) (n := S 28) (e := S 26) (o := S 27) (z := z) hnf.1
  refine lv_aload_n zx zb dX7_isFree_0 rfl (lv_at hl 0 rfl) ?_
  refine lv_iload_n zx zb dX7_isFree_1 rfl (lv_at hl 2 rfl) ?_
  refine cvI (rest := []) (As := [.int (iI z)]) (b := g.1 23) C0 hH (c_X7_figureNow l g S z (by omega) (by omega) (hN) (hE) (hO)) kw_X7_76 ky_X7_figureNow ⟨Nat.le_of_ble_eq_true rfl, Nat.le_of_ble_eq_true rfl⟩ ⟨Nat.zero_le _, Nat.zero_le _⟩ 23 rfl rfl rfl hl.1 rfl (Nat.le_of_ble_eq_true rfl) dX7_isFree_2 (fun H locs hH => ?_)
  refine bi_const (n := (-1)) zx zb dX7_isFree_5 ?_
  refine bq_eq (tgt := 18) zx zb dX7_isFree_6 (by decide) ⟨by omega, by omega⟩ ⟨by omega, by omega⟩ (fun zq6 => ?_) (fun zq6 => ?_)
  · refine bi_const (n := 1) zx zb dX7_isFree_18 ?_
    refine lv_goto (tgt := 23) zx zb dX7_isFree_19 (by decide) ?_
    exact retZ C0 hret hlk hH (by first | (rw [if_pos (Or.inl zq6)]; done) | (rw [if_pos (Or.inr zq15)]; done) | (rw [if_neg (by omega)]; done)) (by omega) (rfl) dX7_isFree_23
  · refine lv_aload_n zx zb dX7_isFree_9 rfl (lv_at hl 0 rfl) ?_
    refine lv_iload_n zx zb dX7_isFree_10 rfl (lv_at hl 2 rfl) ?_
    refine cvI (rest := []) (As := [.int (iI z)]) (b := g.1 23) C0 hH (c_X7_figureNow l g S z (by omega) (by omega) (hN) (hE) (hO)) kw_X7_76 ky_X7_figureNow ⟨Nat.le_of_ble_eq_true rfl, Nat.le_of_ble_eq_true rfl⟩ ⟨Nat.zero_le _, Nat.zero_le _⟩ 23 rfl rfl rfl hl.1 rfl (Nat.le_of_ble_eq_true rfl) dX7_isFree_11 (fun H locs hH => ?_)
    refine lv_iload_n zx zb dX7_isFree_14 rfl (lv_at hl 1 rfl) ?_
    refine bq_ne (tgt := 22) zx zb dX7_isFree_15 (by decide) ⟨by omega, by omega⟩ ⟨by omega, by omega⟩ (fun zq15 => ?_) (fun zq15 => ?_)
    · refine bi_const (n := 0) zx zb dX7_isFree_22 ?_
      exact retZ C0 hret hlk hH (by first | (rw [if_pos (Or.inl zq6)]; done) | (rw [if_pos (Or.inr zq15)]; done) | (rw [if_neg (by omega)]; done)) (by omega) (rfl) dX7_isFree_23
    · refine bi_const (n := 1) zx zb dX7_isFree_18 ?_
      refine lv_goto (tgt := 23) zx zb dX7_isFree_19 (by decide) ?_
      exact retZ C0 hret hlk hH (by first | (rw [if_pos (Or.inl zq6)]; done) | (rw [if_pos (Or.inr zq15)]; done) | (rw [if_neg (by omega)]; done)) (by omega) (rfl) dX7_isFree_23
set_option maxRecDepth 100000 in
set_option maxHeartbeats 4000000 in
theorem c_X7_hasLine (l : Launch) (g : gT) (S : gSt) (f a b : Int) (hf : 0 ≤ f ∧ f < 8) (ha : 0 ≤ a ∧ a < 24) (hb : 0 ≤ b ∧ b < 24) (hN : okN (S 28)) (hE : okE (S 28) (S 26)) (hO : okE (S 28) (S 27)) : MetG l g yX7_hasLine cX7_hasLine 6 (some .boolean) 0 0 [.ref (g.1 23), .int (iI f), .int (iI a), .int (iI b)] S (some (.int (iI (if jnB (S 28) (S 26) (S 27) f a b = true then 1 else 0)))) S := by
  refine bodyG (by decide +kernel) (Nat.le_of_ble_eq_true rfl) ?_
  intro p e s m args below meth c ls C0 hret hlk hl hH
  have zx := C0.1
  have zb := C0.2.1
  have hl : lv_has ls 6 [(0, .ref (g.1 23)), (1, .int (iI f)), (2, .int (iI a)), (3, .int (iI b))] := hl
  have L9 : ∀ (μ : Nat) (j : Int) (bb : Bool), (10 * f + S 28 f - j).toNat = μ → (10 * f ≤ j ∧ j ≤ 10 * f + S 28 f) → (jnB (S 28) (S 26) (S 27) f a b = (bb || exF (jnQ (S 26) (S 27) a b) (10 * f + S 28 f - j).toNat j)) → ∀ (H : Heap) (locs : List Loc), Hp g S s H locs → ∀ ls : Array Slot, lv_has ls 6 [(0, .ref (g.1 23)), (1, .int (iI f)), (2, .int (iI a)), (3, .int (iI b)), (4, .int (iI (if bb = true then 1 else 0))), (5, .int (iI j))] → W p l e { frames := 0, cells := 0, slots := 0, locals := 0 } s m args below meth c H locs 0 0 (MQ below (RetG g (some (.int (iI (if jnB (S 28) (S 26) (S 27) f a b = true then 1 else 0)))) S) args s 0 0 (oA g)) (F0 m 9 ls []) := by
    refine lpN (fun μ9 ih9 => ?_)
    intro j bb hμ9 hj hR H locs hH ls hl
    have hn := hN f hf.1 hf.2
    refine lv_iload zx zb dX7_hasLine_9 (lv_at hl 5 rfl) ?_
    refine bi_bip (n := 10) zx zb dX7_hasLine_11 (by decide) ?_
    refine lv_iload_n zx zb dX7_hasLine_13 rfl (lv_at hl 1 rfl) ?_
    refine bi_mul zx zb dX7_hasLine_14 ?_
    refine lv_aload_n zx zb dX7_hasLine_15 rfl (lv_at hl 0 rfl) ?_
    refine gf_X7_22 C0 hH dX7_hasLine_16 ?_
    refine lv_iload_n zx zb dX7_hasLine_19 rfl (lv_at hl 1 rfl) ?_
    refine al_28 C0 hH (by omega) (by omega) dX7_hasLine_20 ?_
    refine bi_add zx zb dX7_hasLine_21 ?_
    refine bq_ge (tgt := 87) zx zb dX7_hasLine_22 (by decide) ⟨by omega, by omega⟩ ⟨by omega, by omega⟩ (fun zq22 => ?_) (fun zq22 => ?_)
    · refine lv_iload zx zb dX7_hasLine_87 (lv_at hl 4 rfl) ?_
      exact retZ C0 hret hlk hH (by rw [hR, exF_e2 zq22, Bool.or_false]) (by exact bI_b bb) (rfl) dX7_hasLine_89
    · have he := hE f (j - 10 * f) hf.1 hf.2 (by omega) (by omega)
      have ho := hO f (j - 10 * f) hf.1 hf.2 (by omega) (by omega)
      rw [show 10 * f + (j - 10 * f) = j by omega] at he ho
      have hb27 := brg bb
      refine lv_iload zx zb dX7_hasLine_25 (lv_at hl 4 rfl) ?_
      refine bz_ne (tgt := 74) zx zb dX7_hasLine_27 (by decide) ⟨by omega, by omega⟩ (fun zq27 => ?_) (fun zq27 => ?_)
      · refine bi_const (n := 1) zx zb dX7_hasLine_74 ?_
        refine lv_goto (tgt := 79) zx zb dX7_hasLine_75 (by decide) ?_
        refine lv_istore (lv' := [(4, .int (iI 1)), (0, .ref (g.1 23)), (1, .int (iI f)), (2, .int (iI a)), (3, .int (iI b)), (5, .int (iI j))]) zx zb dX7_hasLine_79 hl (by decide) rfl (fun ls hl => ?_)
        refine bi_inc (k0 := 5) (n := 1) (lv' := [(5, .int (iI (j + 1))), (4, .int (iI 1)), (0, .ref (g.1 23)), (1, .int (iI f)), (2, .int (iI a)), (3, .int (iI b))]) zx zb dX7_hasLine_81 hl rfl (by decide) rfl (fun ls hl => ?_)
        refine lv_goto (tgt := 9) zx zb dX7_hasLine_84 (by decide) ?_
        exact ih9 ((10 * f + S 28 f - (j + 1)).toNat) (by omega) (j + 1) true rfl (by omega) (by rw [hR]; first | (rw [b1 zq27]; rfl) | (rw [b0 zq27, exF_f zq22 (by unfold jnQ; rw [decide_eq_true zq38, decide_eq_true zq49]; rfl)]; rfl) | (rw [b0 zq27, exF_f zq22 (by unfold jnQ; rw [decide_eq_true zq60, decide_eq_true zq71, Bool.and_self, Bool.or_true])]; rfl) | (rw [b0 zq27, exF_t zq22 (by unfold jnQ; simp_all)])) _ _ hH ls (lv_sub hl [2, 3, 4, 5, 1, 0] rfl)
      · refine lv_aload_n zx zb dX7_hasLine_30 rfl (lv_at hl 0 rfl) ?_
        refine gf_X7_16 C0 hH dX7_hasLine_31 ?_
        refine lv_iload zx zb dX7_hasLine_34 (lv_at hl 5 rfl) ?_
        refine al_26 C0 hH (by omega) (by omega) dX7_hasLine_36 ?_
        refine lv_iload_n zx zb dX7_hasLine_37 rfl (lv_at hl 2 rfl) ?_
        refine bq_ne (tgt := 52) zx zb dX7_hasLine_38 (by decide) ⟨by omega, by omega⟩ ⟨by omega, by omega⟩ (fun zq38 => ?_) (fun zq38 => ?_)
        · refine lv_aload_n zx zb dX7_hasLine_52 rfl (lv_at hl 0 rfl) ?_
          refine gf_X7_16 C0 hH dX7_hasLine_53 ?_
          refine lv_iload zx zb dX7_hasLine_56 (lv_at hl 5 rfl) ?_
          refine al_26 C0 hH (by omega) (by omega) dX7_hasLine_58 ?_
          refine lv_iload_n zx zb dX7_hasLine_59 rfl (lv_at hl 3 rfl) ?_
          refine bq_ne (tgt := 78) zx zb dX7_hasLine_60 (by decide) ⟨by omega, by omega⟩ ⟨by omega, by omega⟩ (fun zq60 => ?_) (fun zq60 => ?_)
          · refine bi_const (n := 0) zx zb dX7_hasLine_78 ?_
            refine lv_istore (lv' := [(4, .int (iI 0)), (0, .ref (g.1 23)), (1, .int (iI f)), (2, .int (iI a)), (3, .int (iI b)), (5, .int (iI j))]) zx zb dX7_hasLine_79 hl (by decide) rfl (fun ls hl => ?_)
            refine bi_inc (k0 := 5) (n := 1) (lv' := [(5, .int (iI (j + 1))), (4, .int (iI 0)), (0, .ref (g.1 23)), (1, .int (iI f)), (2, .int (iI a)), (3, .int (iI b))]) zx zb dX7_hasLine_81 hl rfl (by decide) rfl (fun ls hl => ?_)
            refine lv_goto (tgt := 9) zx zb dX7_hasLine_84 (by decide) ?_
            exact ih9 ((10 * f + S 28 f - (j + 1)).toNat) (by omega) (j + 1) false rfl (by omega) (by rw [hR]; first | (rw [b1 zq27]; rfl) | (rw [b0 zq27, exF_f zq22 (by unfold jnQ; rw [decide_eq_true zq38, decide_eq_true zq49]; rfl)]; rfl) | (rw [b0 zq27, exF_f zq22 (by unfold jnQ; rw [decide_eq_true zq60, decide_eq_true zq71, Bool.and_self, Bool.or_true])]; rfl) | (rw [b0 zq27, exF_t zq22 (by unfold jnQ; simp_all)])) _ _ hH ls (lv_sub hl [2, 3, 4, 5, 1, 0] rfl)
          · refine lv_aload_n zx zb dX7_hasLine_63 rfl (lv_at hl 0 rfl) ?_
            refine gf_X7_19 C0 hH dX7_hasLine_64 ?_
            refine lv_iload zx zb dX7_hasLine_67 (lv_at hl 5 rfl) ?_
            refine al_27 C0 hH (by omega) (by omega) dX7_hasLine_69 ?_
            refine lv_iload_n zx zb dX7_hasLine_70 rfl (lv_at hl 2 rfl) ?_
            refine bq_ne (tgt := 78) zx zb dX7_hasLine_71 (by decide) ⟨by omega, by omega⟩ ⟨by omega, by omega⟩ (fun zq71 => ?_) (fun zq71 => ?_)
            · refine bi_const (n := 0) zx zb dX7_hasLine_78 ?_
              refine lv_istore (lv' := [(4, .int (iI 0)), (0, .ref (g.1 23)), (1, .int (iI f)), (2, .int (iI a)), (3, .int (iI b)), (5, .int (iI j))]) zx zb dX7_hasLine_79 hl (by decide) rfl (fun ls hl => ?_)
              refine bi_inc (k0 := 5) (n := 1) (lv' := [(5, .int (iI (j + 1))), (4, .int (iI 0)), (0, .ref (g.1 23)), (1, .int (iI f)), (2, .int (iI a)), (3, .int (iI b))]) zx zb dX7_hasLine_81 hl rfl (by decide) rfl (fun ls hl => ?_)
              refine lv_goto (tgt := 9) zx zb dX7_hasLine_84 (by decide) ?_
              exact ih9 ((10 * f + S 28 f - (j + 1)).toNat) (by omega) (j + 1) false rfl (by omega) (by rw [hR]; first | (rw [b1 zq27]; rfl) | (rw [b0 zq27, exF_f zq22 (by unfold jnQ; rw [decide_eq_true zq38, decide_eq_true zq49]; rfl)]; rfl) | (rw [b0 zq27, exF_f zq22 (by unfold jnQ; rw [decide_eq_true zq60, decide_eq_true zq71, Bool.and_self, Bool.or_true])]; rfl) | (rw [b0 zq27, exF_t zq22 (by unfold jnQ; simp_all)])) _ _ hH ls (lv_sub hl [2, 3, 4, 5, 1, 0] rfl)
            · refine bi_const (n := 1) zx zb dX7_hasLine_74 ?_
              refine lv_goto (tgt := 79) zx zb dX7_hasLine_75 (by decide) ?_
              refine lv_istore (lv' := [(4, .int (iI 1)), (0, .ref (g.1 23)), (1, .int (iI f)), (2, .int (iI a)), (3, .int (iI b)), (5, .int (iI j))]) zx zb dX7_hasLine_79 hl (by decide) rfl (fun ls hl => ?_)
              refine bi_inc (k0 := 5) (n := 1) (lv' := [(5, .int (iI (j + 1))), (4, .int (iI 1)), (0, .ref (g.1 23)), (1, .int (iI f)), (2, .int (iI a)), (3, .int (iI b))]) zx zb dX7_hasLine_81 hl rfl (by decide) rfl (fun ls hl => ?_)
              refine lv_goto (tgt := 9) zx zb dX7_hasLine_84 (by decide) ?_
              exact ih9 ((10 * f + S 28 f - (j + 1)).toNat) (by omega) (j + 1) true rfl (by omega) (by rw [hR]; first | (rw [b1 zq27]; rfl) | (rw [b0 zq27, exF_f zq22 (by unfold jnQ; rw [decide_eq_true zq38, decide_eq_true zq49]; rfl)]; rfl) | (rw [b0 zq27, exF_f zq22 (by unfold jnQ; rw [decide_eq_true zq60, decide_eq_true zq71, Bool.and_self, Bool.or_true])]; rfl) | (rw [b0 zq27, exF_t zq22 (by unfold jnQ; simp_all)])) _ _ hH ls (lv_sub hl [2, 3, 4, 5, 1, 0] rfl)
        · refine lv_aload_n zx zb dX7_hasLine_41 rfl (lv_at hl 0 rfl) ?_
          refine gf_X7_19 C0 hH dX7_hasLine_42 ?_
          refine lv_iload zx zb dX7_hasLine_45 (lv_at hl 5 rfl) ?_
          refine al_27 C0 hH (by omega) (by omega) dX7_hasLine_47 ?_
          refine lv_iload_n zx zb dX7_hasLine_48 rfl (lv_at hl 3 rfl) ?_
          refine bq_eq (tgt := 74) zx zb dX7_hasLine_49 (by decide) ⟨by omega, by omega⟩ ⟨by omega, by omega⟩ (fun zq49 => ?_) (fun zq49 => ?_)
          · refine bi_const (n := 1) zx zb dX7_hasLine_74 ?_
            refine lv_goto (tgt := 79) zx zb dX7_hasLine_75 (by decide) ?_
            refine lv_istore (lv' := [(4, .int (iI 1)), (0, .ref (g.1 23)), (1, .int (iI f)), (2, .int (iI a)), (3, .int (iI b)), (5, .int (iI j))]) zx zb dX7_hasLine_79 hl (by decide) rfl (fun ls hl => ?_)
            refine bi_inc (k0 := 5) (n := 1) (lv' := [(5, .int (iI (j + 1))), (4, .int (iI 1)), (0, .ref (g.1 23)), (1, .int (iI f)), (2, .int (iI a)), (3, .int (iI b))]) zx zb dX7_hasLine_81 hl rfl (by decide) rfl (fun ls hl => ?_)
            refine lv_goto (tgt := 9) zx zb dX7_hasLine_84 (by decide) ?_
            exact ih9 ((10 * f + S 28 f - (j + 1)).toNat) (by omega) (j + 1) true rfl (by omega) (by rw [hR]; first | (rw [b1 zq27]; rfl) | (rw [b0 zq27, exF_f zq22 (by unfold jnQ; rw [decide_eq_true zq38, decide_eq_true zq49]; rfl)]; rfl) | (rw [b0 zq27, exF_f zq22 (by unfold jnQ; rw [decide_eq_true zq60, decide_eq_true zq71, Bool.and_self, Bool.or_true])]; rfl) | (rw [b0 zq27, exF_t zq22 (by unfold jnQ; simp_all)])) _ _ hH ls (lv_sub hl [2, 3, 4, 5, 1, 0] rfl)
          · refine lv_aload_n zx zb dX7_hasLine_52 rfl (lv_at hl 0 rfl) ?_
            refine gf_X7_16 C0 hH dX7_hasLine_53 ?_
            refine lv_iload zx zb dX7_hasLine_56 (lv_at hl 5 rfl) ?_
            refine al_26 C0 hH (by omega) (by omega) dX7_hasLine_58 ?_
            refine lv_iload_n zx zb dX7_hasLine_59 rfl (lv_at hl 3 rfl) ?_
            refine bq_ne (tgt := 78) zx zb dX7_hasLine_60 (by decide) ⟨by omega, by omega⟩ ⟨by omega, by omega⟩ (fun zq60 => ?_) (fun zq60 => ?_)
            · refine bi_const (n := 0) zx zb dX7_hasLine_78 ?_
              refine lv_istore (lv' := [(4, .int (iI 0)), (0, .ref (g.1 23)), (1, .int (iI f)), (2, .int (iI a)), (3, .int (iI b)), (5, .int (iI j))]) zx zb dX7_hasLine_79 hl (by decide) rfl (fun ls hl => ?_)
              refine bi_inc (k0 := 5) (n := 1) (lv' := [(5, .int (iI (j + 1))), (4, .int (iI 0)), (0, .ref (g.1 23)), (1, .int (iI f)), (2, .int (iI a)), (3, .int (iI b))]) zx zb dX7_hasLine_81 hl rfl (by decide) rfl (fun ls hl => ?_)
              refine lv_goto (tgt := 9) zx zb dX7_hasLine_84 (by decide) ?_
              exact ih9 ((10 * f + S 28 f - (j + 1)).toNat) (by omega) (j + 1) false rfl (by omega) (by rw [hR]; first | (rw [b1 zq27]; rfl) | (rw [b0 zq27, exF_f zq22 (by unfold jnQ; rw [decide_eq_true zq38, decide_eq_true zq49]; rfl)]; rfl) | (rw [b0 zq27, exF_f zq22 (by unfold jnQ; rw [decide_eq_true zq60, decide_eq_true zq71, Bool.and_self, Bool.or_true])]; rfl) | (rw [b0 zq27, exF_t zq22 (by unfold jnQ; simp_all)])) _ _ hH ls (lv_sub hl [2, 3, 4, 5, 1, 0] rfl)
            · refine lv_aload_n zx zb dX7_hasLine_63 rfl (lv_at hl 0 rfl) ?_
              refine gf_X7_19 C0 hH dX7_hasLine_64 ?_
              refine lv_iload zx zb dX7_hasLine_67 (lv_at hl 5 rfl) ?_
              refine al_27 C0 hH (by omega) (by omega) dX7_hasLine_69 ?_
              refine lv_iload_n zx zb dX7_hasLine_70 rfl (lv_at hl 2 rfl) ?_
              refine bq_ne (tgt := 78) zx zb dX7_hasLine_71 (by decide) ⟨by omega, by omega⟩ ⟨by omega, by omega⟩ (fun zq71 => ?_) (fun zq71 => ?_)
              · refine bi_const (n := 0) zx zb dX7_hasLine_78 ?_
                refine lv_istore (lv' := [(4, .int (iI 0)), (0, .ref (g.1 23)), (1, .int (iI f)), (2, .int (iI a)), (3, .int (iI b)), (5, .int (iI j))]) zx zb dX7_hasLine_79 hl (by decide) rfl (fun ls hl => ?_)
                refine bi_inc (k0 := 5) (n := 1) (lv' := [(5, .int (iI (j + 1))), (4, .int (iI 0)), (0, .ref (g.1 23)), (1, .int (iI f)), (2, .int (iI a)), (3, .int (iI b))]) zx zb dX7_hasLine_81 hl rfl (by decide) rfl (fun ls hl => ?_)
                refine lv_goto (tgt := 9) zx zb dX7_hasLine_84 (by decide) ?_
                exact ih9 ((10 * f + S 28 f - (j + 1)).toNat) (by omega) (j + 1) false rfl (by omega) (by rw [hR]; first | (rw [b1 zq27]; rfl) | (rw [b0 zq27, exF_f zq22 (by unfold jnQ; rw [decide_eq_true zq38, decide_eq_true zq49]; rfl)]; rfl) | (rw [b0 zq27, exF_f zq22 (by unfold jnQ; rw [decide_eq_true zq60, decide_eq_true zq71, Bool.and_self, Bool.or_true])]; rfl) | (rw [b0 zq27, exF_t zq22 (by unfold jnQ; simp_all)])) _ _ hH ls (lv_sub hl [2, 3, 4, 5, 1, 0] rfl)
              · refine bi_const (n := 1) zx zb dX7_hasLine_74 ?_
                refine lv_goto (tgt := 79) zx zb dX7_hasLine_75 (by decide) ?_
                refine lv_istore (lv' := [(4, .int (iI 1)), (0, .ref (g.1 23)), (1, .int (iI f)), (2, .int (iI a)), (3, .int (iI b)), (5, .int (iI j))]) zx zb dX7_hasLine_79 hl (by decide) rfl (fun ls hl => ?_)
                refine bi_inc (k0 := 5) (n := 1) (lv' := [(5, .int (iI (j + 1))), (4, .int (iI 1)), (0, .ref (g.1 23)), (1, .int (iI f)), (2, .int (iI a)), (3, .int (iI b))]) zx zb dX7_hasLine_81 hl rfl (by decide) rfl (fun ls hl => ?_)
                refine lv_goto (tgt := 9) zx zb dX7_hasLine_84 (by decide) ?_
                exact ih9 ((10 * f + S 28 f - (j + 1)).toNat) (by omega) (j + 1) true rfl (by omega) (by rw [hR]; first | (rw [b1 zq27]; rfl) | (rw [b0 zq27, exF_f zq22 (by unfold jnQ; rw [decide_eq_true zq38, decide_eq_true zq49]; rfl)]; rfl) | (rw [b0 zq27, exF_f zq22 (by unfold jnQ; rw [decide_eq_true zq60, decide_eq_true zq71, Bool.and_self, Bool.or_true])]; rfl) | (rw [b0 zq27, exF_t zq22 (by unfold jnQ; simp_all)])) _ _ hH ls (lv_sub hl [2, 3, 4, 5, 1, 0] rfl)
  obtain ⟨H, hHe⟩ : ∃ H : Heap, H = s.heap := ⟨_, rfl⟩
  rw [show (Hp g S s s.heap []) = Hp g S s H [] by rw [hHe]] at hH
  rw [← hHe]
  have hn := hN f hf.1 hf.2
  refine bi_const (n := 0) zx zb dX7_hasLine_0 ?_
  refine lv_istore (lv' := [(4, .int (iI 0)), (0, .ref (g.1 23)), (1, .int (iI f)), (2, .int (iI a)), (3, .int (iI b))]) zx zb dX7_hasLine_1 hl (by decide) rfl (fun ls hl => ?_)
  refine bi_bip (n := 10) zx zb dX7_hasLine_3 (by decide) ?_
  refine lv_iload_n zx zb dX7_hasLine_5 rfl (lv_at hl 2 rfl) ?_
  refine bi_mul zx zb dX7_hasLine_6 ?_
  refine lv_istore (lv' := [(5, .int (iI (10 * f))), (4, .int (iI 0)), (0, .ref (g.1 23)), (1, .int (iI f)), (2, .int (iI a)), (3, .int (iI b))]) zx zb dX7_hasLine_7 hl (by decide) rfl (fun ls hl => ?_)
  exact L9 _ (10 * f) false rfl (by omega) (by rw [show 10 * f + S 28 f - 10 * f = S 28 f by omega]; rfl) _ _ hH ls (lv_sub hl [2, 3, 4, 5, 1, 0] rfl)
set_option maxRecDepth 100000 in
set_option maxHeartbeats 4000000 in
theorem c_X7_puts (l : Launch) (g : gT) (S : gSt) (f k a b : Int) (hf : 0 ≤ f ∧ f < 8) (hk : 0 ≤ k ∧ k ≤ S 28 f) (hc : S 28 f < 10) : MetG l g yX7_puts cX7_puts 6 none 0 0 [.ref (g.1 23), .int (iI f), .int (iI k), .int (iI a), .int (iI b)] S none (lnIn S 28 26 27 f k a b) := by
  refine bodyG (by decide +kernel) (Nat.le_of_ble_eq_true rfl) ?_
  intro p e s m args below meth c ls C0 hret hlk hl hH
  have zx := C0.1
  have zb := C0.2.1
  have hl : lv_has ls 6 [(0, .ref (g.1 23)), (1, .int (iI f)), (2, .int (iI k)), (3, .int (iI a)), (4, .int (iI b))] := hl
  have L13 : ∀ (μ : Nat) (j : Int), (j - (10 * f + k)).toNat = μ → (10 * f + k ≤ j ∧ j ≤ 10 * f + S 28 f) → ∀ (H : Heap) (locs : List Loc), Hp g (s2 S 26 27 (shA (S 26) j (10 * f + S 28 f)) (shA (S 27) j (10 * f + S 28 f))) s H locs → ∀ ls : Array Slot, lv_has ls 6 [(0, .ref (g.1 23)), (1, .int (iI f)), (2, .int (iI k)), (3, .int (iI a)), (4, .int (iI b)), (5, .int (iI j))] → W p l e { frames := 0, cells := 0, slots := 0, locals := 0 } s m args below meth c H locs 0 0 (MQ below (RetG g none (lnIn S 28 26 27 f k a b)) args s 0 0 (oA g)) (F0 m 13 ls []) := by
    refine lpN (fun μ13 ih13 => ?_)
    intro j hμ13 hj H locs hH ls hl
    refine lv_iload zx zb dX7_puts_13 (lv_at hl 5 rfl) ?_
    refine bi_bip (n := 10) zx zb dX7_puts_15 (by decide) ?_
    refine lv_iload_n zx zb dX7_puts_17 rfl (lv_at hl 1 rfl) ?_
    refine bi_mul zx zb dX7_puts_18 ?_
    refine lv_iload_n zx zb dX7_puts_19 rfl (lv_at hl 2 rfl) ?_
    refine bi_add zx zb dX7_puts_20 ?_
    refine bq_le (tgt := 62) zx zb dX7_puts_21 (by decide) ⟨by omega, by omega⟩ ⟨by omega, by omega⟩ (fun zq21 => ?_) (fun zq21 => ?_)
    · refine lv_aload_n zx zb dX7_puts_62 rfl (lv_at hl 0 rfl) ?_
      refine gf_X7_16 C0 hH dX7_puts_63 ?_
      refine bi_bip (n := 10) zx zb dX7_puts_66 (by decide) ?_
      refine lv_iload_n zx zb dX7_puts_68 rfl (lv_at hl 1 rfl) ?_
      refine bi_mul zx zb dX7_puts_69 ?_
      refine lv_iload_n zx zb dX7_puts_70 rfl (lv_at hl 2 rfl) ?_
      refine bi_add zx zb dX7_puts_71 ?_
      refine lv_iload_n zx zb dX7_puts_72 rfl (lv_at hl 3 rfl) ?_
      refine as_26 C0 hH (by omega) (by omega) dX7_puts_73 (fun H locs hH => ?_)
      refine lv_aload_n zx zb dX7_puts_74 rfl (lv_at hl 0 rfl) ?_
      refine gf_X7_19 C0 hH dX7_puts_75 ?_
      refine bi_bip (n := 10) zx zb dX7_puts_78 (by decide) ?_
      refine lv_iload_n zx zb dX7_puts_80 rfl (lv_at hl 1 rfl) ?_
      refine bi_mul zx zb dX7_puts_81 ?_
      refine lv_iload_n zx zb dX7_puts_82 rfl (lv_at hl 2 rfl) ?_
      refine bi_add zx zb dX7_puts_83 ?_
      refine lv_iload zx zb dX7_puts_84 (lv_at hl 4 rfl) ?_
      refine as_27 C0 hH (by omega) (by omega) dX7_puts_86 (fun H locs hH => ?_)
      refine lv_aload_n zx zb dX7_puts_87 rfl (lv_at hl 0 rfl) ?_
      refine gf_X7_22 C0 hH dX7_puts_88 ?_
      refine lv_iload_n zx zb dX7_puts_91 rfl (lv_at hl 1 rfl) ?_
      refine lv_dup2_11 zx zb dX7_puts_92 rfl rfl ?_
      refine al_28 C0 hH (by omega) (by omega) dX7_puts_93 ?_
      show W p l e _ s m args below meth c H _ _ _ _ (F0 m 94 ls [.int (iI (S 28 f)), .int (iI f), .ref (g.1 28)])
      refine bi_const (n := 1) zx zb dX7_puts_94 ?_
      refine bi_add zx zb dX7_puts_95 ?_
      refine as_28 C0 hH (by omega) (by omega) dX7_puts_96 (fun H locs hH => ?_)
      exact retV C0 hret hlk hH (by rw [show j = 10 * f + k by omega]; unfold lnIn; rw [s2_st1 (by decide), s2_st2]; rfl) dX7_puts_97
    · refine lv_aload_n zx zb dX7_puts_24 rfl (lv_at hl 0 rfl) ?_
      refine gf_X7_16 C0 hH dX7_puts_25 ?_
      refine lv_iload zx zb dX7_puts_28 (lv_at hl 5 rfl) ?_
      refine lv_aload_n zx zb dX7_puts_30 rfl (lv_at hl 0 rfl) ?_
      refine gf_X7_16 C0 hH dX7_puts_31 ?_
      refine lv_iload zx zb dX7_puts_34 (lv_at hl 5 rfl) ?_
      refine bi_const (n := 1) zx zb dX7_puts_36 ?_
      refine bi_sub zx zb dX7_puts_37 ?_
      refine al_26 C0 hH (by omega) (by omega) dX7_puts_38 ?_
      show W p l e _ s m args below meth c H _ _ _ _ (F0 m 39 ls [.int (iI ((s2 S 26 27 (shA (S 26) j (10 * f + S 28 f)) (shA (S 27) j (10 * f + S 28 f))) 26 (j - 1))), .int (iI j), .ref (g.1 26)])
      refine as_26 C0 hH (by omega) (by omega) dX7_puts_39 (fun H locs hH => ?_)
      refine lv_aload_n zx zb dX7_puts_40 rfl (lv_at hl 0 rfl) ?_
      refine gf_X7_19 C0 hH dX7_puts_41 ?_
      refine lv_iload zx zb dX7_puts_44 (lv_at hl 5 rfl) ?_
      refine lv_aload_n zx zb dX7_puts_46 rfl (lv_at hl 0 rfl) ?_
      refine gf_X7_19 C0 hH dX7_puts_47 ?_
      refine lv_iload zx zb dX7_puts_50 (lv_at hl 5 rfl) ?_
      refine bi_const (n := 1) zx zb dX7_puts_52 ?_
      refine bi_sub zx zb dX7_puts_53 ?_
      refine al_27 C0 hH (by omega) (by omega) dX7_puts_54 ?_
      show W p l e _ s m args below meth c H _ _ _ _ (F0 m 55 ls [.int (iI ((s2 S 26 27 (shA (S 26) j (10 * f + S 28 f)) (shA (S 27) j (10 * f + S 28 f))) 27 (j - 1))), .int (iI j), .ref (g.1 27)])
      refine as_27 C0 hH (by omega) (by omega) dX7_puts_55 (fun H locs hH => ?_)
      refine bi_inc (k0 := 5) (n := (-1)) (lv' := [(5, .int (iI (j + (-1)))), (0, .ref (g.1 23)), (1, .int (iI f)), (2, .int (iI k)), (3, .int (iI a)), (4, .int (iI b))]) zx zb dX7_puts_56 hl rfl (by decide) rfl (fun ls hl => ?_)
      refine lv_goto (tgt := 13) zx zb dX7_puts_59 (by decide) ?_
      exact ih13 (((j + (-1)) - (10 * f + k)).toNat) (by omega) (j + (-1)) rfl (by omega) _ _ (hp_eq (by exact (sh_step (by decide) (S 26) (S 27) hj.2)) hH) ls (lv_sub hl [1, 2, 3, 4, 5, 0] rfl)
  obtain ⟨H, hHe⟩ : ∃ H : Heap, H = s.heap := ⟨_, rfl⟩
  rw [show (Hp g S s s.heap []) = Hp g S s H [] by rw [hHe]] at hH
  rw [← hHe]
  refine bi_bip (n := 10) zx zb dX7_puts_0 (by decide) ?_
  refine lv_iload_n zx zb dX7_puts_2 rfl (lv_at hl 1 rfl) ?_
  refine bi_mul zx zb dX7_puts_3 ?_
  refine lv_aload_n zx zb dX7_puts_4 rfl (lv_at hl 0 rfl) ?_
  refine gf_X7_22 C0 hH dX7_puts_5 ?_
  refine lv_iload_n zx zb dX7_puts_8 rfl (lv_at hl 1 rfl) ?_
  refine al_28 C0 hH (by omega) (by omega) dX7_puts_9 ?_
  refine bi_add zx zb dX7_puts_10 ?_
  refine lv_istore (lv' := [(5, .int (iI ((10 * f) + (S 28 f)))), (0, .ref (g.1 23)), (1, .int (iI f)), (2, .int (iI k)), (3, .int (iI a)), (4, .int (iI b))]) zx zb dX7_puts_11 hl (by decide) rfl (fun ls hl => ?_)
  exact L13 _ ((10 * f) + (S 28 f)) rfl (by omega) _ _ (hp_eq (by rw [shA_0, shA_0, s2_id _ _ _ (by decide)]) hH) ls (lv_sub hl [1, 2, 3, 4, 5, 0] rfl)
set_option maxRecDepth 100000 in
set_option maxHeartbeats 4000000 in
theorem c_X7_takes (l : Launch) (g : gT) (S : gSt) (f k : Int) (hf : 0 ≤ f ∧ f < 8) (hk : 0 ≤ k ∧ k < S 28 f) (hc : S 28 f ≤ 10) : MetG l g yX7_takes cX7_takes 4 none 0 0 [.ref (g.1 23), .int (iI f), .int (iI k)] S none (lnOut S 28 26 27 f k) := by
  refine bodyG (by decide +kernel) (Nat.le_of_ble_eq_true rfl) ?_
  intro p e s m args below meth c ls C0 hret hlk hl hH
  have zx := C0.1
  have zb := C0.2.1
  have hl : lv_has ls 4 [(0, .ref (g.1 23)), (1, .int (iI f)), (2, .int (iI k))] := hl
  have L17 : ∀ (μ : Nat) (j : Int), (10 * f + S 28 f - j).toNat = μ → (10 * f + k ≤ j ∧ j ≤ 10 * f + S 28 f - 1) → ∀ (H : Heap) (locs : List Loc), Hp g (s2 (st S 28 f (S 28 f - 1)) 26 27 (delA (S 26) (10 * f + k) j) (delA (S 27) (10 * f + k) j)) s H locs → ∀ ls : Array Slot, lv_has ls 4 [(0, .ref (g.1 23)), (1, .int (iI f)), (2, .int (iI k)), (3, .int (iI j))] → W p l e { frames := 0, cells := 0, slots := 0, locals := 0 } s m args below meth c H locs 0 0 (MQ below (RetG g none (lnOut S 28 26 27 f k)) args s 0 0 (oA g)) (F0 m 17 ls []) := by
    refine lpN (fun μ17 ih17 => ?_)
    intro j hμ17 hj H locs hH ls hl
    refine lv_iload_n zx zb dX7_takes_17 rfl (lv_at hl 3 rfl) ?_
    refine bi_bip (n := 10) zx zb dX7_takes_18 (by decide) ?_
    refine lv_iload_n zx zb dX7_takes_20 rfl (lv_at hl 1 rfl) ?_
    refine bi_mul zx zb dX7_takes_21 ?_
    refine lv_aload_n zx zb dX7_takes_22 rfl (lv_at hl 0 rfl) ?_
    refine gf_X7_22 C0 hH dX7_takes_23 ?_
    refine lv_iload_n zx zb dX7_takes_26 rfl (lv_at hl 1 rfl) ?_
    refine al_28 C0 hH (by omega) (by omega) dX7_takes_27 ?_
    show W p l e _ s m args below meth c H _ _ _ _ (F0 m 28 ls [.int (iI ((st S 28 f (S 28 f - 1)) 28 f)), .int (iI (10 * f)), .int (iI j)])
    rw [show (st S 28 f (S 28 f - 1) 28 f) = S 28 f - 1 from ud_s _ _ _]
    refine bi_add zx zb dX7_takes_28 ?_
    refine bq_ge (tgt := 66) zx zb dX7_takes_29 (by decide) ⟨by omega, by omega⟩ ⟨by omega, by omega⟩ (fun zq29 => ?_) (fun zq29 => ?_)
    · exact retV C0 hret hlk hH (by rw [show j = 10 * f + S 28 f - 1 by omega]; unfold lnOut; exact s2_st (by decide) (by decide)) dX7_takes_66
    · refine lv_aload_n zx zb dX7_takes_32 rfl (lv_at hl 0 rfl) ?_
      refine gf_X7_16 C0 hH dX7_takes_33 ?_
      refine lv_iload_n zx zb dX7_takes_36 rfl (lv_at hl 3 rfl) ?_
      refine lv_aload_n zx zb dX7_takes_37 rfl (lv_at hl 0 rfl) ?_
      refine gf_X7_16 C0 hH dX7_takes_38 ?_
      refine lv_iload_n zx zb dX7_takes_41 rfl (lv_at hl 3 rfl) ?_
      refine bi_const (n := 1) zx zb dX7_takes_42 ?_
      refine bi_add zx zb dX7_takes_43 ?_
      refine al_26 C0 hH (by omega) (by omega) dX7_takes_44 ?_
      show W p l e _ s m args below meth c H _ _ _ _ (F0 m 45 ls [.int (iI ((s2 (st S 28 f (S 28 f - 1)) 26 27 (delA (S 26) (10 * f + k) j) (delA (S 27) (10 * f + k) j)) 26 (j + 1))), .int (iI j), .ref (g.1 26)])
      refine as_26 C0 hH (by omega) (by omega) dX7_takes_45 (fun H locs hH => ?_)
      refine lv_aload_n zx zb dX7_takes_46 rfl (lv_at hl 0 rfl) ?_
      refine gf_X7_19 C0 hH dX7_takes_47 ?_
      refine lv_iload_n zx zb dX7_takes_50 rfl (lv_at hl 3 rfl) ?_
      refine lv_aload_n zx zb dX7_takes_51 rfl (lv_at hl 0 rfl) ?_
      refine gf_X7_19 C0 hH dX7_takes_52 ?_
      refine lv_iload_n zx zb dX7_takes_55 rfl (lv_at hl 3 rfl) ?_
      refine bi_const (n := 1) zx zb dX7_takes_56 ?_
      refine bi_add zx zb dX7_takes_57 ?_
      refine al_27 C0 hH (by omega) (by omega) dX7_takes_58 ?_
      show W p l e _ s m args below meth c H _ _ _ _ (F0 m 59 ls [.int (iI ((s2 (st S 28 f (S 28 f - 1)) 26 27 (delA (S 26) (10 * f + k) j) (delA (S 27) (10 * f + k) j)) 27 (j + 1))), .int (iI j), .ref (g.1 27)])
      refine as_27 C0 hH (by omega) (by omega) dX7_takes_59 (fun H locs hH => ?_)
      refine bi_inc (k0 := 3) (n := 1) (lv' := [(3, .int (iI (j + 1))), (0, .ref (g.1 23)), (1, .int (iI f)), (2, .int (iI k))]) zx zb dX7_takes_60 hl rfl (by decide) rfl (fun ls hl => ?_)
      refine lv_goto (tgt := 17) zx zb dX7_takes_63 (by decide) ?_
      exact ih17 ((10 * f + S 28 f - (j + 1)).toNat) (by omega) (j + 1) rfl (by omega) _ _ (hp_eq (by exact (del_step (by decide) (S 26) (S 27) hj.1)) hH) ls (lv_sub hl [1, 2, 3, 0] rfl)
  obtain ⟨H, hHe⟩ : ∃ H : Heap, H = s.heap := ⟨_, rfl⟩
  rw [show (Hp g S s s.heap []) = Hp g S s H [] by rw [hHe]] at hH
  rw [← hHe]
  refine lv_aload_n zx zb dX7_takes_0 rfl (lv_at hl 0 rfl) ?_
  refine gf_X7_22 C0 hH dX7_takes_1 ?_
  refine lv_iload_n zx zb dX7_takes_4 rfl (lv_at hl 1 rfl) ?_
  refine lv_dup2_11 zx zb dX7_takes_5 rfl rfl ?_
  refine al_28 C0 hH (by omega) (by omega) dX7_takes_6 ?_
  refine bi_const (n := 1) zx zb dX7_takes_7 ?_
  refine bi_sub zx zb dX7_takes_8 ?_
  refine as_28 C0 hH (by omega) (by omega) dX7_takes_9 (fun H locs hH => ?_)
  refine bi_bip (n := 10) zx zb dX7_takes_10 (by decide) ?_
  refine lv_iload_n zx zb dX7_takes_12 rfl (lv_at hl 1 rfl) ?_
  refine bi_mul zx zb dX7_takes_13 ?_
  refine lv_iload_n zx zb dX7_takes_14 rfl (lv_at hl 2 rfl) ?_
  refine bi_add zx zb dX7_takes_15 ?_
  refine lv_istore_n (lv' := [(3, .int (iI ((10 * f) + k))), (0, .ref (g.1 23)), (1, .int (iI f)), (2, .int (iI k))]) zx zb dX7_takes_16 rfl hl (by decide) rfl (fun ls hl => ?_)
  exact L17 _ ((10 * f) + k) rfl (by omega) _ _ (hp_eq (by rw [delA_0, delA_0]; exact (s2_id _ 26 27 (by decide)).symm) hH) ls (lv_sub hl [1, 2, 3, 0] rfl)
