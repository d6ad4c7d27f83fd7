set_option maxRecDepth 100000 in
set_option maxHeartbeats 4000000 in
theorem c_X5_place (l : Launch) (g : gT) (S : gSt) (f k : Int)  : MetG l g yX5_place cX5_place 2 (some .int) 0 0 [.int (iI f), .int (iI k)] S (some (.int (iI (10 * f + k)))) S := by
  refine bodyG (by decide +kernel) (Nat.le_of_ble_eq_true rfl) ?_
  intro p e s m args below meth c ls C0 hret hlk hl hH
  have zx := C0.1
  have zb := C0.2.1
  have hl : lv_has ls 2 [(0, .int (iI f)), (1, .int (iI k))] := hl
  obtain ⟨H, hHe⟩ : ∃ H : Heap, H = s.heap := ⟨_, rfl⟩
  rw [show (Hp g S s s.heap []) = Hp g S s H [] by rw [hHe]] at hH
  rw [← hHe]
  refine lv_iload_n zx zb dX5_place_0 rfl (lv_at hl 0 rfl) ?_
  refine bi_bip (n := 10) zx zb dX5_place_1 (by decide) ?_
  refine bi_mul zx zb dX5_place_3 ?_
  refine lv_iload_n zx zb dX5_place_4 rfl (lv_at hl 1 rfl) ?_
  refine bi_add zx zb dX5_place_5 ?_
  exact retI C0 hret hlk hH (by omega) (rfl) dX5_place_6
set_option maxRecDepth 100000 in
set_option maxHeartbeats 4000000 in
theorem c_X5_appendFigure (l : Launch) (g : gT) (S : gSt) (hn : 0 ≤ S 4 0 ∧ S 4 0 < 8) : MetG l g yX5_appendFigure cX5_appendFigure 2 (some .int) 0 0 [.ref (g.1 4)] S (some (.int (iI (S 4 0)))) (st S 4 0 (S 4 0 + 1)) := by
  refine bodyG (by decide +kernel) (Nat.le_of_ble_eq_true rfl) ?_
  intro p e s m args below meth c ls C0 hret hlk hl hH
  have zx := C0.1
  have zb := C0.2.1
  have hl : lv_has ls 2 [(0, .ref (g.1 4))] := hl
  obtain ⟨H, hHe⟩ : ∃ H : Heap, H = s.heap := ⟨_, rfl⟩
  rw [show (Hp g S s s.heap []) = Hp g S s H [] by rw [hHe]] at hH
  rw [← hHe]
  refine lv_aload_n zx zb dX5_appendFigure_0 rfl (lv_at hl 0 rfl) ?_
  refine gf_X5_21 C0 hH dX5_appendFigure_1 ?_
  refine lv_istore_n (lv' := [(1, .int (iI (S 4 0))), (0, .ref (g.1 4))]) zx zb dX5_appendFigure_4 rfl hl (by decide) rfl (fun ls hl => ?_)
  refine lv_iload_n zx zb dX5_appendFigure_5 rfl (lv_at hl 0 rfl) ?_
  refine bi_bip (n := 8) zx zb dX5_appendFigure_6 (by decide) ?_
  refine bq_ge (tgt := 21) zx zb dX5_appendFigure_8 (by decide) ⟨by omega, by omega⟩ ⟨by omega, by omega⟩ (fun zq8 => ?_) (fun zq8 => ?_)
  · exact absurd zq8 (by omega)
  · refine lv_aload_n zx zb dX5_appendFigure_11 rfl (lv_at hl 1 rfl) ?_
    refine lv_dup zx zb dX5_appendFigure_12 rfl ?_
    refine gf_X5_21 C0 hH dX5_appendFigure_13 ?_
    refine bi_const (n := 1) zx zb dX5_appendFigure_16 ?_
    refine bi_add zx zb dX5_appendFigure_17 ?_
    refine pf_X5_21 C0 hH dX5_appendFigure_18 (fun H locs hH => ?_)
    refine lv_iload_n zx zb dX5_appendFigure_21 rfl (lv_at hl 0 rfl) ?_
    exact retI C0 hret hlk hH (by rfl) (rfl) dX5_appendFigure_22
set_option maxRecDepth 100000 in
set_option maxHeartbeats 4000000 in
theorem c_X5_hasStar (l : Launch) (g : gT) (S : gSt) (f z : Int) (hf : 0 ≤ f ∧ f < 8) (hz : 0 ≤ z ∧ z < 24) (hN : okN (S 5)) (hE : okE (S 5) (S 6)) (hO : okE (S 5) (S 7)) : MetG l g yX5_hasStar cX5_hasStar 5 (some .boolean) 1 21 [.ref (g.1 4), .int (iI f), .int (iI z)] S (some (.int (iI (if hsB (S 5) (S 6) (S 7) f z = true then 1 else 0)))) S := by
  refine bodyG (by decide +kernel) (Nat.le_of_ble_eq_true rfl) ?_
  intro p e s m args below meth c ls C0 hret hlk hl hH
  have zx := C0.1
  have zb := C0.2.1
  have hl : lv_has ls 5 [(0, .ref (g.1 4)), (1, .int (iI f)), (2, .int (iI z))] := hl
  have L2 : ∀ (μ : Nat) (i : Int), (S 5 f - i).toNat = μ → (0 ≤ i ∧ i ≤ S 5 f) → (hsB (S 5) (S 6) (S 7) f z = exF (hsQ (S 6) (S 7) z) (S 5 f - i).toNat (10 * f + i)) → ∀ (H : Heap) (locs : List Loc), Hp g S s H locs → ∀ ls : Array Slot, lv_has ls 5 [(0, .ref (g.1 4)), (1, .int (iI f)), (2, .int (iI z)), (3, .int (iI i))] → W p l e { frames := 1, cells := 0, slots := 0, locals := 21 } s m args below meth c H locs 0 0 (MQ below (RetG g (some (.int (iI (if hsB (S 5) (S 6) (S 7) f z = true then 1 else 0)))) S) args s 0 0 (oA g)) (F0 m 2 ls []) := by
    refine lpN (fun μ2 ih2 => ?_)
    intro i hμ2 hi hR H locs hH ls hl
    have hn := hN f hf.1 hf.2
    refine lv_iload_n zx zb dX5_hasStar_2 rfl (lv_at hl 3 rfl) ?_
    refine lv_aload_n zx zb dX5_hasStar_3 rfl (lv_at hl 0 rfl) ?_
    refine gf_X5_9 C0 hH dX5_hasStar_4 ?_
    refine lv_iload_n zx zb dX5_hasStar_7 rfl (lv_at hl 1 rfl) ?_
    refine al_5 C0 hH (by omega) (by omega) dX5_hasStar_8 ?_
    refine bq_ge (tgt := 49) zx zb dX5_hasStar_9 (by decide) ⟨by omega, by omega⟩ ⟨by omega, by omega⟩ (fun zq9 => ?_) (fun zq9 => ?_)
    · refine bi_const (n := 0) zx zb dX5_hasStar_49 ?_
      exact retZ C0 hret hlk hH (by rw [hR, exF_e2 (by omega)]; rfl) (by omega) (rfl) dX5_hasStar_50
    · have he := hE f i hf.1 hf.2 (by omega) (by omega)
      have ho := hO f i hf.1 hf.2 (by omega) (by omega)
      refine lv_iload_n zx zb dX5_hasStar_12 rfl (lv_at hl 1 rfl) ?_
      refine lv_iload_n zx zb dX5_hasStar_13 rfl (lv_at hl 3 rfl) ?_
      refine csI (rest := []) (As := [.int (iI f), .int (iI i)]) C0 hH (c_X5_place l g S f i) kw_X5_25 ky_X5_place ⟨Nat.le_of_ble_eq_true rfl, Nat.le_of_ble_eq_true rfl⟩ ⟨Nat.zero_le _, Nat.zero_le _⟩ rfl hl.1 rfl (Nat.le_of_ble_eq_true rfl) dX5_hasStar_14 (fun H locs hH => ?_)
      refine lv_istore (lv' := [(4, .int (iI (10 * f + i))), (0, .ref (g.1 4)), (1, .int (iI f)), (2, .int (iI z)), (3, .int (iI i))]) zx zb dX5_hasStar_17 hl (by decide) rfl (fun ls hl => ?_)
      refine lv_aload_n zx zb dX5_hasStar_19 rfl (lv_at hl 1 rfl) ?_
      refine gf_X5_15 C0 hH dX5_hasStar_20 ?_
      refine lv_iload zx zb dX5_hasStar_23 (lv_at hl 0 rfl) ?_
      refine al_6 C0 hH (by omega) (by omega) dX5_hasStar_25 ?_
      refine lv_iload_n zx zb dX5_hasStar_26 rfl (lv_at hl 3 rfl) ?_
      refine bq_eq (tgt := 41) zx zb dX5_hasStar_27 (by decide) ⟨by omega, by omega⟩ ⟨by omega, by omega⟩ (fun zq27 => ?_) (fun zq27 => ?_)
      · refine bi_const (n := 1) zx zb dX5_hasStar_41 ?_
        exact retZ C0 hret hlk hH (by rw [hR, exF_f zq9 (by first | (simp [hsQ, zq27]; done) | (simp [hsQ, zq38]; done))]; rfl) (by omega) (rfl) dX5_hasStar_42
      · refine lv_aload_n zx zb dX5_hasStar_30 rfl (lv_at hl 1 rfl) ?_
        refine gf_X5_18 C0 hH dX5_hasStar_31 ?_
        refine lv_iload zx zb dX5_hasStar_34 (lv_at hl 0 rfl) ?_
        refine al_7 C0 hH (by omega) (by omega) dX5_hasStar_36 ?_
        refine lv_iload_n zx zb dX5_hasStar_37 rfl (lv_at hl 3 rfl) ?_
        refine bq_ne (tgt := 43) zx zb dX5_hasStar_38 (by decide) ⟨by omega, by omega⟩ ⟨by omega, by omega⟩ (fun zq38 => ?_) (fun zq38 => ?_)
        · refine bi_inc (k0 := 4) (n := 1) (lv' := [(3, .int (iI (i + 1))), (4, .int (iI (10 * f + i))), (0, .ref (g.1 4)), (1, .int (iI f)), (2, .int (iI z))]) zx zb dX5_hasStar_43 hl rfl (by decide) rfl (fun ls hl => ?_)
          refine lv_goto (tgt := 2) zx zb dX5_hasStar_46 (by decide) ?_
          exact ih2 ((S 5 f - (i + 1)).toNat) (by omega) (i + 1) rfl (by omega) (by rw [hR, exF_t zq9 (by simp [hsQ, zq27, zq38]), Int.add_assoc]) _ _ hH ls (lv_sub hl [2, 3, 4, 0] rfl)
        · refine bi_const (n := 1) zx zb dX5_hasStar_41 ?_
          exact retZ C0 hret hlk hH (by rw [hR, exF_f zq9 (by first | (simp [hsQ, zq27]; done) | (simp [hsQ, zq38]; done))]; rfl) (by omega) (rfl) dX5_hasStar_42
  obtain ⟨H, hHe⟩ : ∃ H : Heap, H = s.heap := ⟨_, rfl⟩
  rw [show (Hp g S s s.heap []) = Hp g S s H [] by rw [hHe]] at hH
  rw [← hHe]
  have hn := hN f hf.1 hf.2
  refine bi_const (n := 0) zx zb dX5_hasStar_0 ?_
  refine lv_istore_n (lv' := [(3, .int (iI 0)), (0, .ref (g.1 4)), (1, .int (iI f)), (2, .int (iI z))]) zx zb dX5_hasStar_1 rfl hl (by decide) rfl (fun ls hl => ?_)
  exact L2 _ 0 rfl (by omega) (by unfold hsB; rw [Int.sub_zero, Int.add_zero]) _ _ hH ls (lv_sub hl [1, 2, 3, 0] rfl)
set_option maxRecDepth 100000 in
set_option maxHeartbeats 4000000 in
theorem c_X5_joins (l : Launch) (g : gT) (S : gSt) (f a b : Int) (hf : 0 ≤ f ∧ f < 8) (ha : 0 ≤ a ∧ a < 24) (hb : 0 ≤ b ∧ b < 24) (hN : okN (S 5)) (hE : okE (S 5) (S 6)) (hO : okE (S 5) (S 7)) : MetG l g yX5_joins cX5_joins 8 (some .boolean) 1 21 [.ref (g.1 4), .int (iI f), .int (iI a), .int (iI b)] S (some (.int (iI (if jnB (S 5) (S 6) (S 7) f a b = true then 1 else 0)))) S := by
  refine bodyG (by decide +kernel) (Nat.le_of_ble_eq_true rfl) ?_
  intro p e s m args below meth c ls C0 hret hlk hl hH
  have zx := C0.1
  have zb := C0.2.1
  have hl : lv_has ls 8 [(0, .ref (g.1 4)), (1, .int (iI f)), (2, .int (iI a)), (3, .int (iI b))] := hl
  have L3 : ∀ (μ : Nat) (i : Int), (S 5 f - i).toNat = μ → (0 ≤ i ∧ i ≤ S 5 f) → (jnB (S 5) (S 6) (S 7) f a b = exF (jnQ (S 6) (S 7) a b) (S 5 f - i).toNat (10 * f + i)) → ∀ (H : Heap) (locs : List Loc), Hp g S s H locs → ∀ ls : Array Slot, lv_has ls 8 [(0, .ref (g.1 4)), (1, .int (iI f)), (2, .int (iI a)), (3, .int (iI b)), (4, .int (iI i))] → W p l e { frames := 1, cells := 0, slots := 0, locals := 21 } s m args below meth c H locs 0 0 (MQ below (RetG g (some (.int (iI (if jnB (S 5) (S 6) (S 7) f a b = true then 1 else 0)))) S) args s 0 0 (oA g)) (F0 m 3 ls []) := by
    refine lpN (fun μ3 ih3 => ?_)
    intro i hμ3 hi hR H locs hH ls hl
    have hn := hN f hf.1 hf.2
    refine lv_iload zx zb dX5_joins_3 (lv_at hl 4 rfl) ?_
    refine lv_aload_n zx zb dX5_joins_5 rfl (lv_at hl 0 rfl) ?_
    refine gf_X5_9 C0 hH dX5_joins_6 ?_
    refine lv_iload_n zx zb dX5_joins_9 rfl (lv_at hl 1 rfl) ?_
    refine al_5 C0 hH (by omega) (by omega) dX5_joins_10 ?_
    refine bq_ge (tgt := 98) zx zb dX5_joins_11 (by decide) ⟨by omega, by omega⟩ ⟨by omega, by omega⟩ (fun zq11 => ?_) (fun zq11 => ?_)
    · refine bi_const (n := 0) zx zb dX5_joins_98 ?_
      exact retZ C0 hret hlk hH (by rw [hR, exF_e2 (by omega)]; rfl) (by omega) (rfl) dX5_joins_99
    · have he := hE f i hf.1 hf.2 (by omega) (by omega)
      have ho := hO f i hf.1 hf.2 (by omega) (by omega)
      refine lv_iload_n zx zb dX5_joins_14 rfl (lv_at hl 1 rfl) ?_
      refine lv_iload zx zb dX5_joins_15 (lv_at hl 4 rfl) ?_
      refine csI (rest := []) (As := [.int (iI f), .int (iI i)]) C0 hH (c_X5_place l g S f i) kw_X5_25 ky_X5_place ⟨Nat.le_of_ble_eq_true rfl, Nat.le_of_ble_eq_true rfl⟩ ⟨Nat.zero_le _, Nat.zero_le _⟩ rfl hl.1 rfl (Nat.le_of_ble_eq_true rfl) dX5_joins_17 (fun H locs hH => ?_)
      refine lv_istore (lv' := [(5, .int (iI (10 * f + i))), (0, .ref (g.1 4)), (1, .int (iI f)), (2, .int (iI a)), (3, .int (iI b)), (4, .int (iI i))]) zx zb dX5_joins_20 hl (by decide) rfl (fun ls hl => ?_)
      refine lv_aload_n zx zb dX5_joins_22 rfl (lv_at hl 1 rfl) ?_
      refine gf_X5_15 C0 hH dX5_joins_23 ?_
      refine lv_iload zx zb dX5_joins_26 (lv_at hl 0 rfl) ?_
      refine al_6 C0 hH (by omega) (by omega) dX5_joins_28 ?_
      refine lv_iload_n zx zb dX5_joins_29 rfl (lv_at hl 3 rfl) ?_
      refine bq_ne (tgt := 48) zx zb dX5_joins_30 (by decide) ⟨by omega, by omega⟩ ⟨by omega, by omega⟩ (fun zq30 => ?_) (fun zq30 => ?_)
      · refine bi_const (n := 0) zx zb dX5_joins_48 ?_
        refine lv_istore (lv' := [(6, .int (iI 0)), (5, .int (iI (10 * f + i))), (0, .ref (g.1 4)), (1, .int (iI f)), (2, .int (iI a)), (3, .int (iI b)), (4, .int (iI i))]) zx zb dX5_joins_49 hl (by decide) rfl (fun ls hl => ?_)
        refine lv_aload_n zx zb dX5_joins_51 rfl (lv_at hl 2 rfl) ?_
        refine gf_X5_15 C0 hH dX5_joins_52 ?_
        refine lv_iload zx zb dX5_joins_55 (lv_at hl 1 rfl) ?_
        refine al_6 C0 hH (by omega) (by omega) dX5_joins_57 ?_
        refine lv_iload_n zx zb dX5_joins_58 rfl (lv_at hl 5 rfl) ?_
        refine bq_ne (tgt := 77) zx zb dX5_joins_59 (by decide) ⟨by omega, by omega⟩ ⟨by omega, by omega⟩ (fun zq59 => ?_) (fun zq59 => ?_)
        · refine bi_const (n := 0) zx zb dX5_joins_77 ?_
          refine lv_istore (lv' := [(7, .int (iI 0)), (6, .int (iI 0)), (5, .int (iI (10 * f + i))), (0, .ref (g.1 4)), (1, .int (iI f)), (2, .int (iI a)), (3, .int (iI b)), (4, .int (iI i))]) zx zb dX5_joins_78 hl (by decide) rfl (fun ls hl => ?_)
          refine lv_iload zx zb dX5_joins_80 (lv_at hl 1 rfl) ?_
          refine bz_ne (tgt := 90) zx zb dX5_joins_82 (by decide) ⟨by omega, by omega⟩ (fun zq82 => ?_) (fun zq82 => ?_)
          · exact absurd zq82 (by decide)
          · refine lv_iload zx zb dX5_joins_85 (lv_at hl 0 rfl) ?_
            refine bz_eq (tgt := 92) zx zb dX5_joins_87 (by decide) ⟨by omega, by omega⟩ (fun zq87 => ?_) (fun zq87 => ?_)
            · refine bi_inc (k0 := 7) (n := 1) (lv' := [(4, .int (iI (i + 1))), (7, .int (iI 0)), (6, .int (iI 0)), (5, .int (iI (10 * f + i))), (0, .ref (g.1 4)), (1, .int (iI f)), (2, .int (iI a)), (3, .int (iI b))]) zx zb dX5_joins_92 hl rfl (by decide) rfl (fun ls hl => ?_)
              refine lv_goto (tgt := 3) zx zb dX5_joins_95 (by decide) ?_
              exact ih3 ((S 5 f - (i + 1)).toNat) (by omega) (i + 1) rfl (by omega) (by rw [hR, exF_t zq11 (by simp only [jnQ, *]; simp_all), Int.add_assoc]) _ _ hH ls (lv_sub hl [4, 5, 6, 7, 0] rfl)
            · exact absurd zq87 (by decide)
        · refine lv_aload_n zx zb dX5_joins_62 rfl (lv_at hl 2 rfl) ?_
          refine gf_X5_18 C0 hH dX5_joins_63 ?_
          refine lv_iload zx zb dX5_joins_66 (lv_at hl 1 rfl) ?_
          refine al_7 C0 hH (by omega) (by omega) dX5_joins_68 ?_
          refine lv_iload_n zx zb dX5_joins_69 rfl (lv_at hl 4 rfl) ?_
          refine bq_ne (tgt := 77) zx zb dX5_joins_70 (by decide) ⟨by omega, by omega⟩ ⟨by omega, by omega⟩ (fun zq70 => ?_) (fun zq70 => ?_)
          · refine bi_const (n := 0) zx zb dX5_joins_77 ?_
            refine lv_istore (lv' := [(7, .int (iI 0)), (6, .int (iI 0)), (5, .int (iI (10 * f + i))), (0, .ref (g.1 4)), (1, .int (iI f)), (2, .int (iI a)), (3, .int (iI b)), (4, .int (iI i))]) zx zb dX5_joins_78 hl (by decide) rfl (fun ls hl => ?_)
            refine lv_iload zx zb dX5_joins_80 (lv_at hl 1 rfl) ?_
            refine bz_ne (tgt := 90) zx zb dX5_joins_82 (by decide) ⟨by omega, by omega⟩ (fun zq82 => ?_) (fun zq82 => ?_)
            · exact absurd zq82 (by decide)
            · refine lv_iload zx zb dX5_joins_85 (lv_at hl 0 rfl) ?_
              refine bz_eq (tgt := 92) zx zb dX5_joins_87 (by decide) ⟨by omega, by omega⟩ (fun zq87 => ?_) (fun zq87 => ?_)
              · refine bi_inc (k0 := 7) (n := 1) (lv' := [(4, .int (iI (i + 1))), (7, .int (iI 0)), (6, .int (iI 0)), (5, .int (iI (10 * f + i))), (0, .ref (g.1 4)), (1, .int (iI f)), (2, .int (iI a)), (3, .int (iI b))]) zx zb dX5_joins_92 hl rfl (by decide) rfl (fun ls hl => ?_)
                refine lv_goto (tgt := 3) zx zb dX5_joins_95 (by decide) ?_
                exact ih3 ((S 5 f - (i + 1)).toNat) (by omega) (i + 1) rfl (by omega) (by rw [hR, exF_t zq11 (by simp only [jnQ, *]; simp_all), Int.add_assoc]) _ _ hH ls (lv_sub hl [4, 5, 6, 7, 0] rfl)
              · exact absurd zq87 (by decide)
          · refine bi_const (n := 1) zx zb dX5_joins_73 ?_
            refine lv_goto (tgt := 78) zx zb dX5_joins_74 (by decide) ?_
            refine lv_istore (lv' := [(7, .int (iI 1)), (6, .int (iI 0)), (5, .int (iI (10 * f + i))), (0, .ref (g.1 4)), (1, .int (iI f)), (2, .int (iI a)), (3, .int (iI b)), (4, .int (iI i))]) zx zb dX5_joins_78 hl (by decide) rfl (fun ls hl => ?_)
            refine lv_iload zx zb dX5_joins_80 (lv_at hl 1 rfl) ?_
            refine bz_ne (tgt := 90) zx zb dX5_joins_82 (by decide) ⟨by omega, by omega⟩ (fun zq82 => ?_) (fun zq82 => ?_)
            · exact absurd zq82 (by decide)
            · refine lv_iload zx zb dX5_joins_85 (lv_at hl 0 rfl) ?_
              refine bz_eq (tgt := 92) zx zb dX5_joins_87 (by decide) ⟨by omega, by omega⟩ (fun zq87 => ?_) (fun zq87 => ?_)
              · exact absurd zq87 (by decide)
              · refine bi_const (n := 1) zx zb dX5_joins_90 ?_
                exact retZ C0 hret hlk hH (by first | exact absurd rfl zq82 | exact absurd rfl zq85 | (rw [hR, exF_f zq11 (by simp_all [jnQ])]; rfl)) (by omega) (rfl) dX5_joins_91
      · refine lv_aload_n zx zb dX5_joins_33 rfl (lv_at hl 1 rfl) ?_
        refine gf_X5_18 C0 hH dX5_joins_34 ?_
        refine lv_iload zx zb dX5_joins_37 (lv_at hl 0 rfl) ?_
        refine al_7 C0 hH (by omega) (by omega) dX5_joins_39 ?_
        refine lv_iload_n zx zb dX5_joins_40 rfl (lv_at hl 4 rfl) ?_
        refine bq_ne (tgt := 48) zx zb dX5_joins_41 (by decide) ⟨by omega, by omega⟩ ⟨by omega, by omega⟩ (fun zq41 => ?_) (fun zq41 => ?_)
        · refine bi_const (n := 0) zx zb dX5_joins_48 ?_
          refine lv_istore (lv' := [(6, .int (iI 0)), (5, .int (iI (10 * f + i))), (0, .ref (g.1 4)), (1, .int (iI f)), (2, .int (iI a)), (3, .int (iI b)), (4, .int (iI i))]) zx zb dX5_joins_49 hl (by decide) rfl (fun ls hl => ?_)
          refine lv_aload_n zx zb dX5_joins_51 rfl (lv_at hl 2 rfl) ?_
          refine gf_X5_15 C0 hH dX5_joins_52 ?_
          refine lv_iload zx zb dX5_joins_55 (lv_at hl 1 rfl) ?_
          refine al_6 C0 hH (by omega) (by omega) dX5_joins_57 ?_
          refine lv_iload_n zx zb dX5_joins_58 rfl (lv_at hl 5 rfl) ?_
          refine bq_ne (tgt := 77) zx zb dX5_joins_59 (by decide) ⟨by omega, by omega⟩ ⟨by omega, by omega⟩ (fun zq59 => ?_) (fun zq59 => ?_)
          · refine bi_const (n := 0) zx zb dX5_joins_77 ?_
            refine lv_istore (lv' := [(7, .int (iI 0)), (6, .int (iI 0)), (5, .int (iI (10 * f + i))), (0, .ref (g.1 4)), (1, .int (iI f)), (2, .int (iI a)), (3, .int (iI b)), (4, .int (iI i))]) zx zb dX5_joins_78 hl (by decide) rfl (fun ls hl => ?_)
            refine lv_iload zx zb dX5_joins_80 (lv_at hl 1 rfl) ?_
            refine bz_ne (tgt := 90) zx zb dX5_joins_82 (by decide) ⟨by omega, by omega⟩ (fun zq82 => ?_) (fun zq82 => ?_)
            · exact absurd zq82 (by decide)
            · refine lv_iload zx zb dX5_joins_85 (lv_at hl 0 rfl) ?_
              refine bz_eq (tgt := 92) zx zb dX5_joins_87 (by decide) ⟨by omega, by omega⟩ (fun zq87 => ?_) (fun zq87 => ?_)
              · refine bi_inc (k0 := 7) (n := 1) (lv' := [(4, .int (iI (i + 1))), (7, .int (iI 0)), (6, .int (iI 0)), (5, .int (iI (10 * f + i))), (0, .ref (g.1 4)), (1, .int (iI f)), (2, .int (iI a)), (3, .int (iI b))]) zx zb dX5_joins_92 hl rfl (by decide) rfl (fun ls hl => ?_)
                refine lv_goto (tgt := 3) zx zb dX5_joins_95 (by decide) ?_
                exact ih3 ((S 5 f - (i + 1)).toNat) (by omega) (i + 1) rfl (by omega) (by rw [hR, exF_t zq11 (by simp only [jnQ, *]; simp_all), Int.add_assoc]) _ _ hH ls (lv_sub hl [4, 5, 6, 7, 0] rfl)
              · exact absurd zq87 (by decide)
          · refine lv_aload_n zx zb dX5_joins_62 rfl (lv_at hl 2 rfl) ?_
            refine gf_X5_18 C0 hH dX5_joins_63 ?_
            refine lv_iload zx zb dX5_joins_66 (lv_at hl 1 rfl) ?_
            refine al_7 C0 hH (by omega) (by omega) dX5_joins_68 ?_
            refine lv_iload_n zx zb dX5_joins_69 rfl (lv_at hl 4 rfl) ?_
            refine bq_ne (tgt := 77) zx zb dX5_joins_70 (by decide) ⟨by omega, by omega⟩ ⟨by omega, by omega⟩ (fun zq70 => ?_) (fun zq70 => ?_)
            · refine bi_const (n := 0) zx zb dX5_joins_77 ?_
              refine lv_istore (lv' := [(7, .int (iI 0)), (6, .int (iI 0)), (5, .int (iI (10 * f + i))), (0, .ref (g.1 4)), (1, .int (iI f)), (2, .int (iI a)), (3, .int (iI b)), (4, .int (iI i))]) zx zb dX5_joins_78 hl (by decide) rfl (fun ls hl => ?_)
              refine lv_iload zx zb dX5_joins_80 (lv_at hl 1 rfl) ?_
              refine bz_ne (tgt := 90) zx zb dX5_joins_82 (by decide) ⟨by omega, by omega⟩ (fun zq82 => ?_) (fun zq82 => ?_)
              · exact absurd zq82 (by decide)
              · refine lv_iload zx zb dX5_joins_85 (lv_at hl 0 rfl) ?_
                refine bz_eq (tgt := 92) zx zb dX5_joins_87 (by decide) ⟨by omega, by omega⟩ (fun zq87 => ?_) (fun zq87 => ?_)
                · refine bi_inc (k0 := 7) (n := 1) (lv' := [(4, .int (iI (i + 1))), (7, .int (iI 0)), (6, .int (iI 0)), (5, .int (iI (10 * f + i))), (0, .ref (g.1 4)), (1, .int (iI f)), (2, .int (iI a)), (3, .int (iI b))]) zx zb dX5_joins_92 hl rfl (by decide) rfl (fun ls hl => ?_)
                  refine lv_goto (tgt := 3) zx zb dX5_joins_95 (by decide) ?_
                  exact ih3 ((S 5 f - (i + 1)).toNat) (by omega) (i + 1) rfl (by omega) (by rw [hR, exF_t zq11 (by simp only [jnQ, *]; simp_all), Int.add_assoc]) _ _ hH ls (lv_sub hl [4, 5, 6, 7, 0] rfl)
                · exact absurd zq87 (by decide)
            · refine bi_const (n := 1) zx zb dX5_joins_73 ?_
              refine lv_goto (tgt := 78) zx zb dX5_joins_74 (by decide) ?_
              refine lv_istore (lv' := [(7, .int (iI 1)), (6, .int (iI 0)), (5, .int (iI (10 * f + i))), (0, .ref (g.1 4)), (1, .int (iI f)), (2, .int (iI a)), (3, .int (iI b)), (4, .int (iI i))]) zx zb dX5_joins_78 hl (by decide) rfl (fun ls hl => ?_)
              refine lv_iload zx zb dX5_joins_80 (lv_at hl 1 rfl) ?_
              refine bz_ne (tgt := 90) zx zb dX5_joins_82 (by decide) ⟨by omega, by omega⟩ (fun zq82 => ?_) (fun zq82 => ?_)
              · exact absurd zq82 (by decide)
              · refine lv_iload zx zb dX5_joins_85 (lv_at hl 0 rfl) ?_
                refine bz_eq (tgt := 92) zx zb dX5_joins_87 (by decide) ⟨by omega, by omega⟩ (fun zq87 => ?_) (fun zq87 => ?_)
                · exact absurd zq87 (by decide)
                · refine bi_const (n := 1) zx zb dX5_joins_90 ?_
                  exact retZ C0 hret hlk hH (by first | exact absurd rfl zq82 | exact absurd rfl zq85 | (rw [hR, exF_f zq11 (by simp_all [jnQ])]; rfl)) (by omega) (rfl) dX5_joins_91
        · refine bi_const (n := 1) zx zb dX5_joins_44 ?_
          refine lv_goto (tgt := 49) zx zb dX5_joins_45 (by decide) ?_
          refine lv_istore (lv' := [(6, .int (iI 1)), (5, .int (iI (10 * f + i))), (0, .ref (g.1 4)), (1, .int (iI f)), (2, .int (iI a)), (3, .int (iI b)), (4, .int (iI i))]) zx zb dX5_joins_49 hl (by decide) rfl (fun ls hl => ?_)
          refine lv_aload_n zx zb dX5_joins_51 rfl (lv_at hl 2 rfl) ?_
          refine gf_X5_15 C0 hH dX5_joins_52 ?_
          refine lv_iload zx zb dX5_joins_55 (lv_at hl 1 rfl) ?_
          refine al_6 C0 hH (by omega) (by omega) dX5_joins_57 ?_
          refine lv_iload_n zx zb dX5_joins_58 rfl (lv_at hl 5 rfl) ?_
          refine bq_ne (tgt := 77) zx zb dX5_joins_59 (by decide) ⟨by omega, by omega⟩ ⟨by omega, by omega⟩ (fun zq59 => ?_) (fun zq59 => ?_)
          · refine bi_const (n := 0) zx zb dX5_joins_77 ?_
            refine lv_istore (lv' := [(7, .int (iI 0)), (6, .int (iI 1)), (5, .int (iI (10 * f + i))), (0, .ref (g.1 4)), (1, .int (iI f)), (2, .int (iI a)), (3, .int (iI b)), (4, .int (iI i))]) zx zb dX5_joins_78 hl (by decide) rfl (fun ls hl => ?_)
            refine lv_iload zx zb dX5_joins_80 (lv_at hl 1 rfl) ?_
            refine bz_ne (tgt := 90) zx zb dX5_joins_82 (by decide) ⟨by omega, by omega⟩ (fun zq82 => ?_) (fun zq82 => ?_)
            · refine bi_const (n := 1) zx zb dX5_joins_90 ?_
              exact retZ C0 hret hlk hH (by first | exact absurd rfl zq82 | exact absurd rfl zq85 | (rw [hR, exF_f zq11 (by simp_all [jnQ])]; rfl)) (by omega) (rfl) dX5_joins_91
            · exact absurd zq82 (by decide)
          · refine lv_aload_n zx zb dX5_joins_62 rfl (lv_at hl 2 rfl) ?_
            refine gf_X5_18 C0 hH dX5_joins_63 ?_
            refine lv_iload zx zb dX5_joins_66 (lv_at hl 1 rfl) ?_
            refine al_7 C0 hH (by omega) (by omega) dX5_joins_68 ?_
            refine lv_iload_n zx zb dX5_joins_69 rfl (lv_at hl 4 rfl) ?_
            refine bq_ne (tgt := 77) zx zb dX5_joins_70 (by decide) ⟨by omega, by omega⟩ ⟨by omega, by omega⟩ (fun zq70 => ?_) (fun zq70 => ?_)
            · refine bi_const (n := 0) zx zb dX5_joins_77 ?_
              refine lv_istore (lv' := [(7, .int (iI 0)), (6, .int (iI 1)), (5, .int (iI (10 * f + i))), (0, .ref (g.1 4)), (1, .int (iI f)), (2, .int (iI a)), (3, .int (iI b)), (4, .int (iI i))]) zx zb dX5_joins_78 hl (by decide) rfl (fun ls hl => ?_)
              refine lv_iload zx zb dX5_joins_80 (lv_at hl 1 rfl) ?_
              refine bz_ne (tgt := 90) zx zb dX5_joins_82 (by decide) ⟨by omega, by omega⟩ (fun zq82 => ?_) (fun zq82 => ?_)
              · refine bi_const (n := 1) zx zb dX5_joins_90 ?_
                exact retZ C0 hret hlk hH (by first | exact absurd rfl zq82 | exact absurd rfl zq85 | (rw [hR, exF_f zq11 (by simp_all [jnQ])]; rfl)) (by omega) (rfl) dX5_joins_91
              · exact absurd zq82 (by decide)
            · refine bi_const (n := 1) zx zb dX5_joins_73 ?_
              refine lv_goto (tgt := 78) zx zb dX5_joins_74 (by decide) ?_
              refine lv_istore (lv' := [(7, .int (iI 1)), (6, .int (iI 1)), (5, .int (iI (10 * f + i))), (0, .ref (g.1 4)), (1, .int (iI f)), (2, .int (iI a)), (3, .int (iI b)), (4, .int (iI i))]) zx zb dX5_joins_78 hl (by decide) rfl (fun ls hl => ?_)
              refine lv_iload zx zb dX5_joins_80 (lv_at hl 1 rfl) ?_
              refine bz_ne (tgt := 90) zx zb dX5_joins_82 (by decide) ⟨by omega, by omega⟩ (fun zq82 => ?_) (fun zq82 => ?_)
              · refine bi_const (n := 1) zx zb dX5_joins_90 ?_
                exact retZ C0 hret hlk hH (by first | exact absurd rfl zq82 | exact absurd rfl zq85 | (rw [hR, exF_f zq11 (by simp_all [jnQ])]; rfl)) (by omega) (rfl) dX5_joins_91
              · exact absurd zq82 (by decide)
  obtain ⟨H, hHe⟩ : ∃ H : Heap, H = s.heap := ⟨_, rfl⟩
  rw [show (Hp g S s s.heap []) = Hp g S s H [] by rw [hHe]] at hH
  rw [← hHe]
  have hn := hN f hf.1 hf.2
  refine bi_const (n := 0) zx zb dX5_joins_0 ?_
  refine lv_istore (lv' := [(4, .int (iI 0)), (0, .ref (g.1 4)), (1, .int (iI f)), (2, .int (iI a)), (3, .int (iI b))]) zx zb dX5_joins_1 hl (by decide) rfl (fun ls hl => ?_)
  exact L3 _ 0 rfl (by omega) (by unfold jnB; rw [Int.sub_zero, Int.add_zero]) _ _ hH ls (lv_sub hl [1, 2, 3, 4, 0] rfl)
set_option maxRecDepth 100000 in
set_option maxHeartbeats 4000000 in
theorem c_X5_ownerOf (l : Launch) (g : gT) (S : gSt) (z : Int) (hz : 0 ≤ z ∧ z < 24) (hnf : 0 ≤ S 4 0 ∧ S 4 0 ≤ 8) (hN : okN (S 5)) (hE : okE (S 5) (S 6)) (hO : okE (S 5) (S 7)) : MetG l g yX5_ownerOf cX5_ownerOf 3 (some .int) 2 45 [.ref (g.1 4), .int (iI z)] S (some (.int (iI (owI (S 4 0) (S 5) (S 6) (S 7) z)))) S := by
  refine bodyG (by decide +kernel) (Nat.le_of_ble_eq_true rfl) ?_
  intro p e s m args below meth c ls C0 hret hlk hl hH
  have zx := C0.1
  have zb := C0.2.1
  have hl : lv_has ls 3 [(0, .ref (g.1 4)), (1, .int (iI z))] := hl
  have L2 : ∀ (μ : Nat) (i : Int), (S 4 0 - i).toNat = μ → (0 ≤ i ∧ i ≤ S 4 0) → (owI (S 4 0) (S 5) (S 6) (S 7) z = fdF (fun f => hsB (S 5) (S 6) (S 7) f z) (S 4 0 - i).toNat i) → ∀ (H : Heap) (locs : List Loc), Hp g S s H locs → ∀ ls : Array Slot, lv_has ls 3 [(0, .ref (g.1 4)), (1, .int (iI z)), (2, .int (iI i))] → W p l e { frames := 2, cells := 0, slots := 0, locals := 45 } s m args below meth c H locs 0 0 (MQ below (RetG g (some (.int (iI (owI (S 4 0) (S 5) (S 6) (S 7) z)))) S) args s 0 0 (oA g)) (F0 m 2 ls []) := by
    refine lpN (fun μ2 ih2 => ?_)
    intro i hμ2 hi hR H locs hH ls hl
    refine lv_iload_n zx zb dX5_ownerOf_2 rfl (lv_at hl 2 rfl) ?_
    refine lv_aload_n zx zb dX5_ownerOf_3 rfl (lv_at hl 0 rfl) ?_
    refine gf_X5_21 C0 hH dX5_ownerOf_4 ?_
    refine bq_ge (tgt := 27) zx zb dX5_ownerOf_7 (by decide) ⟨by omega, by omega⟩ ⟨by omega, by omega⟩ (fun zq7 => ?_) (fun zq7 => ?_)
    · refine bi_const (n := (-1)) zx zb dX5_ownerOf_27 ?_
      exact retI C0 hret hlk hH (by rw [hR, fdF_e (by omega)]) (rfl) dX5_ownerOf_28
    · refine lv_aload_n zx zb dX5_ownerOf_10 rfl (lv_at hl 0 rfl) ?_
      refine lv_iload_n zx zb dX5_ownerOf_11 rfl (lv_at hl 2 rfl) ?_
      refine lv_iload_n zx zb dX5_ownerOf_12 rfl (lv_at hl 1 rfl) ?_
      refine cvI (rest := []) (As := [.int (iI i), .int (iI z)]) (b := g.1 4) C0 hH (c_X5_hasStar l g S i z (by omega) (by omega) (hN) (hE) (hO)) kw_X5_29 ky_X5_hasStar ⟨Nat.le_of_ble_eq_true rfl, Nat.le_of_ble_eq_true rfl⟩ ⟨Nat.zero_le _, Nat.zero_le _⟩ 4 rfl rfl rfl hl.1 rfl (Nat.le_of_ble_eq_true rfl) dX5_ownerOf_13 (fun H locs hH => ?_)
      have hb16 := brg (hsB (S 5) (S 6) (S 7) i z)
      refine bz_eq (tgt := 21) zx zb dX5_ownerOf_16 (by decide) ⟨by omega, by omega⟩ (fun zq16 => ?_) (fun zq16 => ?_)
      · refine bi_inc (k0 := 2) (n := 1) (lv' := [(2, .int (iI (i + 1))), (0, .ref (g.1 4)), (1, .int (iI z))]) zx zb dX5_ownerOf_21 hl rfl (by decide) rfl (fun ls hl => ?_)
        refine lv_goto (tgt := 2) zx zb dX5_ownerOf_24 (by decide) ?_
        exact ih2 ((S 4 0 - (i + 1)).toNat) (by omega) (i + 1) rfl (by omega) (by rw [hR, fdF_t zq7 (b0 zq16)]) _ _ hH ls (lv_sub hl [1, 2, 0] rfl)
      · refine lv_iload_n zx zb dX5_ownerOf_19 rfl (lv_at hl 2 rfl) ?_
        exact retI C0 hret hlk hH (by rw [hR, fdF_f zq7 (b1 zq16)]) (rfl) dX5_ownerOf_20
  obtain ⟨H, hHe⟩ : ∃ H : Heap, H = s.heap := ⟨_, rfl⟩
  rw [show (Hp g S s s.heap []) = Hp g S s H [] by rw [hHe]] at hH
  rw [← hHe]
  refine bi_const (n := 0) zx zb dX5_ownerOf_0 ?_
  refine lv_istore_n (lv' := [(2, .int (iI 0)), (0, .ref (g.1 4)), (1, .int (iI z))]) zx zb dX5_ownerOf_1 rfl hl (by decide) rfl (fun ls hl => ?_)
  exact L2 _ 0 rfl (by omega) (by unfold owI; rw [Int.sub_zero]) _ _ hH ls (lv_sub hl [1, 2, 0] rfl)
set_option maxRecDepth 100000 in
set_option maxHeartbeats 4000000 in
theorem c_X5_isOfAnother (l : Launch) (g : gT) (S : gSt) (f z : Int) (hf : 0 ≤ f ∧ f < 8) (hz : 0 ≤ z ∧ z < 24) (hnf : 0 ≤ S 4 0 ∧ S 4 0 ≤ 8) (hN : okN (S 5)) (hE : okE (S 5) (S 6)) (hO : okE (S 5) (S 7)) : MetG l g yX5_isOfAnother cX5_isOfAnother 4 (some .boolean) 3 67 [.ref (g.1 4), .int (iI f), .int (iI z)] S (some (.int (iI (if owI (S 4 0) (S 5) (S 6) (S 7) z ≠ -1 ∧ owI (S 4 0) (S 5) (S 6) (S 7) z ≠ f then 1 else 0)))) S := by
  refine bodyG (by decide +kernel) (Nat.le_of_ble_eq_true rfl) ?_
  intro p e s m args below meth c ls C0 hret hlk hl hH
  have zx := C0.1
  have zb := C0.2.1
  have hl : lv_has ls 4 [(0, .ref (g.1 4)), (1, .int (iI f)), (2, .int (iI z))] := hl
  obtain ⟨H, hHe⟩ : ∃ H : Heap, H = s.heap := ⟨_, rfl⟩
  rw [show (Hp g S s s.heap []) = Hp g S s H [] by rw [hHe]] at hH
  rw [← hHe]
  have hob := owI_b (nf := S 4 0) (n := S 5) (e := S 6) (o := S 7) (z := z) hnf.1
  refine lv_aload_n zx zb dX5_isOfAnother_0 rfl (lv_at hl 0 rfl) ?_
  refine lv_iload_n zx zb dX5_isOfAnother_1 rfl (lv_at hl 2 rfl) ?_
  refine cvI (rest := []) (As := [.int (iI z)]) (b := g.1 4) C0 hH (c_X5_ownerOf l g S z (by omega) (by omega) (hN) (hE) (hO)) kw_X5_33 ky_X5_ownerOf ⟨Nat.le_of_ble_eq_true rfl, Nat.le_of_ble_eq_true rfl⟩ ⟨Nat.zero_le _, Nat.zero_le _⟩ 4 rfl rfl rfl hl.1 rfl (Nat.le_of_ble_eq_true rfl) dX5_isOfAnother_2 (fun H locs hH => ?_)
  refine lv_istore_n (lv' := [(3, .int (iI (owI (S 4 0) (S 5) (S 6) (S 7) z))), (0, .ref (g.1 4)), (1, .int (iI f)), (2, .int (iI z))]) zx zb dX5_isOfAnother_5 rfl hl (by decide) rfl (fun ls hl => ?_)
  refine lv_iload_n zx zb dX5_isOfAnother_6 rfl (lv_at hl 0 rfl) ?_
  refine bi_const (n := (-1)) zx zb dX5_isOfAnother_7 ?_
  refine bq_eq (tgt := 20) zx zb dX5_isOfAnother_8 (by decide) ⟨by omega, by omega⟩ ⟨by omega, by omega⟩ (fun zq8 => ?_) (fun zq8 => ?_)
  · refine bi_const (n := 0) zx zb dX5_isOfAnother_20 ?_
    exact retZ C0 hret hlk hH (by first | (rw [if_pos ⟨zq8, zq13⟩]; done) | (rw [if_neg (fun h => h.1 zq8)]; done) | (rw [if_neg (fun h => h.2 zq13)]; done)) (by omega) (rfl) dX5_isOfAnother_21
  · refine lv_iload_n zx zb dX5_isOfAnother_11 rfl (lv_at hl 0 rfl) ?_
    refine lv_iload_n zx zb dX5_isOfAnother_12 rfl (lv_at hl 2 rfl) ?_
    refine bq_eq (tgt := 20) zx zb dX5_isOfAnother_13 (by decide) ⟨by omega, by omega⟩ ⟨by omega, by omega⟩ (fun zq13 => ?_) (fun zq13 => ?_)
    · refine bi_const (n := 0) zx zb dX5_isOfAnother_20 ?_
      exact retZ C0 hret hlk hH (by first | (rw [if_pos ⟨zq8, zq13⟩]; done) | (rw [if_neg (fun h => h.1 zq8)]; done) | (rw [if_neg (fun h => h.2 zq13)]; done)) (by omega) (rfl) dX5_isOfAnother_21
    · refine bi_const (n := 1) zx zb dX5_isOfAnother_16 ?_
      refine lv_goto (tgt := 21) zx zb dX5_isOfAnother_17 (by decide) ?_
      exact retZ C0 hret hlk hH (by first | (rw [if_pos ⟨zq8, zq13⟩]; done) | (rw [if_neg (fun h => h.1 zq8)]; done) | (rw [if_neg (fun h => h.2 zq13)]; done)) (by omega) (rfl) dX5_isOfAnother_21
set_option maxRecDepth 100000 in
set_option maxHeartbeats 4000000 in
theorem c_X5_insert (l : Launch) (g : gT) (S : gSt) (f k a b : Int) (hf : 0 ≤ f ∧ f < 8) (hk : 0 ≤ k ∧ k ≤ S 5 f) (hc : S 5 f < 10) : MetG l g yX5_insert cX5_insert 7 none 1 21 [.ref (g.1 4), .int (iI f), .int (iI k), .int (iI a), .int (iI b)] S none (lnIn S 5 6 7 f k a b) := by
  refine bodyG (by decide +kernel) (Nat.le_of_ble_eq_true rfl) ?_
  intro p e s m args below meth c ls C0 hret hlk hl hH
  have zx := C0.1
  have zb := C0.2.1
  have hl : lv_has ls 7 [(0, .ref (g.1 4)), (1, .int (iI f)), (2, .int (iI k)), (3, .int (iI a)), (4, .int (iI b))] := hl
  have L34 : ∀ (μ : Nat) (j : Int), (j - (10 * f + k)).toNat = μ → (10 * f + k ≤ j ∧ j ≤ 10 * f + S 5 f) → ∀ (H : Heap) (locs : List Loc), Hp g (s2 S 6 7 (shA (S 6) j (10 * f + S 5 f)) (shA (S 7) j (10 * f + S 5 f))) s H locs → ∀ ls : Array Slot, lv_has ls 7 [(0, .ref (g.1 4)), (1, .int (iI f)), (2, .int (iI k)), (3, .int (iI a)), (4, .int (iI b)), (5, .int (iI (S 5 f))), (6, .int (iI j))] → W p l e { frames := 1, cells := 0, slots := 0, locals := 21 } s m args below meth c H locs 0 0 (MQ below (RetG g none (lnIn S 5 6 7 f k a b)) args s 0 0 (oA g)) (F0 m 34 ls []) := by
    refine lpN (fun μ34 ih34 => ?_)
    intro j hμ34 hj H locs hH ls hl
    refine lv_iload zx zb dX5_insert_34 (lv_at hl 6 rfl) ?_
    refine lv_iload_n zx zb dX5_insert_36 rfl (lv_at hl 1 rfl) ?_
    refine lv_iload_n zx zb dX5_insert_37 rfl (lv_at hl 2 rfl) ?_
    refine csI (rest := [.int (iI j)]) (As := [.int (iI f), .int (iI k)]) C0 hH (c_X5_place l g (s2 S 6 7 (shA (S 6) j (10 * f + S 5 f)) (shA (S 7) j (10 * f + S 5 f))) f k) kw_X5_25 ky_X5_place ⟨Nat.le_of_ble_eq_true rfl, Nat.le_of_ble_eq_true rfl⟩ ⟨Nat.zero_le _, Nat.zero_le _⟩ rfl hl.1 rfl (Nat.le_of_ble_eq_true rfl) dX5_insert_38 (fun H locs hH => ?_)
    refine bq_le (tgt := 82) zx zb dX5_insert_41 (by decide) ⟨by omega, by omega⟩ ⟨by omega, by omega⟩ (fun zq41 => ?_) (fun zq41 => ?_)
    · refine lv_aload_n zx zb dX5_insert_82 rfl (lv_at hl 0 rfl) ?_
      refine gf_X5_15 C0 hH dX5_insert_83 ?_
      refine lv_iload_n zx zb dX5_insert_86 rfl (lv_at hl 1 rfl) ?_
      refine lv_iload_n zx zb dX5_insert_87 rfl (lv_at hl 2 rfl) ?_
      refine csI (rest := [.ref (g.1 6)]) (As := [.int (iI f), .int (iI k)]) C0 hH (c_X5_place l g (s2 S 6 7 (shA (S 6) j (10 * f + S 5 f)) (shA (S 7) j (10 * f + S 5 f))) f k) kw_X5_25 ky_X5_place ⟨Nat.le_of_ble_eq_true rfl, Nat.le_of_ble_eq_true rfl⟩ ⟨Nat.zero_le _, Nat.zero_le _⟩ rfl hl.1 rfl (Nat.le_of_ble_eq_true rfl) dX5_insert_88 (fun H locs hH => ?_)
      refine lv_iload_n zx zb dX5_insert_91 rfl (lv_at hl 3 rfl) ?_
      refine as_6 C0 hH (by omega) (by omega) dX5_insert_92 (fun H locs hH => ?_)
      refine lv_aload_n zx zb dX5_insert_93 rfl (lv_at hl 0 rfl) ?_
      refine gf_X5_18 C0 hH dX5_insert_94 ?_
      refine lv_iload_n zx zb dX5_insert_97 rfl (lv_at hl 1 rfl) ?_
      refine lv_iload_n zx zb dX5_insert_98 rfl (lv_at hl 2 rfl) ?_
      refine csI (rest := [.ref (g.1 7)]) (As := [.int (iI f), .int (iI k)]) C0 hH (c_X5_place l g (st (s2 S 6 7 (shA (S 6) j (10 * f + S 5 f)) (shA (S 7) j (10 * f + S 5 f))) 6 (10 * f + k) a) f k) kw_X5_25 ky_X5_place ⟨Nat.le_of_ble_eq_true rfl, Nat.le_of_ble_eq_true rfl⟩ ⟨Nat.zero_le _, Nat.zero_le _⟩ rfl hl.1 rfl (Nat.le_of_ble_eq_true rfl) dX5_insert_99 (fun H locs hH => ?_)
      refine lv_iload zx zb dX5_insert_102 (lv_at hl 4 rfl) ?_
      refine as_7 C0 hH (by omega) (by omega) dX5_insert_104 (fun H locs hH => ?_)
      refine lv_aload_n zx zb dX5_insert_105 rfl (lv_at hl 0 rfl) ?_
      refine gf_X5_9 C0 hH dX5_insert_106 ?_
      refine lv_iload_n zx zb dX5_insert_109 rfl (lv_at hl 1 rfl) ?_
      refine lv_iload zx zb dX5_insert_110 (lv_at hl 5 rfl) ?_
      refine bi_const (n := 1) zx zb dX5_insert_112 ?_
      refine bi_add zx zb dX5_insert_113 ?_
      refine as_5 C0 hH (by omega) (by omega) dX5_insert_114 (fun H locs hH => ?_)
      exact retV C0 hret hlk hH (by rw [show j = 10 * f + k by omega]; unfold lnIn; rw [s2_st1 (by decide), s2_st2]; rfl) dX5_insert_115
    · refine lv_aload_n zx zb dX5_insert_44 rfl (lv_at hl 0 rfl) ?_
      refine gf_X5_15 C0 hH dX5_insert_45 ?_
      refine lv_iload zx zb dX5_insert_48 (lv_at hl 6 rfl) ?_
      refine lv_aload_n zx zb dX5_insert_50 rfl (lv_at hl 0 rfl) ?_
      refine gf_X5_15 C0 hH dX5_insert_51 ?_
      refine lv_iload zx zb dX5_insert_54 (lv_at hl 6 rfl) ?_
      refine bi_const (n := 1) zx zb dX5_insert_56 ?_
      refine bi_sub zx zb dX5_insert_57 ?_
      refine al_6 C0 hH (by omega) (by omega) dX5_insert_58 ?_
      show W p l e _ s m args below meth c H _ _ _ _ (F0 m 59 ls [.int (iI ((s2 S 6 7 (shA (S 6) j (10 * f + S 5 f)) (shA (S 7) j (10 * f + S 5 f))) 6 (j - 1))), .int (iI j), .ref (g.1 6)])
      refine as_6 C0 hH (by omega) (by omega) dX5_insert_59 (fun H locs hH => ?_)
      refine lv_aload_n zx zb dX5_insert_60 rfl (lv_at hl 0 rfl) ?_
      refine gf_X5_18 C0 hH dX5_insert_61 ?_
      refine lv_iload zx zb dX5_insert_64 (lv_at hl 6 rfl) ?_
      refine lv_aload_n zx zb dX5_insert_66 rfl (lv_at hl 0 rfl) ?_
      refine gf_X5_18 C0 hH dX5_insert_67 ?_
      refine lv_iload zx zb dX5_insert_70 (lv_at hl 6 rfl) ?_
      refine bi_const (n := 1) zx zb dX5_insert_72 ?_
      refine bi_sub zx zb dX5_insert_73 ?_
      refine al_7 C0 hH (by omega) (by omega) dX5_insert_74 ?_
      show W p l e _ s m args below meth c H _ _ _ _ (F0 m 75 ls [.int (iI ((s2 S 6 7 (shA (S 6) j (10 * f + S 5 f)) (shA (S 7) j (10 * f + S 5 f))) 7 (j - 1))), .int (iI j), .ref (g.1 7)])
      refine as_7 C0 hH (by omega) (by omega) dX5_insert_75 (fun H locs hH => ?_)
      refine bi_inc (k0 := 6) (n := (-1)) (lv' := [(6, .int (iI (j + (-1)))), (0, .ref (g.1 4)), (1, .int (iI f)), (2, .int (iI k)), (3, .int (iI a)), (4, .int (iI b)), (5, .int (iI (S 5 f)))]) zx zb dX5_insert_76 hl rfl (by decide) rfl (fun ls hl => ?_)
      refine lv_goto (tgt := 34) zx zb dX5_insert_79 (by decide) ?_
      exact ih34 (((j + (-1)) - (10 * f + k)).toNat) (by omega) (j + (-1)) rfl (by omega) _ _ (hp_eq (by exact (sh_step (by decide) (S 6) (S 7) hj.2)) hH) ls (lv_sub hl [1, 2, 3, 4, 5, 6, 0] rfl)
  obtain ⟨H, hHe⟩ : ∃ H : Heap, H = s.heap := ⟨_, rfl⟩
  rw [show (Hp g S s s.heap []) = Hp g S s H [] by rw [hHe]] at hH
  rw [← hHe]
  refine lv_aload_n zx zb dX5_insert_0 rfl (lv_at hl 0 rfl) ?_
  refine gf_X5_9 C0 hH dX5_insert_1 ?_
  refine lv_iload_n zx zb dX5_insert_4 rfl (lv_at hl 1 rfl) ?_
  refine al_5 C0 hH (by omega) (by omega) dX5_insert_5 ?_
  refine lv_istore (lv' := [(5, .int (iI (S 5 f))), (0, .ref (g.1 4)), (1, .int (iI f)), (2, .int (iI k)), (3, .int (iI a)), (4, .int (iI b))]) zx zb dX5_insert_6 hl (by decide) rfl (fun ls hl => ?_)
  refine lv_iload_n zx zb dX5_insert_8 rfl (lv_at hl 3 rfl) ?_
  refine bz_lt (tgt := 25) zx zb dX5_insert_9 (by decide) ⟨by omega, by omega⟩ (fun zq9 => ?_) (fun zq9 => ?_)
  · exact absurd zq9 (by omega)
  · refine lv_iload_n zx zb dX5_insert_12 rfl (lv_at hl 3 rfl) ?_
    refine lv_iload zx zb dX5_insert_13 (lv_at hl 0 rfl) ?_
    refine bq_gt (tgt := 25) zx zb dX5_insert_15 (by decide) ⟨by omega, by omega⟩ ⟨by omega, by omega⟩ (fun zq15 => ?_) (fun zq15 => ?_)
    · exact absurd zq15 (by omega)
    · refine lv_iload zx zb dX5_insert_18 (lv_at hl 0 rfl) ?_
      refine bi_bip (n := 10) zx zb dX5_insert_20 (by decide) ?_
      refine bq_lt (tgt := 26) zx zb dX5_insert_22 (by decide) ⟨by omega, by omega⟩ ⟨by omega, by omega⟩ (fun zq22 => ?_) (fun zq22 => ?_)
      · refine lv_iload_n zx zb dX5_insert_26 rfl (lv_at hl 2 rfl) ?_
        refine lv_iload zx zb dX5_insert_27 (lv_at hl 0 rfl) ?_
        refine csI (rest := []) (As := [.int (iI f), .int (iI (S 5 f))]) C0 hH (c_X5_place l g S f (S 5 f)) kw_X5_25 ky_X5_place ⟨Nat.le_of_ble_eq_true rfl, Nat.le_of_ble_eq_true rfl⟩ ⟨Nat.zero_le _, Nat.zero_le _⟩ rfl hl.1 rfl (Nat.le_of_ble_eq_true rfl) dX5_insert_29 (fun H locs hH => ?_)
        refine lv_istore (lv' := [(6, .int (iI (10 * f + (S 5 f)))), (5, .int (iI (S 5 f))), (0, .ref (g.1 4)), (1, .int (iI f)), (2, .int (iI k)), (3, .int (iI a)), (4, .int (iI b))]) zx zb dX5_insert_32 hl (by decide) rfl (fun ls hl => ?_)
        exact L34 _ (10 * f + (S 5 f)) rfl (by omega) _ _ (hp_eq (by rw [shA_0, shA_0, s2_id _ _ _ (by decide)]) hH) ls (lv_sub hl [2, 3, 4, 5, 6, 1, 0] rfl)
      · exact absurd zq22 (by omega)
set_option maxRecDepth 100000 in
set_option maxHeartbeats 4000000 in
theorem c_X5_remove (l : Launch) (g : gT) (S : gSt) (f k : Int) (hf : 0 ≤ f ∧ f < 8) (hk : 0 ≤ k ∧ k < S 5 f) (hc : S 5 f ≤ 10) : MetG l g yX5_remove cX5_remove 5 none 1 21 [.ref (g.1 4), .int (iI f), .int (iI k)] S none (lnOut S 5 6 7 f k) := by
  refine bodyG (by decide +kernel) (Nat.le_of_ble_eq_true rfl) ?_
  intro p e s m args below meth c ls C0 hret hlk hl hH
  have zx := C0.1
  have zb := C0.2.1
  have hl : lv_has ls 5 [(0, .ref (g.1 4)), (1, .int (iI f)), (2, .int (iI k))] := hl
  have L24 : ∀ (μ : Nat) (j : Int), (10 * f + S 5 f - j).toNat = μ → (10 * f + k ≤ j ∧ j ≤ 10 * f + S 5 f - 1) → ∀ (H : Heap) (locs : List Loc), Hp g (s2 S 6 7 (delA (S 6) (10 * f + k) j) (delA (S 7) (10 * f + k) j)) s H locs → ∀ ls : Array Slot, lv_has ls 5 [(0, .ref (g.1 4)), (1, .int (iI f)), (2, .int (iI k)), (3, .int (iI (S 5 f))), (4, .int (iI j))] → W p l e { frames := 1, cells := 0, slots := 0, locals := 21 } s m args below meth c H locs 0 0 (MQ below (RetG g none (lnOut S 5 6 7 f k)) args s 0 0 (oA g)) (F0 m 24 ls []) := by
    refine lpN (fun μ24 ih24 => ?_)
    intro j hμ24 hj H locs hH ls hl
    refine lv_iload zx zb dX5_remove_24 (lv_at hl 4 rfl) ?_
    refine lv_iload_n zx zb dX5_remove_26 rfl (lv_at hl 1 rfl) ?_
    refine lv_iload_n zx zb dX5_remove_27 rfl (lv_at hl 3 rfl) ?_
    refine bi_const (n := 1) zx zb dX5_remove_28 ?_
    refine bi_sub zx zb dX5_remove_29 ?_
    refine csI (rest := [.int (iI j)]) (As := [.int (iI f), .int (iI ((S 5 f) - 1))]) C0 hH (c_X5_place l g (s2 S 6 7 (delA (S 6) (10 * f + k) j) (delA (S 7) (10 * f + k) j)) f ((S 5 f) - 1)) kw_X5_25 ky_X5_place ⟨Nat.le_of_ble_eq_true rfl, Nat.le_of_ble_eq_true rfl⟩ ⟨Nat.zero_le _, Nat.zero_le _⟩ rfl hl.1 rfl (Nat.le_of_ble_eq_true rfl) dX5_remove_30 (fun H locs hH => ?_)
    refine bq_ge (tgt := 74) zx zb dX5_remove_33 (by decide) ⟨by omega, by omega⟩ ⟨by omega, by omega⟩ (fun zq33 => ?_) (fun zq33 => ?_)
    · refine lv_aload_n zx zb dX5_remove_74 rfl (lv_at hl 0 rfl) ?_
      refine gf_X5_9 C0 hH dX5_remove_75 ?_
      refine lv_iload_n zx zb dX5_remove_78 rfl (lv_at hl 1 rfl) ?_
      refine lv_iload_n zx zb dX5_remove_79 rfl (lv_at hl 3 rfl) ?_
      refine bi_const (n := 1) zx zb dX5_remove_80 ?_
      refine bi_sub zx zb dX5_remove_81 ?_
      refine as_5 C0 hH (by omega) (by omega) dX5_remove_82 (fun H locs hH => ?_)
      exact retV C0 hret hlk hH (by rw [show j = 10 * f + S 5 f - 1 by omega]; rfl) dX5_remove_83
    · refine lv_aload_n zx zb dX5_remove_36 rfl (lv_at hl 0 rfl) ?_
      refine gf_X5_15 C0 hH dX5_remove_37 ?_
      refine lv_iload zx zb dX5_remove_40 (lv_at hl 4 rfl) ?_
      refine lv_aload_n zx zb dX5_remove_42 rfl (lv_at hl 0 rfl) ?_
      refine gf_X5_15 C0 hH dX5_remove_43 ?_
      refine lv_iload zx zb dX5_remove_46 (lv_at hl 4 rfl) ?_
      refine bi_const (n := 1) zx zb dX5_remove_48 ?_
      refine bi_add zx zb dX5_remove_49 ?_
      refine al_6 C0 hH (by omega) (by omega) dX5_remove_50 ?_
      show W p l e _ s m args below meth c H _ _ _ _ (F0 m 51 ls [.int (iI ((s2 S 6 7 (delA (S 6) (10 * f + k) j) (delA (S 7) (10 * f + k) j)) 6 (j + 1))), .int (iI j), .ref (g.1 6)])
      refine as_6 C0 hH (by omega) (by omega) dX5_remove_51 (fun H locs hH => ?_)
      refine lv_aload_n zx zb dX5_remove_52 rfl (lv_at hl 0 rfl) ?_
      refine gf_X5_18 C0 hH dX5_remove_53 ?_
      refine lv_iload zx zb dX5_remove_56 (lv_at hl 4 rfl) ?_
      refine lv_aload_n zx zb dX5_remove_58 rfl (lv_at hl 0 rfl) ?_
      refine gf_X5_18 C0 hH dX5_remove_59 ?_
      refine lv_iload zx zb dX5_remove_62 (lv_at hl 4 rfl) ?_
      refine bi_const (n := 1) zx zb dX5_remove_64 ?_
      refine bi_add zx zb dX5_remove_65 ?_
      refine al_7 C0 hH (by omega) (by omega) dX5_remove_66 ?_
      show W p l e _ s m args below meth c H _ _ _ _ (F0 m 67 ls [.int (iI ((s2 S 6 7 (delA (S 6) (10 * f + k) j) (delA (S 7) (10 * f + k) j)) 7 (j + 1))), .int (iI j), .ref (g.1 7)])
      refine as_7 C0 hH (by omega) (by omega) dX5_remove_67 (fun H locs hH => ?_)
      refine bi_inc (k0 := 4) (n := 1) (lv' := [(4, .int (iI (j + 1))), (0, .ref (g.1 4)), (1, .int (iI f)), (2, .int (iI k)), (3, .int (iI (S 5 f)))]) zx zb dX5_remove_68 hl rfl (by decide) rfl (fun ls hl => ?_)
      refine lv_goto (tgt := 24) zx zb dX5_remove_71 (by decide) ?_
      exact ih24 ((10 * f + S 5 f - (j + 1)).toNat) (by omega) (j + 1) rfl (by omega) _ _ (hp_eq (by exact (del_step (by decide) (S 6) (S 7) hj.1)) hH) ls (lv_sub hl [1, 2, 3, 4, 0] rfl)
  obtain ⟨H, hHe⟩ : ∃ H : Heap, H = s.heap := ⟨_, rfl⟩
  rw [show (Hp g S s s.heap []) = Hp g S s H [] by rw [hHe]] at hH
  rw [← hHe]
  refine lv_aload_n zx zb dX5_remove_0 rfl (lv_at hl 0 rfl) ?_
  refine gf_X5_9 C0 hH dX5_remove_1 ?_
  refine lv_iload_n zx zb dX5_remove_4 rfl (lv_at hl 1 rfl) ?_
  refine al_5 C0 hH (by omega) (by omega) dX5_remove_5 ?_
  refine lv_istore_n (lv' := [(3, .int (iI (S 5 f))), (0, .ref (g.1 4)), (1, .int (iI f)), (2, .int (iI k))]) zx zb dX5_remove_6 rfl hl (by decide) rfl (fun ls hl => ?_)
  refine lv_iload_n zx zb dX5_remove_7 rfl (lv_at hl 3 rfl) ?_
  refine bz_lt (tgt := 16) zx zb dX5_remove_8 (by decide) ⟨by omega, by omega⟩ (fun zq8 => ?_) (fun zq8 => ?_)
  · exact absurd zq8 (by omega)
  · refine lv_iload_n zx zb dX5_remove_11 rfl (lv_at hl 3 rfl) ?_
    refine lv_iload_n zx zb dX5_remove_12 rfl (lv_at hl 0 rfl) ?_
    refine bq_lt (tgt := 17) zx zb dX5_remove_13 (by decide) ⟨by omega, by omega⟩ ⟨by omega, by omega⟩ (fun zq13 => ?_) (fun zq13 => ?_)
    · refine lv_iload_n zx zb dX5_remove_17 rfl (lv_at hl 2 rfl) ?_
      refine lv_iload_n zx zb dX5_remove_18 rfl (lv_at hl 3 rfl) ?_
      refine csI (rest := []) (As := [.int (iI f), .int (iI k)]) C0 hH (c_X5_place l g S f k) kw_X5_25 ky_X5_place ⟨Nat.le_of_ble_eq_true rfl, Nat.le_of_ble_eq_true rfl⟩ ⟨Nat.zero_le _, Nat.zero_le _⟩ rfl hl.1 rfl (Nat.le_of_ble_eq_true rfl) dX5_remove_19 (fun H locs hH => ?_)
      refine lv_istore (lv' := [(4, .int (iI (10 * f + k))), (3, .int (iI (S 5 f))), (0, .ref (g.1 4)), (1, .int (iI f)), (2, .int (iI k))]) zx zb dX5_remove_22 hl (by decide) rfl (fun ls hl => ?_)
      exact L24 _ (10 * f + k) rfl (by omega) _ _ (hp_eq (by rw [delA_0, delA_0, s2_id _ _ _ (by decide)]) hH) ls (lv_sub hl [2, 3, 4, 1, 0] rfl)
    · exact absurd zq13 (by omega)
