set_option maxRecDepth 100000 in
set_option maxHeartbeats 4000000 in
theorem c_J7_fill_53178 (l : Launch) (g : gT) (S : gSt) (v : Int)  : MetG l g yJ7_fill_53178 cJ7_fill_53178 4 none 0 0 [.ref (g.1 11), .int (iI v)] S none (sA S 11 (fillA 8 v (S 11))) := by
  refine bodyG (by decide +kernel) (Nat.le_of_ble_eq_true rfl) ?_
  intro p e s m args below meth c ls C0 hret hlk hl hH
  have zx := C0.1
  have zb := C0.2.1
  have hl : lv_has ls 4 [(0, .ref (g.1 11)), (1, .int (iI v))] := hl
  have L5 : ∀ (μ : Nat) (i : Int), (8 - i).toNat = μ → (0 ≤ i ∧ i ≤ 8) → ∀ (H : Heap) (locs : List Loc), Hp g (sA S 11 (fillA i v (S 11))) s H locs → ∀ ls : Array Slot, lv_has ls 4 [(0, .ref (g.1 11)), (1, .int (iI v)), (2, .int (iI i)), (3, .int (iI 8))] → W p l e { frames := 0, cells := 0, slots := 0, locals := 0 } s m args below meth c H locs 0 0 (MQ below (RetG g none (sA S 11 (fillA 8 v (S 11)))) args s 0 0 (oA g)) (F0 m 5 ls []) := by
    refine lpN (fun μ5 ih5 => ?_)
    intro i hμ5 hi H locs hH ls hl
    refine lv_iload_n zx zb dJ7_fill_53178_5 rfl (lv_at hl 2 rfl) ?_
    refine lv_iload_n zx zb dJ7_fill_53178_6 rfl (lv_at hl 3 rfl) ?_
    refine bq_ge (tgt := 20) zx zb dJ7_fill_53178_7 (by decide) ⟨by omega, by omega⟩ ⟨by omega, by omega⟩ (fun zq7 => ?_) (fun zq7 => ?_)
    · exact retV C0 hret hlk hH (by rw [show i = 8 by omega]) dJ7_fill_53178_20
    · refine lv_aload_n zx zb dJ7_fill_53178_10 rfl (lv_at hl 0 rfl) ?_
      refine lv_iload_n zx zb dJ7_fill_53178_11 rfl (lv_at hl 2 rfl) ?_
      refine lv_iload_n zx zb dJ7_fill_53178_12 rfl (lv_at hl 1 rfl) ?_
      refine as_11 C0 hH (by omega) (by omega) dJ7_fill_53178_13 (fun H locs hH => ?_)
      refine bi_inc (k0 := 2) (n := 1) (lv' := [(2, .int (iI (i + 1))), (0, .ref (g.1 11)), (1, .int (iI v)), (3, .int (iI 8))]) zx zb dJ7_fill_53178_14 hl rfl (by decide) rfl (fun ls hl => ?_)
      refine lv_goto (tgt := 5) zx zb dJ7_fill_53178_17 (by decide) ?_
      exact ih5 ((8 - (i + 1)).toNat) (by omega) (i + 1) rfl (by omega) _ _ (hp_eq (by rw [st_sA, sA_sA, sA_s, fillA_s _ _ hi.1]) hH) ls (lv_sub hl [1, 2, 0, 3] rfl)
  obtain ⟨H, hHe⟩ : ∃ H : Heap, H = s.heap := ⟨_, rfl⟩
  rw [show (Hp g S s s.heap []) = Hp g S s H [] by rw [hHe]] at hH
  rw [← hHe]
  refine bi_const (n := 0) zx zb dJ7_fill_53178_0 ?_
  refine lv_istore_n (lv' := [(2, .int (iI 0)), (0, .ref (g.1 11)), (1, .int (iI v))]) zx zb dJ7_fill_53178_1 rfl hl (by decide) rfl (fun ls hl => ?_)
  refine lv_aload_n zx zb dJ7_fill_53178_2 rfl (lv_at hl 1 rfl) ?_
  refine bi_alen C0 hH 11 8 rfl dJ7_fill_53178_3 ?_
  refine lv_istore_n (lv' := [(3, .int (iI 8)), (2, .int (iI 0)), (0, .ref (g.1 11)), (1, .int (iI v))]) zx zb dJ7_fill_53178_4 rfl hl (by decide) rfl (fun ls hl => ?_)
  exact L5 _ 0 rfl (by omega) _ _ (hp_eq (by rw [fillA_0, sA_id]) hH) ls (lv_sub hl [2, 3, 1, 0] rfl)
set_option maxRecDepth 100000 in
set_option maxHeartbeats 4000000 in
theorem c_X1_giveName (l : Launch) (g : gT) (S : gSt) (k : Nat) (f v : Int) (hf : 0 ≤ f ∧ f < 8) (hv : 0 ≤ v ∧ v ≤ 6) (hk : k < 1024) (hT : ∀ j : Int, 0 ≤ j → j < 80 → -100 ≤ S 10 j ∧ S 10 j ≤ 100) (hG : ∀ j : Int, 0 ≤ j → j < 8 → -1 ≤ S 11 j ∧ S 11 j < 10) : MetG l g yX1_giveName cX1_giveName 6 (some .int) 0 0 [.ref (g.1 8), .int (iI f), .int (iI v), .int (iI ((k : Nat) : Int))] S (some (.int (iI ((gnR (gnI (S 11) (S 10) k f v) : Nat) : Int)))) (sA S 11 (gnF (S 11) f (gnI (S 11) (S 10) k f v))) := by
  refine bodyG (by decide +kernel) (Nat.le_of_ble_eq_true rfl) ?_
  intro p e s m args below meth c ls C0 hret hlk hl hH
  have zx := C0.1
  have zb := C0.2.1
  have hl : lv_has ls 6 [(0, .ref (g.1 8)), (1, .int (iI f)), (2, .int (iI v)), (3, .int (iI ((k : Nat) : Int)))] := hl
  have L3 : ∀ (μ : Nat) (i : Int), (10 - i).toNat = μ → (0 ≤ i ∧ i ≤ 10) → (gnI (S 11) (S 10) k f v = if S 11 f = -1 then fdF (gnQ (S 10) k f v) (10 - i).toNat i else -1) → ∀ (H : Heap) (locs : List Loc), Hp g S s H locs → ∀ ls : Array Slot, lv_has ls 6 [(0, .ref (g.1 8)), (1, .int (iI f)), (2, .int (iI v)), (3, .int (iI ((k : Nat) : Int))), (4, .int (iI i))] → W p l e { frames := 0, cells := 0, slots := 0, locals := 0 } s m args below meth c H locs 0 0 (MQ below (RetG g (some (.int (iI ((gnR (gnI (S 11) (S 10) k f v) : Nat) : Int)))) (sA S 11 (gnF (S 11) f (gnI (S 11) (S 10) k f v)))) args s 0 0 (oA g)) (F0 m 3 ls []) := by
    refine lpN (fun μ3 ih3 => ?_)
    intro i hμ3 hi hR H locs hH ls hl
    refine lv_iload zx zb dX1_giveName_3 (lv_at hl 4 rfl) ?_
    refine bi_bip (n := 10) zx zb dX1_giveName_5 (by decide) ?_
    refine bq_ge (tgt := 76) zx zb dX1_giveName_7 (by decide) ⟨by omega, by omega⟩ ⟨by omega, by omega⟩ (fun zq7 => ?_) (fun zq7 => ?_)
    · refine bi_const (n := 0) zx zb dX1_giveName_76 ?_
      exact retI C0 hret hlk hH (by rw [hR]; first | (rw [fdF_e (by omega), ite_self]; rfl) | (rw [if_neg zq17]; rfl)) (by rw [hR]; first | (rw [fdF_e (by omega), ite_self]; unfold gnF; rw [if_pos rfl, sA_id]) | (rw [if_neg zq17]; unfold gnF; rw [if_pos rfl, sA_id])) dX1_giveName_77
    · have hg := hG f hf.1 hf.2
      refine lv_aload_n zx zb dX1_giveName_10 rfl (lv_at hl 0 rfl) ?_
      refine gf_X1_18 C0 hH dX1_giveName_11 ?_
      refine lv_iload_n zx zb dX1_giveName_14 rfl (lv_at hl 1 rfl) ?_
      refine al_11 C0 hH (by omega) (by omega) dX1_giveName_15 ?_
      refine bi_const (n := (-1)) zx zb dX1_giveName_16 ?_
      refine bq_ne (tgt := 76) zx zb dX1_giveName_17 (by decide) ⟨by omega, by omega⟩ ⟨by omega, by omega⟩ (fun zq17 => ?_) (fun zq17 => ?_)
      · refine bi_const (n := 0) zx zb dX1_giveName_76 ?_
        exact retI C0 hret hlk hH (by rw [hR]; first | (rw [fdF_e (by omega), ite_self]; rfl) | (rw [if_neg zq17]; rfl)) (by rw [hR]; first | (rw [fdF_e (by omega), ite_self]; unfold gnF; rw [if_pos rfl, sA_id]) | (rw [if_neg zq17]; unfold gnF; rw [if_pos rfl, sA_id])) dX1_giveName_77
      · refine lv_iload_n zx zb dX1_giveName_20 rfl (lv_at hl 3 rfl) ?_
        refine bi_const (n := 1) zx zb dX1_giveName_21 ?_
        refine lv_iload zx zb dX1_giveName_22 (lv_at hl 4 rfl) ?_
        refine bi_shl zx zb dX1_giveName_24 (by omega) (by omega) ?_
        refine bi_and (a := k) (b := 2 ^ i.toNat) zx zb dX1_giveName_25 ?_
        have hz26 : (k &&& 2 ^ i.toNat : Nat) < 2 ^ 10 := bt_and_lt (Nat.pow_lt_pow_right (by decide) (by omega))
        refine bz_ne (tgt := 33) zx zb dX1_giveName_26 (by decide) ⟨by omega, by omega⟩ (fun zq26 => ?_) (fun zq26 => ?_)
        · refine bi_const (n := 0) zx zb dX1_giveName_33 ?_
          refine lv_istore (lv' := [(5, .int (iI 0)), (0, .ref (g.1 8)), (1, .int (iI f)), (2, .int (iI v)), (3, .int (iI ((k : Nat) : Int))), (4, .int (iI i))]) zx zb dX1_giveName_34 hl (by decide) rfl (fun ls hl => ?_)
          refine lv_iload zx zb dX1_giveName_36 (lv_at hl 0 rfl) ?_
          refine bz_eq (tgt := 70) zx zb dX1_giveName_38 (by decide) ⟨by omega, by omega⟩ (fun zq38 => ?_) (fun zq38 => ?_)
          · refine bi_inc (k0 := 5) (n := 1) (lv' := [(4, .int (iI (i + 1))), (5, .int (iI 0)), (0, .ref (g.1 8)), (1, .int (iI f)), (2, .int (iI v)), (3, .int (iI ((k : Nat) : Int)))]) zx zb dX1_giveName_70 hl rfl (by decide) rfl (fun ls hl => ?_)
            refine lv_goto (tgt := 3) zx zb dX1_giveName_73 (by decide) ?_
            exact ih3 ((10 - (i + 1)).toNat) (by omega) (i + 1) rfl (by omega) (by rw [hR, if_pos zq17, if_pos zq17, fdF_t zq7 (by unfold gnQ; first | (rw [decide_eq_false zq54, Bool.and_false]; done) | (cases hzc : k.testBit i.toNat; exact absurd (by rw [(bt_test k i.toNat).mpr hzc]; rfl) zq26; rfl))]) _ _ hH ls (lv_sub hl [2, 3, 4, 5, 0] rfl)
          · exact absurd zq38 (by decide)
        · refine bi_const (n := 1) zx zb dX1_giveName_29 ?_
          refine lv_goto (tgt := 34) zx zb dX1_giveName_30 (by decide) ?_
          refine lv_istore (lv' := [(5, .int (iI 1)), (0, .ref (g.1 8)), (1, .int (iI f)), (2, .int (iI v)), (3, .int (iI ((k : Nat) : Int))), (4, .int (iI i))]) zx zb dX1_giveName_34 hl (by decide) rfl (fun ls hl => ?_)
          refine lv_iload zx zb dX1_giveName_36 (lv_at hl 0 rfl) ?_
          refine bz_eq (tgt := 70) zx zb dX1_giveName_38 (by decide) ⟨by omega, by omega⟩ (fun zq38 => ?_) (fun zq38 => ?_)
          · exact absurd zq38 (by decide)
          · have ht := hT (f * 10 + i) (by omega) (by omega)
            refine lv_aload_n zx zb dX1_giveName_41 rfl (lv_at hl 1 rfl) ?_
            refine gf_X1_15 C0 hH dX1_giveName_42 ?_
            refine lv_iload_n zx zb dX1_giveName_45 rfl (lv_at hl 2 rfl) ?_
            refine bi_bip (n := 10) zx zb dX1_giveName_46 (by decide) ?_
            refine bi_mul zx zb dX1_giveName_48 ?_
            refine lv_iload zx zb dX1_giveName_49 (lv_at hl 5 rfl) ?_
            refine bi_add zx zb dX1_giveName_51 ?_
            refine al_10 C0 hH (by omega) (by omega) dX1_giveName_52 ?_
            refine lv_iload_n zx zb dX1_giveName_53 rfl (lv_at hl 3 rfl) ?_
            refine bq_ne (tgt := 70) zx zb dX1_giveName_54 (by decide) ⟨by omega, by omega⟩ ⟨by omega, by omega⟩ (fun zq54 => ?_) (fun zq54 => ?_)
            · refine bi_inc (k0 := 5) (n := 1) (lv' := [(4, .int (iI (i + 1))), (5, .int (iI 1)), (0, .ref (g.1 8)), (1, .int (iI f)), (2, .int (iI v)), (3, .int (iI ((k : Nat) : Int)))]) zx zb dX1_giveName_70 hl rfl (by decide) rfl (fun ls hl => ?_)
              refine lv_goto (tgt := 3) zx zb dX1_giveName_73 (by decide) ?_
              exact ih3 ((10 - (i + 1)).toNat) (by omega) (i + 1) rfl (by omega) (by rw [hR, if_pos zq17, if_pos zq17, fdF_t zq7 (by unfold gnQ; first | (rw [decide_eq_false zq54, Bool.and_false]; done) | (cases hzc : k.testBit i.toNat; exact absurd (by rw [(bt_test k i.toNat).mpr hzc]; rfl) zq26; rfl))]) _ _ hH ls (lv_sub hl [2, 3, 4, 5, 0] rfl)
            · have hz1 : gnQ (S 10) k f v i = true := by unfold gnQ; rw [(bt_test k i.toNat).mp (by omega), decide_eq_true zq54]; rfl
              refine lv_aload_n zx zb dX1_giveName_57 rfl (lv_at hl 1 rfl) ?_
              refine gf_X1_18 C0 hH dX1_giveName_58 ?_
              refine lv_iload_n zx zb dX1_giveName_61 rfl (lv_at hl 2 rfl) ?_
              refine lv_iload zx zb dX1_giveName_62 (lv_at hl 5 rfl) ?_
              refine as_11 C0 hH (by omega) (by omega) dX1_giveName_64 (fun H locs hH => ?_)
              refine bi_const (n := 1) zx zb dX1_giveName_65 ?_
              refine lv_iload zx zb dX1_giveName_66 (lv_at hl 5 rfl) ?_
              refine bi_shl zx zb dX1_giveName_68 (by omega) (by omega) ?_
              exact retI C0 hret hlk hH (by rw [hR, if_pos zq17, fdF_f zq7 hz1]; unfold gnR; rw [if_neg (by omega)]) (by rw [hR, if_pos zq17, fdF_f zq7 hz1]; unfold gnF; rw [if_neg (by omega), st_sA]) dX1_giveName_69
  obtain ⟨H, hHe⟩ : ∃ H : Heap, H = s.heap := ⟨_, rfl⟩
  rw [show (Hp g S s s.heap []) = Hp g S s H [] by rw [hHe]] at hH
  rw [← hHe]
  refine bi_const (n := 0) zx zb dX1_giveName_0 ?_
  refine lv_istore (lv' := [(4, .int (iI 0)), (0, .ref (g.1 8)), (1, .int (iI f)), (2, .int (iI v)), (3, .int (iI ((k : Nat) : Int)))]) zx zb dX1_giveName_1 hl (by decide) rfl (fun ls hl => ?_)
  exact L3 _ 0 rfl (by omega) (by unfold gnI; rfl) _ _ hH ls (lv_sub hl [1, 2, 3, 4, 0] rfl)
set_option maxRecDepth 100000 in
set_option maxHeartbeats 4000000 in
theorem c_X1_count (l : Launch) (g : gT) (S : gSt) (f n d : Int) (hf : 0 ≤ f ∧ f < 8) (hn : -1 ≤ n ∧ n < 10) : MetG l g yX1_count cX1_count 4 none 0 0 [.ref (g.1 8), .int (iI f), .int (iI n), .int (iI d)] S none (cnS S f n d) := by
  refine bodyG (by decide +kernel) (Nat.le_of_ble_eq_true rfl) ?_
  intro p e s m args below meth c ls C0 hret hlk hl hH
  have zx := C0.1
  have zb := C0.2.1
  have hl : lv_has ls 4 [(0, .ref (g.1 8)), (1, .int (iI f)), (2, .int (iI n)), (3, .int (iI d))] := hl
  obtain ⟨H, hHe⟩ : ∃ H : Heap, H = s.heap := ⟨_, rfl⟩
  rw [show (Hp g S s s.heap []) = Hp g S s H [] by rw [hHe]] at hH
  rw [← hHe]
  refine lv_iload_n zx zb dX1_count_0 rfl (lv_at hl 2 rfl) ?_
  refine bi_const (n := (-1)) zx zb dX1_count_1 ?_
  refine bq_eq (tgt := 20) zx zb dX1_count_2 (by decide) ⟨by omega, by omega⟩ ⟨by omega, by omega⟩ (fun zq2 => ?_) (fun zq2 => ?_)
  · exact retV C0 hret hlk hH (by unfold cnS; first | rw [if_pos zq2] | rw [if_neg zq2]) dX1_count_20
  · refine lv_aload_n zx zb dX1_count_5 rfl (lv_at hl 0 rfl) ?_
    refine gf_X1_15 C0 hH dX1_count_6 ?_
    refine lv_iload_n zx zb dX1_count_9 rfl (lv_at hl 1 rfl) ?_
    refine bi_bip (n := 10) zx zb dX1_count_10 (by decide) ?_
    refine bi_mul zx zb dX1_count_12 ?_
    refine lv_iload_n zx zb dX1_count_13 rfl (lv_at hl 2 rfl) ?_
    refine bi_add zx zb dX1_count_14 ?_
    refine lv_dup2_11 zx zb dX1_count_15 rfl rfl ?_
    refine al_10 C0 hH (by omega) (by omega) dX1_count_16 ?_
    refine lv_iload_n zx zb dX1_count_17 rfl (lv_at hl 3 rfl) ?_
    refine bi_add zx zb dX1_count_18 ?_
    refine as_10 C0 hH (by omega) (by omega) dX1_count_19 (fun H locs hH => ?_)
    exact retV C0 hret hlk hH (by unfold cnS; first | rw [if_pos zq2] | rw [if_neg zq2]) dX1_count_20
set_option maxRecDepth 100000 in
set_option maxHeartbeats 4000000 in
theorem c_X1_giveNames (l : Launch) (g : gT) (S : gSt) (hT : ∀ j : Int, 0 ≤ j → j < 80 → -100 ≤ S 10 j ∧ S 10 j ≤ 100) : MetG l g yX1_giveNames cX1_giveNames 4 none 1 25 [.ref (g.1 8)] S none (gvS S) := by
  refine bodyG (by decide +kernel) (Nat.le_of_ble_eq_true rfl) ?_
  intro p e s m args below meth c ls C0 hret hlk hl hH
  have zx := C0.1
  have zb := C0.2.1
  have hl : lv_has ls 4 [(0, .ref (g.1 8))] := hl
  have L13 : ∀ (μ : Nat) (k : Nat) (v : Int) (G : Int → Int), v.toNat = μ → (k < 1024) → (0 ≤ v ∧ v ≤ 6) → (∀ j : Int, 0 ≤ j → j < 8 → -1 ≤ G j ∧ G j < 10) → (nmI (S 10) (S 11) = (lpF (gnB (S 10) 8) v.toNat (6 - v) (G, k)).1) → ∀ (H : Heap) (locs : List Loc), Hp g (sA S 11 G) s H locs → ∀ ls : Array Slot, lv_has ls 4 [(0, .ref (g.1 8)), (1, .int (iI ((k : Nat) : Int))), (2, .int (iI v))] → W p l e { frames := 1, cells := 0, slots := 0, locals := 25 } s m args below meth c H locs 0 0 (MQ below (RetG g none (gvS S)) args s 0 0 (oA g)) (F0 m 13 ls []) := by
    refine lpN (fun μ13 ih13 => ?_)
    intro k v G hμ13 hk hv hG hR H locs hH ls hl
    have L19 : ∀ (μ : Nat) (k : Nat) (f : Int) (G : Int → Int), (8 - f).toNat = μ → (k < 1024) → (1 ≤ v ∧ v ≤ 6) → (0 ≤ f ∧ f ≤ 8) → (∀ j : Int, 0 ≤ j → j < 8 → -1 ≤ G j ∧ G j < 10) → (nmI (S 10) (S 11) = (lpF (gnB (S 10) 8) (v - 1).toNat (7 - v) (lpF (gnA (S 10) v) (8 - f).toNat f (G, k))).1) → ∀ (H : Heap) (locs : List Loc), Hp g (sA S 11 G) s H locs → ∀ ls : Array Slot, lv_has ls 4 [(0, .ref (g.1 8)), (1, .int (iI ((k : Nat) : Int))), (2, .int (iI v)), (3, .int (iI f))] → W p l e { frames := 1, cells := 0, slots := 0, locals := 25 } s m args below meth c H locs 0 0 (MQ below (RetG g none (gvS S)) args s 0 0 (oA g)) (F0 m 19 ls []) := by
      refine lpN (fun μ19 ih19 => ?_)
      intro k f G hμ19 hk hv2 hf hG hR H locs hH ls hl
      refine lv_iload_n zx zb dX1_giveNames_19 rfl (lv_at hl 3 rfl) ?_
      refine bi_bip (n := 8) zx zb dX1_giveNames_20 (by decide) ?_
      refine bq_ge (tgt := 41) zx zb dX1_giveNames_22 (by decide) ⟨by omega, by omega⟩ ⟨by omega, by omega⟩ (fun zq22 => ?_) (fun zq22 => ?_)
      · refine bi_inc (k0 := 2) (n := (-1)) (lv' := [(2, .int (iI (v + (-1)))), (0, .ref (g.1 8)), (1, .int (iI ((k : Nat) : Int))), (3, .int (iI f))]) zx zb dX1_giveNames_41 hl rfl (by decide) rfl (fun ls hl => ?_)
        refine lv_goto (tgt := 13) zx zb dX1_giveNames_44 (by decide) ?_
        exact ih13 ((v + (-1)).toNat) (by omega) k (v + (-1)) G rfl (by omega) (by omega) (by exact hG) (by rw [hR, lpF_e2 (f := gnA (S 10) v) (n := 8) (i := f) zq22, show v + -1 = v - 1 by omega, show 6 - (v - 1) = 7 - v by omega]) _ _ hH ls (lv_sub hl [1, 2, 0] rfl)
      · refine lv_iload_n zx zb dX1_giveNames_25 rfl (lv_at hl 1 rfl) ?_
        refine lv_aload_n zx zb dX1_giveNames_26 rfl (lv_at hl 0 rfl) ?_
        refine lv_iload_n zx zb dX1_giveNames_27 rfl (lv_at hl 3 rfl) ?_
        refine lv_iload_n zx zb dX1_giveNames_28 rfl (lv_at hl 2 rfl) ?_
        refine lv_iload_n zx zb dX1_giveNames_29 rfl (lv_at hl 1 rfl) ?_
        refine cvI (rest := [.int (iI ((k : Nat) : Int))]) (As := [.int (iI f), .int (iI v), .int (iI ((k : Nat) : Int))]) (b := g.1 8) C0 hH (c_X1_giveName l g (sA S 11 G) k f v (by omega) (by omega) (by omega) (fun j h1 h2 => by rw [sA_n (by decide)]; exact hT j h1 h2) (fun j h1 h2 => by rw [sA_s]; exact hG j h1 h2)) kw_X1_34 ky_X1_giveName ⟨Nat.le_of_ble_eq_true rfl, Nat.le_of_ble_eq_true rfl⟩ ⟨Nat.zero_le _, Nat.zero_le _⟩ 8 rfl rfl rfl hl.1 rfl (Nat.le_of_ble_eq_true rfl) dX1_giveNames_30 (fun H locs hH => ?_)
        show W p l e _ s m args below meth c H _ _ _ _ (F0 m 33 ls [.int (iI ((gnR (gnI ((sA S 11 G) 11) (S 10) k f v) : Nat) : Int)), .int (iI ((k : Nat) : Int))])
        refine bi_or (a := k) (b := gnR (gnI ((sA S 11 G) 11) (S 10) k f v)) zx zb dX1_giveNames_33 ?_
        refine lv_istore_n (lv' := [(1, .int (iI ((k ||| (gnR (gnI ((sA S 11 G) 11) (S 10) k f v)) : Nat) : Int))), (0, .ref (g.1 8)), (2, .int (iI v)), (3, .int (iI f))]) zx zb dX1_giveNames_34 rfl hl (by decide) rfl (fun ls hl => ?_)
        refine bi_inc (k0 := 3) (n := 1) (lv' := [(3, .int (iI (f + 1))), (1, .int (iI ((k ||| (gnR (gnI ((sA S 11 G) 11) (S 10) k f v)) : Nat) : Int))), (0, .ref (g.1 8)), (2, .int (iI v))]) zx zb dX1_giveNames_35 hl rfl (by decide) rfl (fun ls hl => ?_)
        refine lv_goto (tgt := 19) zx zb dX1_giveNames_38 (by decide) ?_
        exact ih19 ((8 - (f + 1)).toNat) (by omega) (k ||| gnR (gnI G (S 10) k f v)) (f + 1) (gnF G f (gnI G (S 10) k f v)) rfl (by exact or_1024 hk (gnR_b _ _ _ _ _)) (by omega) (by omega) (by exact gnF_b hG) (by rw [hR, lpF_s2 zq22]; rfl) _ _ (hp_eq (by rw [sA_sA, sA_s, sA_n (by decide)]) hH) ls (lv_sub hl [2, 1, 3, 0] rfl)
    refine lv_iload_n zx zb dX1_giveNames_13 rfl (lv_at hl 2 rfl) ?_
    refine bz_le (tgt := 47) zx zb dX1_giveNames_14 (by decide) ⟨by omega, by omega⟩ (fun zq14 => ?_) (fun zq14 => ?_)
    · exact retV C0 hret hlk hH (by unfold gvS; rw [hR, show v = 0 by omega]; rfl) dX1_giveNames_47
    · refine bi_const (n := 0) zx zb dX1_giveNames_17 ?_
      refine lv_istore_n (lv' := [(3, .int (iI 0)), (0, .ref (g.1 8)), (1, .int (iI ((k : Nat) : Int))), (2, .int (iI v))]) zx zb dX1_giveNames_18 rfl hl (by decide) rfl (fun ls hl => ?_)
      exact L19 _ k 0 G rfl (by omega) (by omega) (by omega) (by exact hG) (by rw [hR, nm_in (by omega)]) _ _ hH ls (lv_sub hl [1, 2, 3, 0] rfl)
  obtain ⟨H, hHe⟩ : ∃ H : Heap, H = s.heap := ⟨_, rfl⟩
  rw [show (Hp g S s s.heap []) = Hp g S s H [] by rw [hHe]] at hH
  rw [← hHe]
  refine lv_aload_n zx zb dX1_giveNames_0 rfl (lv_at hl 0 rfl) ?_
  refine gf_X1_18 C0 hH dX1_giveNames_1 ?_
  refine bi_const (n := (-1)) zx zb dX1_giveNames_4 ?_
  refine csN (rest := []) (As := [.ref (g.1 11), .int (iI (-1))]) C0 hH (c_J7_fill_53178 l g S (-1)) kw_X1_21 ky_J7_fill_53178 ⟨Nat.le_of_ble_eq_true rfl, Nat.le_of_ble_eq_true rfl⟩ ⟨Nat.zero_le _, Nat.zero_le _⟩ rfl hl.1 rfl (Nat.le_of_ble_eq_true rfl) dX1_giveNames_5 (fun H locs hH => ?_)
  refine bi_const (n := 0) zx zb dX1_giveNames_8 ?_
  refine lv_istore_n (lv' := [(1, .int (iI 0)), (0, .ref (g.1 8))]) zx zb dX1_giveNames_9 rfl hl (by decide) rfl (fun ls hl => ?_)
  refine bi_bip (n := 6) zx zb dX1_giveNames_10 (by decide) ?_
  refine lv_istore_n (lv' := [(2, .int (iI 6)), (1, .int (iI 0)), (0, .ref (g.1 8))]) zx zb dX1_giveNames_12 rfl hl (by decide) rfl (fun ls hl => ?_)
  exact L13 _ 0 6 (fillA 8 (-1) (S 11)) rfl (by omega) (by omega) (by intro j h0 h1; unfold fillA; rw [if_pos ⟨h0, h1⟩]; omega) (by rfl) _ _ hH ls (lv_sub hl [2, 1, 0] rfl)
set_option maxRecDepth 100000 in
set_option maxHeartbeats 4000000 in
theorem c_X1_replace (l : Launch) (g : gT) (S : gSt) (v f n : Int) (hv : 0 ≤ v ∧ v < 6) (hf : 0 ≤ f ∧ f < 8) (hn : -1 ≤ n ∧ n < 10) (h9 : ∀ j : Int, 0 ≤ j → j < 48 → -1 ≤ S 9 j ∧ S 9 j < 10) (hT : ∀ j : Int, 0 ≤ j → j < 80 → -7 ≤ S 10 j ∧ S 10 j ≤ 7) : MetG l g yX1_replace cX1_replace 6 (some .int) 2 48 [.ref (g.1 8), .int (iI v), .int (iI f), .int (iI n)] S (some (.int (iI (S 9 (v * 8 + f))))) (rpS S v f n) := by
  refine bodyG (by decide +kernel) (Nat.le_of_ble_eq_true rfl) ?_
  intro p e s m args below meth c ls C0 hret hlk hl hH
  have zx := C0.1
  have zb := C0.2.1
  have hl : lv_has ls 6 [(0, .ref (g.1 8)), (1, .int (iI v)), (2, .int (iI f)), (3, .int (iI n))] := hl
  obtain ⟨H, hHe⟩ : ∃ H : Heap, H = s.heap := ⟨_, rfl⟩
  rw [show (Hp g S s s.heap []) = Hp g S s H [] by rw [hHe]] at hH
  rw [← hHe]
  refine lv_iload_n zx zb dX1_replace_0 rfl (lv_at hl 1 rfl) ?_
  refine bi_bip (n := 8) zx zb dX1_replace_1 (by decide) ?_
  refine bi_mul zx zb dX1_replace_3 ?_
  refine lv_iload_n zx zb dX1_replace_4 rfl (lv_at hl 2 rfl) ?_
  refine bi_add zx zb dX1_replace_5 ?_
  refine lv_istore (lv' := [(4, .int (iI ((v * 8) + f))), (0, .ref (g.1 8)), (1, .int (iI v)), (2, .int (iI f)), (3, .int (iI n))]) zx zb dX1_replace_6 hl (by decide) rfl (fun ls hl => ?_)
  refine lv_aload_n zx zb dX1_replace_8 rfl (lv_at hl 1 rfl) ?_
  refine gf_X1_9 C0 hH dX1_replace_9 ?_
  refine lv_iload zx zb dX1_replace_12 (lv_at hl 0 rfl) ?_
  have hb9 := h9 (v * 8 + f) (by omega) (by omega)
  refine al_9 C0 hH (by omega) (by omega) dX1_replace_14 ?_
  refine lv_istore (lv' := [(5, .int (iI (S 9 ((v * 8) + f)))), (4, .int (iI ((v * 8) + f))), (0, .ref (g.1 8)), (1, .int (iI v)), (2, .int (iI f)), (3, .int (iI n))]) zx zb dX1_replace_15 hl (by decide) rfl (fun ls hl => ?_)
  refine lv_aload_n zx zb dX1_replace_17 rfl (lv_at hl 2 rfl) ?_
  refine gf_X1_9 C0 hH dX1_replace_18 ?_
  refine lv_iload zx zb dX1_replace_21 (lv_at hl 1 rfl) ?_
  refine lv_iload_n zx zb dX1_replace_23 rfl (lv_at hl 5 rfl) ?_
  refine as_9 C0 hH (by omega) (by omega) dX1_replace_24 (fun H locs hH => ?_)
  refine lv_aload_n zx zb dX1_replace_25 rfl (lv_at hl 2 rfl) ?_
  refine lv_iload_n zx zb dX1_replace_26 rfl (lv_at hl 4 rfl) ?_
  refine lv_iload zx zb dX1_replace_27 (lv_at hl 0 rfl) ?_
  refine bi_const (n := (-1)) zx zb dX1_replace_29 ?_
  refine cvN (rest := []) (As := [.int (iI f), .int (iI (S 9 ((v * 8) + f))), .int (iI (-1))]) (b := g.1 8) C0 hH (c_X1_count l g (st S 9 ((v * 8) + f) n) f (S 9 ((v * 8) + f)) (-1) (by omega) (by omega)) kw_X1_27 ky_X1_count ⟨Nat.le_of_ble_eq_true rfl, Nat.le_of_ble_eq_true rfl⟩ ⟨Nat.zero_le _, Nat.zero_le _⟩ 8 rfl rfl rfl hl.1 rfl (Nat.le_of_ble_eq_true rfl) dX1_replace_30 (fun H locs hH => ?_)
  refine lv_aload_n zx zb dX1_replace_33 rfl (lv_at hl 2 rfl) ?_
  refine lv_iload_n zx zb dX1_replace_34 rfl (lv_at hl 4 rfl) ?_
  refine lv_iload_n zx zb dX1_replace_35 rfl (lv_at hl 5 rfl) ?_
  refine bi_const (n := 1) zx zb dX1_replace_36 ?_
  have hT1 := fun j => cnS_10 (st S 9 (v * 8 + f) n) f (S 9 (v * 8 + f)) (-1) (by omega) j 7 (fun j h0 h1 => hT j h0 h1)
  refine cvN (rest := []) (As := [.int (iI f), .int (iI n), .int (iI 1)]) (b := g.1 8) C0 hH (c_X1_count l g (cnS (st S 9 ((v * 8) + f) n) f (S 9 ((v * 8) + f)) (-1)) f n 1 (by omega) (by omega)) kw_X1_27 ky_X1_count ⟨Nat.le_of_ble_eq_true rfl, Nat.le_of_ble_eq_true rfl⟩ ⟨Nat.zero_le _, Nat.zero_le _⟩ 8 rfl rfl rfl hl.1 rfl (Nat.le_of_ble_eq_true rfl) dX1_replace_37 (fun H locs hH => ?_)
  have hT2 := fun j => cnS_10 (cnS (st S 9 (v * 8 + f) n) f (S 9 (v * 8 + f)) (-1)) f n 1 (by omega) j 8 (fun j h0 h1 => hT1 j h0 h1)
  refine lv_aload_n zx zb dX1_replace_40 rfl (lv_at hl 2 rfl) ?_
  refine cvN (rest := []) (As := []) (b := g.1 8) C0 hH (c_X1_giveNames l g (cnS (cnS (st S 9 ((v * 8) + f) n) f (S 9 ((v * 8) + f)) (-1)) f n 1) (fun j h0 h1 => by have h2 := hT2 j h0 h1; omega)) kw_X1_31 ky_X1_giveNames ⟨Nat.le_of_ble_eq_true rfl, Nat.le_of_ble_eq_true rfl⟩ ⟨Nat.zero_le _, Nat.zero_le _⟩ 8 rfl rfl rfl hl.1 rfl (Nat.le_of_ble_eq_true rfl) dX1_replace_41 (fun H locs hH => ?_)
  refine lv_iload zx zb dX1_replace_44 (lv_at hl 0 rfl) ?_
  exact retI C0 hret hlk hH (by rfl) (rfl) dX1_replace_46
