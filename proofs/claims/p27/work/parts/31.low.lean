set_option maxRecDepth 100000 in
set_option maxHeartbeats 4000000 in
theorem c_X6_skyTurn (l : Launch) (g : gT) (S : gSt) (d h : Int)  : MetG l g yX6_skyTurn cX6_skyTurn 2 (some .int) 0 0 [.int (iI d), .int (iI h)] S (some (.int (iI (15 * h + d)))) S := by
  refine bodyG (by decide +kernel) (Nat.le_of_ble_eq_true rfl) ?_
  intro p e s m args below meth c ls C0 hret hlk hl hH
  have zx := C0.1
  have zb := C0.2.1
  have hl : lv_has ls 2 [(0, .int (iI d)), (1, .int (iI h))] := hl
  obtain ⟨H, hHe⟩ : ∃ H : Heap, H = s.heap := ⟨_, rfl⟩
  rw [show (Hp g S s s.heap []) = Hp g S s H [] by rw [hHe]] at hH
  rw [← hHe]
  refine bi_bip (n := 15) zx zb dX6_skyTurn_0 (by decide) ?_
  refine lv_iload_n zx zb dX6_skyTurn_2 rfl (lv_at hl 1 rfl) ?_
  refine bi_mul zx zb dX6_skyTurn_3 ?_
  refine lv_iload_n zx zb dX6_skyTurn_4 rfl (lv_at hl 0 rfl) ?_
  refine bi_add zx zb dX6_skyTurn_5 ?_
  exact retI C0 hret hlk hH (by rfl) (rfl) dX6_skyTurn_6
set_option maxRecDepth 100000 in
set_option maxHeartbeats 4000000 in
theorem c_X6_lowestHeight (l : Launch) (g : gT) (S : gSt) (f lat t : Int) (hf : 0 ≤ f ∧ f < 8) (hlat : -90 ≤ lat ∧ lat ≤ 90) (ht : 0 ≤ t ∧ t ≤ 1000) (hN : okN (S 5)) (hE : okE (S 5) (S 6)) (hO : okE (S 5) (S 7)) (hC : okC (S 2) (S 3)) : MetG l g yX6_lowestHeight cX6_lowestHeight 8 (some .int) 4 93 [.ref (g.1 0), .int (iI f), .int (iI lat), .int (iI t)] S (some (.int (iI (lwI (S 5) (S 6) (S 7) (S 2) (S 3) f lat t)))) S := by
  refine bodyG (by decide +kernel) (Nat.le_of_ble_eq_true rfl) ?_
  intro p e s m args below meth c ls C0 hret hlk hl hH
  have zx := C0.1
  have zb := C0.2.1
  have hl : lv_has ls 8 [(0, .ref (g.1 0)), (1, .int (iI f)), (2, .int (iI lat)), (3, .int (iI t))] := hl
  have L28 : ∀ (μ : Nat) (i : Int) (a : Int), (S 5 f - i).toNat = μ → (0 ≤ i ∧ i ≤ S 5 f) → (-3000 ≤ a ∧ a ≤ 3000) → (lwI (S 5) (S 6) (S 7) (S 2) (S 3) f lat t = lpF (loQ (hgA (S 2) (S 3) lat t) (S 6) (S 7)) (S 5 f - i).toNat (10 * f + i) a) → ∀ (H : Heap) (locs : List Loc), Hp g S s H locs → ∀ ls : Array Slot, lv_has ls 8 [(0, .ref (g.1 0)), (1, .int (iI f)), (2, .int (iI lat)), (3, .int (iI t)), (4, .int (iI (S 5 f))), (5, .int (iI a)), (6, .int (iI i))] → W p l e { frames := 4, cells := 0, slots := 0, locals := 93 } s m args below meth c H locs 0 0 (MQ below (RetG g (some (.int (iI (lwI (S 5) (S 6) (S 7) (S 2) (S 3) f lat t)))) S) args s 0 0 (oA g)) (F0 m 28 ls []) := by
    refine lpN (fun μ28 ih28 => ?_)
    intro i a hμ28 hi ha hR H locs hH ls hl
    have hn := hN f hf.1 hf.2
    refine lv_iload zx zb dX6_lowestHeight_28 (lv_at hl 6 rfl) ?_
    refine lv_iload zx zb dX6_lowestHeight_30 (lv_at hl 4 rfl) ?_
    refine bq_ge (tgt := 101) zx zb dX6_lowestHeight_32 (by decide) ⟨by omega, by omega⟩ ⟨by omega, by omega⟩ (fun zq32 => ?_) (fun zq32 => ?_)
    · refine lv_iload zx zb dX6_lowestHeight_101 (lv_at hl 5 rfl) ?_
      exact retI C0 hret hlk hH (by rw [hR, lpF_e2 zq32]) (rfl) dX6_lowestHeight_103
    · have he := hE f i hf.1 hf.2 (by omega) (by omega)
      have ho := hO f i hf.1 hf.2 (by omega) (by omega)
      have hb1 := hg_b lat (S 3 (S 6 (10 * f + i))) (t - S 2 (S 6 (10 * f + i)))
      have hb2 := hg_b lat (S 3 (S 7 (10 * f + i))) (t - S 2 (S 7 (10 * f + i)))
      refine lv_iload_n zx zb dX6_lowestHeight_35 rfl (lv_at hl 1 rfl) ?_
      refine lv_iload zx zb dX6_lowestHeight_36 (lv_at hl 6 rfl) ?_
      refine csI (rest := []) (As := [.int (iI f), .int (iI i)]) C0 hH (c_X5_place l g S f i) kw_X6_128 ky_X5_place ⟨Nat.le_of_ble_eq_true rfl, Nat.le_of_ble_eq_true rfl⟩ ⟨Nat.zero_le _, Nat.zero_le _⟩ rfl hl.1 rfl (Nat.le_of_ble_eq_true rfl) dX6_lowestHeight_38 (fun H locs hH => ?_)
      refine lv_istore (lv' := [(7, .int (iI (10 * f + i))), (0, .ref (g.1 0)), (1, .int (iI f)), (2, .int (iI lat)), (3, .int (iI t)), (4, .int (iI (S 5 f))), (5, .int (iI a)), (6, .int (iI i))]) zx zb dX6_lowestHeight_41 hl (by decide) rfl (fun ls hl => ?_)
      refine lv_iload zx zb dX6_lowestHeight_43 (lv_at hl 6 rfl) ?_
      refine lv_aload_n zx zb dX6_lowestHeight_45 rfl (lv_at hl 1 rfl) ?_
      refine gf_X6_12 C0 hH dX6_lowestHeight_46 ?_
      refine lv_aload_n zx zb dX6_lowestHeight_49 rfl (lv_at hl 1 rfl) ?_
      refine gf_X6_19 C0 hH dX6_lowestHeight_50 ?_
      refine gf_X6_131 C0 hH dX6_lowestHeight_53 ?_
      refine lv_iload zx zb dX6_lowestHeight_56 (lv_at hl 0 rfl) ?_
      refine al_6 C0 hH (by omega) (by omega) dX6_lowestHeight_58 ?_
      refine lv_iload_n zx zb dX6_lowestHeight_59 rfl (lv_at hl 3 rfl) ?_
      refine lv_iload_n zx zb dX6_lowestHeight_60 rfl (lv_at hl 4 rfl) ?_
      refine cvI (rest := [.int (iI a)]) (As := [.int (iI (S 6 (10 * f + i))), .int (iI lat), .int (iI t)]) (b := g.1 1) C0 hH (c_X2_heightAt l g S (S 6 (10 * f + i)) lat t (by omega) (by omega) (by omega) (hC)) kw_X6_188 ky_X2_heightAt ⟨Nat.le_of_ble_eq_true rfl, Nat.le_of_ble_eq_true rfl⟩ ⟨Nat.zero_le _, Nat.zero_le _⟩ 1 rfl rfl rfl hl.1 rfl (Nat.le_of_ble_eq_true rfl) dX6_lowestHeight_61 (fun H locs hH => ?_)
      refine csI (rest := []) (As := [.int (iI a), .int (iI (hg lat (S 3 (S 6 (10 * f + i))) (t - S 2 (S 6 (10 * f + i)))))]) C0 hH (c_J9_min_7cf53 l g S a (hg lat (S 3 (S 6 (10 * f + i))) (t - S 2 (S 6 (10 * f + i)))) (by omega) (by omega)) kw_X6_254 ky_J9_min_7cf53 ⟨Nat.le_of_ble_eq_true rfl, Nat.le_of_ble_eq_true rfl⟩ ⟨Nat.zero_le _, Nat.zero_le _⟩ rfl hl.1 rfl (Nat.le_of_ble_eq_true rfl) dX6_lowestHeight_64 (fun H locs hH => ?_)
      refine lv_istore (lv' := [(5, .int (iI (min a (hg lat (S 3 (S 6 (10 * f + i))) (t - S 2 (S 6 (10 * f + i))))))), (7, .int (iI (10 * f + i))), (0, .ref (g.1 0)), (1, .int (iI f)), (2, .int (iI lat)), (3, .int (iI t)), (4, .int (iI (S 5 f))), (6, .int (iI i))]) zx zb dX6_lowestHeight_67 hl (by decide) rfl (fun ls hl => ?_)
      refine lv_iload zx zb dX6_lowestHeight_69 (lv_at hl 0 rfl) ?_
      refine lv_aload_n zx zb dX6_lowestHeight_71 rfl (lv_at hl 2 rfl) ?_
      refine gf_X6_12 C0 hH dX6_lowestHeight_72 ?_
      refine lv_aload_n zx zb dX6_lowestHeight_75 rfl (lv_at hl 2 rfl) ?_
      refine gf_X6_19 C0 hH dX6_lowestHeight_76 ?_
      refine gf_X6_134 C0 hH dX6_lowestHeight_79 ?_
      refine lv_iload zx zb dX6_lowestHeight_82 (lv_at hl 1 rfl) ?_
      refine al_7 C0 hH (by omega) (by omega) dX6_lowestHeight_84 ?_
      refine lv_iload_n zx zb dX6_lowestHeight_85 rfl (lv_at hl 4 rfl) ?_
      refine lv_iload_n zx zb dX6_lowestHeight_86 rfl (lv_at hl 5 rfl) ?_
      refine cvI (rest := [.int (iI (min a (hg lat (S 3 (S 6 (10 * f + i))) (t - S 2 (S 6 (10 * f + i))))))]) (As := [.int (iI (S 7 (10 * f + i))), .int (iI lat), .int (iI t)]) (b := g.1 1) C0 hH (c_X2_heightAt l g S (S 7 (10 * f + i)) lat t (by omega) (by omega) (by omega) (hC)) kw_X6_188 ky_X2_heightAt ⟨Nat.le_of_ble_eq_true rfl, Nat.le_of_ble_eq_true rfl⟩ ⟨Nat.zero_le _, Nat.zero_le _⟩ 1 rfl rfl rfl hl.1 rfl (Nat.le_of_ble_eq_true rfl) dX6_lowestHeight_87 (fun H locs hH => ?_)
      refine csI (rest := []) (As := [.int (iI (min a (hg lat (S 3 (S 6 (10 * f + i))) (t - S 2 (S 6 (10 * f + i)))))), .int (iI (hg lat (S 3 (S 7 (10 * f + i))) (t - S 2 (S 7 (10 * f + i)))))]) C0 hH (c_J9_min_7cf53 l g S (min a (hg lat (S 3 (S 6 (10 * f + i))) (t - S 2 (S 6 (10 * f + i))))) (hg lat (S 3 (S 7 (10 * f + i))) (t - S 2 (S 7 (10 * f + i)))) (by omega) (by omega)) kw_X6_254 ky_J9_min_7cf53 ⟨Nat.le_of_ble_eq_true rfl, Nat.le_of_ble_eq_true rfl⟩ ⟨Nat.zero_le _, Nat.zero_le _⟩ rfl hl.1 rfl (Nat.le_of_ble_eq_true rfl) dX6_lowestHeight_90 (fun H locs hH => ?_)
      refine lv_istore (lv' := [(5, .int (iI (min (min a (hg lat (S 3 (S 6 (10 * f + i))) (t - S 2 (S 6 (10 * f + i))))) (hg lat (S 3 (S 7 (10 * f + i))) (t - S 2 (S 7 (10 * f + i))))))), (7, .int (iI (10 * f + i))), (0, .ref (g.1 0)), (1, .int (iI f)), (2, .int (iI lat)), (3, .int (iI t)), (4, .int (iI (S 5 f))), (6, .int (iI i))]) zx zb dX6_lowestHeight_93 hl (by decide) rfl (fun ls hl => ?_)
      refine bi_inc (k0 := 7) (n := 1) (lv' := [(6, .int (iI (i + 1))), (5, .int (iI (min (min a (hg lat (S 3 (S 6 (10 * f + i))) (t - S 2 (S 6 (10 * f + i))))) (hg lat (S 3 (S 7 (10 * f + i))) (t - S 2 (S 7 (10 * f + i))))))), (7, .int (iI (10 * f + i))), (0, .ref (g.1 0)), (1, .int (iI f)), (2, .int (iI lat)), (3, .int (iI t)), (4, .int (iI (S 5 f)))]) zx zb dX6_lowestHeight_95 hl rfl (by decide) rfl (fun ls hl => ?_)
      refine lv_goto (tgt := 28) zx zb dX6_lowestHeight_98 (by decide) ?_
      exact ih28 ((S 5 f - (i + 1)).toNat) (by omega) (i + 1) (min (min a (hg lat (S 3 (S 6 (10 * f + i))) (t - S 2 (S 6 (10 * f + i))))) (hg lat (S 3 (S 7 (10 * f + i))) (t - S 2 (S 7 (10 * f + i))))) rfl (by omega) (by omega) (by rw [hR, lpF_s2 zq32, Int.add_assoc]; rfl) _ _ hH ls (lv_sub hl [3, 4, 5, 6, 7, 1, 0] rfl)
  obtain ⟨H, hHe⟩ : ∃ H : Heap, H = s.heap := ⟨_, rfl⟩
  rw [show (Hp g S s s.heap []) = Hp g S s H [] by rw [hHe]] at hH
  rw [← hHe]
  have hn := hN f hf.1 hf.2
  refine lv_aload_n zx zb dX6_lowestHeight_0 rfl (lv_at hl 0 rfl) ?_
  refine gf_X6_19 C0 hH dX6_lowestHeight_1 ?_
  refine gf_X6_102 C0 hH dX6_lowestHeight_4 ?_
  refine lv_iload_n zx zb dX6_lowestHeight_7 rfl (lv_at hl 1 rfl) ?_
  refine al_5 C0 hH (by omega) (by omega) dX6_lowestHeight_8 ?_
  refine lv_istore (lv' := [(4, .int (iI (S 5 f))), (0, .ref (g.1 0)), (1, .int (iI f)), (2, .int (iI lat)), (3, .int (iI t))]) zx zb dX6_lowestHeight_9 hl (by decide) rfl (fun ls hl => ?_)
  refine lv_iload zx zb dX6_lowestHeight_11 (lv_at hl 0 rfl) ?_
  refine bz_ne (tgt := 20) zx zb dX6_lowestHeight_13 (by decide) ⟨by omega, by omega⟩ (fun zq13 => ?_) (fun zq13 => ?_)
  · refine bi_sip (n := 1000) zx zb dX6_lowestHeight_20 (by decide) ?_
    refine lv_istore (lv' := [(5, .int (iI 1000)), (4, .int (iI (S 5 f))), (0, .ref (g.1 0)), (1, .int (iI f)), (2, .int (iI lat)), (3, .int (iI t))]) zx zb dX6_lowestHeight_23 hl (by decide) rfl (fun ls hl => ?_)
    refine bi_const (n := 0) zx zb dX6_lowestHeight_25 ?_
    refine lv_istore (lv' := [(6, .int (iI 0)), (5, .int (iI 1000)), (4, .int (iI (S 5 f))), (0, .ref (g.1 0)), (1, .int (iI f)), (2, .int (iI lat)), (3, .int (iI t))]) zx zb dX6_lowestHeight_26 hl (by decide) rfl (fun ls hl => ?_)
    exact L28 _ 0 1000 rfl (by omega) (by omega) (by unfold lwI; first | (rw [if_pos zq13, Int.sub_zero, Int.add_zero]; done) | (rw [if_neg zq13, Int.sub_zero, Int.add_zero]; done)) _ _ hH ls (lv_sub hl [3, 4, 5, 6, 2, 1, 0] rfl)
  · refine bi_const (n := 0) zx zb dX6_lowestHeight_16 ?_
    refine lv_goto (tgt := 23) zx zb dX6_lowestHeight_17 (by decide) ?_
    refine lv_istore (lv' := [(5, .int (iI 0)), (4, .int (iI (S 5 f))), (0, .ref (g.1 0)), (1, .int (iI f)), (2, .int (iI lat)), (3, .int (iI t))]) zx zb dX6_lowestHeight_23 hl (by decide) rfl (fun ls hl => ?_)
    refine bi_const (n := 0) zx zb dX6_lowestHeight_25 ?_
    refine lv_istore (lv' := [(6, .int (iI 0)), (5, .int (iI 0)), (4, .int (iI (S 5 f))), (0, .ref (g.1 0)), (1, .int (iI f)), (2, .int (iI lat)), (3, .int (iI t))]) zx zb dX6_lowestHeight_26 hl (by decide) rfl (fun ls hl => ?_)
    exact L28 _ 0 0 rfl (by omega) (by omega) (by unfold lwI; first | (rw [if_pos zq13, Int.sub_zero, Int.add_zero]; done) | (rw [if_neg zq13, Int.sub_zero, Int.add_zero]; done)) _ _ hH ls (lv_sub hl [3, 4, 5, 6, 2, 1, 0] rfl)
set_option maxRecDepth 100000 in
set_option maxHeartbeats 4000000 in
theorem c_X6_figureIsUp (l : Launch) (g : gT) (S : gSt) (f lat t : Int) (hf : 0 ≤ f ∧ f < 8) (hlat : -90 ≤ lat ∧ lat ≤ 90) (ht : 0 ≤ t ∧ t ≤ 1000) (hN : okN (S 5)) (hE : okE (S 5) (S 6)) (hO : okE (S 5) (S 7)) (hC : okC (S 2) (S 3)) : MetG l g yX6_figureIsUp cX6_figureIsUp 4 (some .boolean) 5 120 [.ref (g.1 0), .int (iI f), .int (iI lat), .int (iI t)] S (some (.int (iI (if upB (S 5) (S 6) (S 7) (S 2) (S 3) f lat t = true then 1 else 0)))) S := by
  refine bodyG (by decide +kernel) (Nat.le_of_ble_eq_true rfl) ?_
  intro p e s m args below meth c ls C0 hret hlk hl hH
  have zx := C0.1
  have zb := C0.2.1
  have hl : lv_has ls 4 [(0, .ref (g.1 0)), (1, .int (iI f)), (2, .int (iI lat)), (3, .int (iI t))] := hl
  obtain ⟨H, hHe⟩ : ∃ H : Heap, H = s.heap := ⟨_, rfl⟩
  rw [show (Hp g S s s.heap []) = Hp g S s H [] by rw [hHe]] at hH
  rw [← hHe]
  refine lv_aload_n zx zb dX6_figureIsUp_0 rfl (lv_at hl 0 rfl) ?_
  refine lv_iload_n zx zb dX6_figureIsUp_1 rfl (lv_at hl 1 rfl) ?_
  refine lv_iload_n zx zb dX6_figureIsUp_2 rfl (lv_at hl 2 rfl) ?_
  refine lv_iload_n zx zb dX6_figureIsUp_3 rfl (lv_at hl 3 rfl) ?_
  refine cvI (rest := []) (As := [.int (iI f), .int (iI lat), .int (iI t)]) (b := g.1 0) C0 hH (c_X6_lowestHeight l g S f lat t (by omega) (by omega) (by omega) (hN) (hE) (hO) (hC)) kw_X6_198 ky_X6_lowestHeight ⟨Nat.le_of_ble_eq_true rfl, Nat.le_of_ble_eq_true rfl⟩ ⟨Nat.zero_le _, Nat.zero_le _⟩ 0 rfl rfl rfl hl.1 rfl (Nat.le_of_ble_eq_true rfl) dX6_figureIsUp_4 (fun H locs hH => ?_)
  have hb := lwI_b (S 5) (S 6) (S 7) (S 2) (S 3) f lat t
  refine bz_le (tgt := 14) zx zb dX6_figureIsUp_7 (by decide) ⟨by omega, by omega⟩ (fun zq7 => ?_) (fun zq7 => ?_)
  · refine bi_const (n := 0) zx zb dX6_figureIsUp_14 ?_
    exact retZ C0 hret hlk hH (by unfold upB; first | (rw [if_pos (decide_eq_true zq7)]; done) | (rw [if_neg (by simp; omega)]; done)) (by omega) (rfl) dX6_figureIsUp_15
  · refine bi_const (n := 1) zx zb dX6_figureIsUp_10 ?_
    refine lv_goto (tgt := 15) zx zb dX6_figureIsUp_11 (by decide) ?_
    exact retZ C0 hret hlk hH (by unfold upB; first | (rw [if_pos (decide_eq_true zq7)]; done) | (rw [if_neg (by simp; omega)]; done)) (by omega) (rfl) dX6_figureIsUp_15
set_option maxRecDepth 100000 in
set_option maxHeartbeats 4000000 in
theorem c_X6_hoursOfStar (l : Launch) (g : gT) (S : gSt) (z lat d : Int) (hz : 0 ≤ z ∧ z < 24) (hlat : -90 ≤ lat ∧ lat ≤ 90) (hd : 0 ≤ d ∧ d < 365) (hC : okC (S 2) (S 3)) : MetG l g yX6_hoursOfStar cX6_hoursOfStar 6 (some .int) 4 93 [.ref (g.1 0), .int (iI z), .int (iI lat), .int (iI d)] S (some (.int (iI ((hsN (S 2) (S 3) z lat d : Nat) : Int)))) S := by
  refine bodyG (by decide +kernel) (Nat.le_of_ble_eq_true rfl) ?_
  intro p e s m args below meth c ls C0 hret hlk hl hH
  have zx := C0.1
  have zb := C0.2.1
  have hl : lv_has ls 6 [(0, .ref (g.1 0)), (1, .int (iI z)), (2, .int (iI lat)), (3, .int (iI d))] := hl
  have L6 : ∀ (μ : Nat) (i : Int) (k : Nat), (24 - i).toNat = μ → (0 ≤ i ∧ i ≤ 24) → (hsN (S 2) (S 3) z lat d = lpF (dyQ (fun h => decide (0 < hgA (S 2) (S 3) lat (15 * h + d) z))) (24 - i).toNat i k) → ∀ (H : Heap) (locs : List Loc), Hp g S s H locs → ∀ ls : Array Slot, lv_has ls 6 [(0, .ref (g.1 0)), (1, .int (iI z)), (2, .int (iI lat)), (3, .int (iI d)), (4, .int (iI ((k : Nat) : Int))), (5, .int (iI i))] → W p l e { frames := 4, cells := 0, slots := 0, locals := 93 } s m args below meth c H locs 0 0 (MQ below (RetG g (some (.int (iI ((hsN (S 2) (S 3) z lat d : Nat) : Int)))) S) args s 0 0 (oA g)) (F0 m 6 ls []) := by
    refine lpN (fun μ6 ih6 => ?_)
    intro i k hμ6 hi hR H locs hH ls hl
    refine lv_iload zx zb dX6_hoursOfStar_6 (lv_at hl 5 rfl) ?_
    refine bi_bip (n := 24) zx zb dX6_hoursOfStar_8 (by decide) ?_
    refine bq_ge (tgt := 46) zx zb dX6_hoursOfStar_10 (by decide) ⟨by omega, by omega⟩ ⟨by omega, by omega⟩ (fun zq10 => ?_) (fun zq10 => ?_)
    · refine lv_iload zx zb dX6_hoursOfStar_46 (lv_at hl 4 rfl) ?_
      exact retI C0 hret hlk hH (by rw [hR, lpF_e2 zq10]) (rfl) dX6_hoursOfStar_48
    · refine lv_aload_n zx zb dX6_hoursOfStar_13 rfl (lv_at hl 0 rfl) ?_
      refine gf_X6_12 C0 hH dX6_hoursOfStar_14 ?_
      refine lv_iload_n zx zb dX6_hoursOfStar_17 rfl (lv_at hl 1 rfl) ?_
      refine lv_iload_n zx zb dX6_hoursOfStar_18 rfl (lv_at hl 2 rfl) ?_
      refine lv_iload_n zx zb dX6_hoursOfStar_19 rfl (lv_at hl 3 rfl) ?_
      refine lv_iload zx zb dX6_hoursOfStar_20 (lv_at hl 5 rfl) ?_
      refine csI (rest := [.int (iI lat), .int (iI z), .ref (g.1 1)]) (As := [.int (iI d), .int (iI i)]) C0 hH (c_X6_skyTurn l g S d i) kw_X6_185 ky_X6_skyTurn ⟨Nat.le_of_ble_eq_true rfl, Nat.le_of_ble_eq_true rfl⟩ ⟨Nat.zero_le _, Nat.zero_le _⟩ rfl hl.1 rfl (Nat.le_of_ble_eq_true rfl) dX6_hoursOfStar_22 (fun H locs hH => ?_)
      refine cvI (rest := []) (As := [.int (iI z), .int (iI lat), .int (iI (15 * i + d))]) (b := g.1 1) C0 hH (c_X2_heightAt l g S z lat (15 * i + d) (by omega) (by omega) (by omega) (hC)) kw_X6_188 ky_X2_heightAt ⟨Nat.le_of_ble_eq_true rfl, Nat.le_of_ble_eq_true rfl⟩ ⟨Nat.zero_le _, Nat.zero_le _⟩ 1 rfl rfl rfl hl.1 rfl (Nat.le_of_ble_eq_true rfl) dX6_hoursOfStar_25 (fun H locs hH => ?_)
      have hb1 := hg_b lat (S 3 z) (15 * i + d - S 2 z)
      refine bz_le (tgt := 40) zx zb dX6_hoursOfStar_28 (by decide) ⟨by omega, by omega⟩ (fun zq28 => ?_) (fun zq28 => ?_)
      · refine bi_inc (k0 := 5) (n := 1) (lv' := [(5, .int (iI (i + 1))), (0, .ref (g.1 0)), (1, .int (iI z)), (2, .int (iI lat)), (3, .int (iI d)), (4, .int (iI ((k : Nat) : Int)))]) zx zb dX6_hoursOfStar_40 hl rfl (by decide) rfl (fun ls hl => ?_)
        refine lv_goto (tgt := 6) zx zb dX6_hoursOfStar_43 (by decide) ?_
        exact ih6 ((24 - (i + 1)).toNat) (by omega) (i + 1) k rfl (by omega) (by rw [hR, lpF_s2 zq10]; unfold dyQ hgA; first | (rw [if_pos (decide_eq_true zq28)]; done) | (rw [if_neg (by simp; omega)]; done)) _ _ hH ls (lv_sub hl [1, 2, 3, 4, 5, 0] rfl)
      · refine lv_iload zx zb dX6_hoursOfStar_31 (lv_at hl 4 rfl) ?_
        refine bi_const (n := 1) zx zb dX6_hoursOfStar_33 ?_
        refine lv_iload zx zb dX6_hoursOfStar_34 (lv_at hl 5 rfl) ?_
        refine bi_shl zx zb dX6_hoursOfStar_36 (by omega) (by omega) ?_
        refine bi_or (a := k) (b := 2 ^ i.toNat) zx zb dX6_hoursOfStar_37 ?_
        refine lv_istore (lv' := [(4, .int (iI ((k ||| (2 ^ i.toNat) : Nat) : Int))), (0, .ref (g.1 0)), (1, .int (iI z)), (2, .int (iI lat)), (3, .int (iI d)), (5, .int (iI i))]) zx zb dX6_hoursOfStar_38 hl (by decide) rfl (fun ls hl => ?_)
        refine bi_inc (k0 := 5) (n := 1) (lv' := [(5, .int (iI (i + 1))), (4, .int (iI ((k ||| (2 ^ i.toNat) : Nat) : Int))), (0, .ref (g.1 0)), (1, .int (iI z)), (2, .int (iI lat)), (3, .int (iI d))]) zx zb dX6_hoursOfStar_40 hl rfl (by decide) rfl (fun ls hl => ?_)
        refine lv_goto (tgt := 6) zx zb dX6_hoursOfStar_43 (by decide) ?_
        exact ih6 ((24 - (i + 1)).toNat) (by omega) (i + 1) (k ||| (2 ^ i.toNat)) rfl (by omega) (by rw [hR, lpF_s2 zq10]; unfold dyQ hgA; first | (rw [if_pos (decide_eq_true zq28)]; done) | (rw [if_neg (by simp; omega)]; done)) _ _ hH ls (lv_sub hl [2, 3, 4, 5, 1, 0] rfl)
  obtain ⟨H, hHe⟩ : ∃ H : Heap, H = s.heap := ⟨_, rfl⟩
  rw [show (Hp g S s s.heap []) = Hp g S s H [] by rw [hHe]] at hH
  rw [← hHe]
  refine bi_const (n := 0) zx zb dX6_hoursOfStar_0 ?_
  refine lv_istore (lv' := [(4, .int (iI 0)), (0, .ref (g.1 0)), (1, .int (iI z)), (2, .int (iI lat)), (3, .int (iI d))]) zx zb dX6_hoursOfStar_1 hl (by decide) rfl (fun ls hl => ?_)
  refine bi_const (n := 0) zx zb dX6_hoursOfStar_3 ?_
  refine lv_istore (lv' := [(5, .int (iI 0)), (4, .int (iI 0)), (0, .ref (g.1 0)), (1, .int (iI z)), (2, .int (iI lat)), (3, .int (iI d))]) zx zb dX6_hoursOfStar_4 hl (by decide) rfl (fun ls hl => ?_)
  exact L6 _ 0 0 rfl (by omega) (by unfold hsN dyN; rw [Int.sub_zero]) _ _ hH ls (lv_sub hl [2, 3, 4, 5, 1, 0] rfl)
set_option maxRecDepth 100000 in
set_option maxHeartbeats 4000000 in
theorem c_X6_showIsWrong (l : Launch) (g : gT) (S : gSt) (i : Int) (hi : 0 ≤ i ∧ i < 12) (hN : okN (S 5)) (hE : okE (S 5) (S 6)) (hO : okE (S 5) (S 7)) (hC : okC (S 2) (S 3)) (hG : okG (S 11)) (hP : okP (S 13) (S 14) (S 15) (S 16)) : MetG l g yX6_showIsWrong cX6_showIsWrong 3 (some .boolean) 5 120 [.ref (g.1 0), .int (iI i)] S (some (.int (iI (if swB S i = true then 1 else 0)))) S := by
  refine bodyG (by decide +kernel) (Nat.le_of_ble_eq_true rfl) ?_
  intro p e s m args below meth c ls C0 hret hlk hl hH
  have zx := C0.1
  have zb := C0.2.1
  have hl : lv_has ls 3 [(0, .ref (g.1 0)), (1, .int (iI i))] := hl
  obtain ⟨H, hHe⟩ : ∃ H : Heap, H = s.heap := ⟨_, rfl⟩
  rw [show (Hp g S s s.heap []) = Hp g S s H [] by rw [hHe]] at hH
  rw [← hHe]
  have hp := hP i hi.1 hi.2
  have hg := hG (S 13 i) hp.1.1 hp.1.2
  refine lv_aload_n zx zb dX6_showIsWrong_0 rfl (lv_at hl 0 rfl) ?_
  refine gf_X6_33 C0 hH dX6_showIsWrong_1 ?_
  refine gf_X6_259 C0 hH dX6_showIsWrong_4 ?_
  refine lv_iload_n zx zb dX6_showIsWrong_7 rfl (lv_at hl 1 rfl) ?_
  refine al_13 C0 hH (by omega) (by omega) dX6_showIsWrong_8 ?_
  refine lv_istore_n (lv' := [(2, .int (iI (S 13 i))), (0, .ref (g.1 0)), (1, .int (iI i))]) zx zb dX6_showIsWrong_9 rfl hl (by decide) rfl (fun ls hl => ?_)
  refine lv_aload_n zx zb dX6_showIsWrong_10 rfl (lv_at hl 1 rfl) ?_
  refine gf_X6_26 C0 hH dX6_showIsWrong_11 ?_
  refine gf_X6_173 C0 hH dX6_showIsWrong_14 ?_
  refine lv_iload_n zx zb dX6_showIsWrong_17 rfl (lv_at hl 0 rfl) ?_
  refine al_11 C0 hH (by omega) (by omega) dX6_showIsWrong_18 ?_
  refine lv_aload_n zx zb dX6_showIsWrong_19 rfl (lv_at hl 1 rfl) ?_
  refine gf_X6_33 C0 hH dX6_showIsWrong_20 ?_
  refine gf_X6_262 C0 hH dX6_showIsWrong_23 ?_
  refine lv_iload_n zx zb dX6_showIsWrong_26 rfl (lv_at hl 2 rfl) ?_
  refine al_14 C0 hH (by omega) (by omega) dX6_showIsWrong_27 ?_
  refine bq_ne (tgt := 57) zx zb dX6_showIsWrong_28 (by decide) ⟨by omega, by omega⟩ ⟨by omega, by omega⟩ (fun zq28 => ?_) (fun zq28 => ?_)
  · refine bi_const (n := 1) zx zb dX6_showIsWrong_57 ?_
    refine lv_goto (tgt := 62) zx zb dX6_showIsWrong_58 (by decide) ?_
    exact retZ C0 hret hlk hH (by unfold swB upB; first | (rw [decide_eq_false zq28]; rfl) | (rw [decide_eq_true zq28, decide_eq_true zq54]; rfl) | (rw [decide_eq_true zq28, decide_eq_false (Int.not_lt.mpr zq54)]; rfl)) (by omega) (rfl) dX6_showIsWrong_62
  · refine lv_aload_n zx zb dX6_showIsWrong_31 rfl (lv_at hl 1 rfl) ?_
    refine lv_iload_n zx zb dX6_showIsWrong_32 rfl (lv_at hl 0 rfl) ?_
    refine lv_aload_n zx zb dX6_showIsWrong_33 rfl (lv_at hl 1 rfl) ?_
    refine gf_X6_33 C0 hH dX6_showIsWrong_34 ?_
    refine gf_X6_265 C0 hH dX6_showIsWrong_37 ?_
    refine lv_iload_n zx zb dX6_showIsWrong_40 rfl (lv_at hl 2 rfl) ?_
    refine al_15 C0 hH (by omega) (by omega) dX6_showIsWrong_41 ?_
    refine lv_aload_n zx zb dX6_showIsWrong_42 rfl (lv_at hl 1 rfl) ?_
    refine gf_X6_33 C0 hH dX6_showIsWrong_43 ?_
    refine gf_X6_268 C0 hH dX6_showIsWrong_46 ?_
    refine lv_iload_n zx zb dX6_showIsWrong_49 rfl (lv_at hl 2 rfl) ?_
    refine al_16 C0 hH (by omega) (by omega) dX6_showIsWrong_50 ?_
    refine cvI (rest := []) (As := [.int (iI (S 13 i)), .int (iI (S 15 i)), .int (iI (S 16 i))]) (b := g.1 0) C0 hH (c_X6_lowestHeight l g S (S 13 i) (S 15 i) (S 16 i) (by omega) (by omega) (by omega) (hN) (hE) (hO) (hC)) kw_X6_198 ky_X6_lowestHeight ⟨Nat.le_of_ble_eq_true rfl, Nat.le_of_ble_eq_true rfl⟩ ⟨Nat.zero_le _, Nat.zero_le _⟩ 0 rfl rfl rfl hl.1 rfl (Nat.le_of_ble_eq_true rfl) dX6_showIsWrong_51 (fun H locs hH => ?_)
    have hb := lwI_b (S 5) (S 6) (S 7) (S 2) (S 3) (S 13 i) (S 15 i) (S 16 i)
    refine bz_gt (tgt := 61) zx zb dX6_showIsWrong_54 (by decide) ⟨by omega, by omega⟩ (fun zq54 => ?_) (fun zq54 => ?_)
    · refine bi_const (n := 0) zx zb dX6_showIsWrong_61 ?_
      exact retZ C0 hret hlk hH (by unfold swB upB; first | (rw [decide_eq_false zq28]; rfl) | (rw [decide_eq_true zq28, decide_eq_true zq54]; rfl) | (rw [decide_eq_true zq28, decide_eq_false (Int.not_lt.mpr zq54)]; rfl)) (by omega) (rfl) dX6_showIsWrong_62
    · refine bi_const (n := 1) zx zb dX6_showIsWrong_57 ?_
      refine lv_goto (tgt := 62) zx zb dX6_showIsWrong_58 (by decide) ?_
      exact retZ C0 hret hlk hH (by unfold swB upB; first | (rw [decide_eq_false zq28]; rfl) | (rw [decide_eq_true zq28, decide_eq_true zq54]; rfl) | (rw [decide_eq_true zq28, decide_eq_false (Int.not_lt.mpr zq54)]; rfl)) (by omega) (rfl) dX6_showIsWrong_62
set_option maxRecDepth 100000 in
set_option maxHeartbeats 4000000 in
theorem c_X6_countWrongShows (l : Launch) (g : gT) (S : gSt) (hN : okN (S 5)) (hE : okE (S 5) (S 6)) (hO : okE (S 5) (S 7)) (hC : okC (S 2) (S 3)) (hG : okG (S 11)) (hP : okP (S 13) (S 14) (S 15) (S 16)) (hsc : 0 ≤ S 12 0 ∧ S 12 0 ≤ 12) : MetG l g yX6_countWrongShows cX6_countWrongShows 3 (some .int) 6 142 [.ref (g.1 0)] S (some (.int (iI (wrI S)))) S := by
  refine bodyG (by decide +kernel) (Nat.le_of_ble_eq_true rfl) ?_
  intro p e s m args below meth c ls C0 hret hlk hl hH
  have zx := C0.1
  have zb := C0.2.1
  have hl : lv_has ls 3 [(0, .ref (g.1 0))] := hl
  have L4 : ∀ (μ : Nat) (i : Int) (a : Int), (S 12 0 - i).toNat = μ → (0 ≤ i ∧ i ≤ S 12 0) → (wrI S = lpF (cnQ (swB S)) (S 12 0 - i).toNat i a) → ∀ (H : Heap) (locs : List Loc), Hp g S s H locs → ∀ ls : Array Slot, lv_has ls 3 [(0, .ref (g.1 0)), (1, .int (iI a)), (2, .int (iI i))] → W p l e { frames := 6, cells := 0, slots := 0, locals := 142 } s m args below meth c H locs 0 0 (MQ below (RetG g (some (.int (iI (wrI S)))) S) args s 0 0 (oA g)) (F0 m 4 ls []) := by
    refine lpN (fun μ4 ih4 => ?_)
    intro i a hμ4 hi hR H locs hH ls hl
    refine lv_iload_n zx zb dX6_countWrongShows_4 rfl (lv_at hl 2 rfl) ?_
    refine lv_aload_n zx zb dX6_countWrongShows_5 rfl (lv_at hl 0 rfl) ?_
    refine gf_X6_33 C0 hH dX6_countWrongShows_6 ?_
    refine gf_X6_205 C0 hH dX6_countWrongShows_9 ?_
    refine bq_ge (tgt := 32) zx zb dX6_countWrongShows_12 (by decide) ⟨by omega, by omega⟩ ⟨by omega, by omega⟩ (fun zq12 => ?_) (fun zq12 => ?_)
    · refine lv_iload_n zx zb dX6_countWrongShows_32 rfl (lv_at hl 1 rfl) ?_
      exact retI C0 hret hlk hH (by rw [hR, lpF_e2 zq12]) (rfl) dX6_countWrongShows_33
    · refine lv_aload_n zx zb dX6_countWrongShows_15 rfl (lv_at hl 0 rfl) ?_
      refine lv_iload_n zx zb dX6_countWrongShows_16 rfl (lv_at hl 2 rfl) ?_
      refine cvI (rest := []) (As := [.int (iI i)]) (b := g.1 0) C0 hH (c_X6_showIsWrong l g S i (by omega) (hN) (hE) (hO) (hC) (hG) (hP)) kw_X6_215 ky_X6_showIsWrong ⟨Nat.le_of_ble_eq_true rfl, Nat.le_of_ble_eq_true rfl⟩ ⟨Nat.zero_le _, Nat.zero_le _⟩ 0 rfl rfl rfl hl.1 rfl (Nat.le_of_ble_eq_true rfl) dX6_countWrongShows_17 (fun H locs hH => ?_)
      have hb20 := brg (swB S i)
      refine bz_eq (tgt := 26) zx zb dX6_countWrongShows_20 (by decide) ⟨by omega, by omega⟩ (fun zq20 => ?_) (fun zq20 => ?_)
      · refine bi_inc (k0 := 2) (n := 1) (lv' := [(2, .int (iI (i + 1))), (0, .ref (g.1 0)), (1, .int (iI a))]) zx zb dX6_countWrongShows_26 hl rfl (by decide) rfl (fun ls hl => ?_)
        refine lv_goto (tgt := 4) zx zb dX6_countWrongShows_29 (by decide) ?_
        exact ih4 ((S 12 0 - (i + 1)).toNat) (by omega) (i + 1) a rfl (by omega) (by rw [hR, lpF_s2 zq12]; unfold cnQ; first | (rw [b0 zq20]; rfl) | (rw [b1 zq20]; rfl)) _ _ hH ls (lv_sub hl [1, 2, 0] rfl)
      · refine bi_inc (k0 := 1) (n := 1) (lv' := [(1, .int (iI (a + 1))), (0, .ref (g.1 0)), (2, .int (iI i))]) zx zb dX6_countWrongShows_23 hl rfl (by decide) rfl (fun ls hl => ?_)
        refine bi_inc (k0 := 2) (n := 1) (lv' := [(2, .int (iI (i + 1))), (1, .int (iI (a + 1))), (0, .ref (g.1 0))]) zx zb dX6_countWrongShows_26 hl rfl (by decide) rfl (fun ls hl => ?_)
        refine lv_goto (tgt := 4) zx zb dX6_countWrongShows_29 (by decide) ?_
        exact ih4 ((S 12 0 - (i + 1)).toNat) (by omega) (i + 1) (a + 1) rfl (by omega) (by rw [hR, lpF_s2 zq12]; unfold cnQ; first | (rw [b0 zq20]; rfl) | (rw [b1 zq20]; rfl)) _ _ hH ls (lv_sub hl [2, 1, 0] rfl)
  obtain ⟨H, hHe⟩ : ∃ H : Heap, H = s.heap := ⟨_, rfl⟩
  rw [show (Hp g S s s.heap []) = Hp g S s H [] by rw [hHe]] at hH
  rw [← hHe]
  refine bi_const (n := 0) zx zb dX6_countWrongShows_0 ?_
  refine lv_istore_n (lv' := [(1, .int (iI 0)), (0, .ref (g.1 0))]) zx zb dX6_countWrongShows_1 rfl hl (by decide) rfl (fun ls hl => ?_)
  refine bi_const (n := 0) zx zb dX6_countWrongShows_2 ?_
  refine lv_istore_n (lv' := [(2, .int (iI 0)), (1, .int (iI 0)), (0, .ref (g.1 0))]) zx zb dX6_countWrongShows_3 rfl hl (by decide) rfl (fun ls hl => ?_)
  exact L4 _ 0 0 rfl (by omega) (by unfold wrI; rw [Int.sub_zero]) _ _ hH ls (lv_sub hl [2, 1, 0] rfl)
