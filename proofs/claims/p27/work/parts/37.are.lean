section KF
variable {nn mm : Int}
theorem k_X6_stars (l : Launch) (g : gT) (S : gSt) (F : Fr S nn mm) : MetG l g yX6_stars cX6_stars 1 (some .int) 0 0 [.ref (g.1 0)] S (some (.int (iI nn))) S := by
  have h9 := c_X6_stars l g S  
  rw [F.ns] at h9
  exact h9
theorem k_X6_figures (l : Launch) (g : gT) (S : gSt) (F : Fr S nn mm) : MetG l g yX6_figures cX6_figures 1 (some .int) 0 0 [.ref (g.1 0)] S (some (.int (iI mm))) S := by
  have h9 := c_X6_figures l g S  
  rw [F.nf] at h9
  exact h9
theorem k_X6_lines (l : Launch) (g : gT) (S : gSt) (f : Int) (F : Fr S nn mm) (hfo : 0 ≤ f ∧ f < mm) : MetG l g yX6_lines cX6_lines 2 (some .int) 1 21 [.ref (g.1 0), .int (iI f)] S (some (.int (iI 0))) S := by
  have h9 := c_X6_lines l g S f F.hnf (by rw [F.nf]; exact hfo)
  rw [F.li f] at h9
  exact h9
theorem k_X6_figureOf (l : Launch) (g : gT) (S : gSt) (z : Int) (F : Fr S nn mm) (hzo : 0 ≤ z ∧ z < nn) : MetG l g yX6_figureOf cX6_figureOf 2 (some .int) 3 67 [.ref (g.1 0), .int (iI z)] S (some (.int (iI (-1)))) S := by
  have h9 := c_X6_figureOf l g S z F.hn1 (by rw [F.ns]; exact hzo) F.hnf F.hN (F.hE _) (F.hE _)
  rw [F.ow z] at h9
  exact h9
theorem k_X6_nameOf (l : Launch) (g : gT) (S : gSt) (f : Int) (F : Fr S nn mm) (hfo : 0 ≤ f ∧ f < mm) : MetG l g yX6_nameOf cX6_nameOf 2 (some .int) 1 21 [.ref (g.1 0), .int (iI f)] S (some (.int (iI (-1)))) S := by
  have h9 := c_X6_nameOf l g S f F.hnf (by rw [F.nf]; exact hfo)
  rw [F.nm hfo.1 hfo.2] at h9
  exact h9
theorem k_X6_votes (l : Launch) (g : gT) (S : gSt) (f n : Int) (F : Fr S nn mm) (hfo : 0 ≤ f ∧ f < mm) (hn : 0 ≤ n ∧ n < 10) : MetG l g yX6_votes cX6_votes 3 (some .int) 1 21 [.ref (g.1 0), .int (iI f), .int (iI n)] S (some (.int (iI 0))) S := by
  have h9 := c_X6_votes l g S f n F.hnf (by rw [F.nf]; exact hfo) hn
  rw [F.vo] at h9
  exact h9
theorem k_X6_isUp (l : Launch) (g : gT) (S : gSt) (f lat d h : Int) (F : Fr S nn mm) (hfo : 0 ≤ f ∧ f < mm) (hlat : -90 ≤ lat ∧ lat ≤ 90) (hd : 0 ≤ d ∧ d < 365) (hh : 0 ≤ h ∧ h < 24) : MetG l g yX6_isUp cX6_isUp 5 (some .boolean) 6 143 [.ref (g.1 0), .int (iI f), .int (iI lat), .int (iI d), .int (iI h)] S (some (.int (iI 0))) S := by
  have h9 := c_X6_isUp l g S f lat d h F.hnf (by rw [F.nf]; exact hfo) hlat hd hh F.hN (F.hE _) (F.hE _) F.hC
  rw [F.iu] at h9
  exact h9
theorem k_X6_hours (l : Launch) (g : gT) (S : gSt) (f lat d : Int) (F : Fr S nn mm) (hfo : 0 ≤ f ∧ f < mm) (hlat : -90 ≤ lat ∧ lat ≤ 90) (hd : 0 ≤ d ∧ d < 365) : MetG l g yX6_hours cX6_hours 6 (some .int) 6 143 [.ref (g.1 0), .int (iI f), .int (iI lat), .int (iI d)] S (some (.int (iI 0))) S := by
  have h9 := c_X6_hours l g S f lat d F.hnf (by rw [F.nf]; exact hfo) hlat hd F.hN (F.hE _) (F.hE _) F.hC
  rw [F.hr f lat d] at h9
  exact h9
theorem k_X6_hoursByStars (l : Launch) (g : gT) (S : gSt) (f lat d : Int) (F : Fr S nn mm) (hfo : 0 ≤ f ∧ f < mm) (hlat : -90 ≤ lat ∧ lat ≤ 90) (hd : 0 ≤ d ∧ d < 365) : MetG l g yX6_hoursByStars cX6_hoursByStars 8 (some .int) 5 118 [.ref (g.1 0), .int (iI f), .int (iI lat), .int (iI d)] S (some (.int (iI 0))) S := by
  have h9 := c_X6_hoursByStars l g S f lat d F.hnf (by rw [F.nf]; exact hfo) hlat hd F.hN (F.hE _) (F.hE _) F.hC
  rw [F.hb f lat d] at h9
  exact h9
theorem k_X6_bestHour (l : Launch) (g : gT) (S : gSt) (f lat d : Int) (F : Fr S nn mm) (hfo : 0 ≤ f ∧ f < mm) (hlat : -90 ≤ lat ∧ lat ≤ 90) (hd : 0 ≤ d ∧ d < 365) : MetG l g yX6_bestHour cX6_bestHour 8 (some .int) 5 120 [.ref (g.1 0), .int (iI f), .int (iI lat), .int (iI d)] S (some (.int (iI (-1)))) S := by
  have h9 := c_X6_bestHour l g S f lat d F.hnf (by rw [F.nf]; exact hfo) hlat hd F.hN (F.hE _) (F.hE _) F.hC
  rw [F.bh f lat d] at h9
  exact h9
theorem k_X6_crossings (l : Launch) (g : gT) (S : gSt) (f q : Int) (F : Fr S nn mm) (hfo : 0 ≤ f ∧ f < mm) (hqo : 0 ≤ q ∧ q < mm) : MetG l g yX6_crossings cX6_crossings 7 (some .int) 5 119 [.ref (g.1 0), .int (iI f), .int (iI q)] S (some (.int (iI 0))) S := by
  have h9 := c_X6_crossings l g S f q F.hnf (by rw [F.nf]; exact hfo) (by rw [F.nf]; exact hqo) F.hN (F.hE _) (F.hE _) F.hC
  rw [F.cr f q] at h9
  exact h9
theorem k_X6_wrong (l : Launch) (g : gT) (S : gSt) (F : Fr S nn mm) : MetG l g yX6_wrong cX6_wrong 1 (some .int) 7 164 [.ref (g.1 0)] S (some (.int (iI 0))) S := by
  have h9 := c_X6_wrong l g S  F.hN (F.hE _) (F.hE _) F.hC F.hG F.hP F.hsc
  rw [F.wr] at h9
  exact h9
end KF
set_option maxRecDepth 100000 in
set_option maxHeartbeats 4000000 in
theorem c_L_areNames (l : Launch) (g : gT) (S : gSt) (nn mm : Int) (F : Fr S nn mm) : MetG l g yL_areNames cL_areNames 8 (some .boolean) 2 43 [.ref (g.1 0)] S (some (.int (iI 1))) S := by
  refine bodyG (by decide +kernel) (Nat.le_of_ble_eq_true rfl) ?_
  intro p e s m args below meth c ls C0 hret hlk hl hH
  have zx := C0.1
  have zb := C0.2.1
  have hl : lv_has ls 8 [(0, .ref (g.1 0))] := hl
  have L81 : ∀ (μ : Nat) (f : Int), (mm - f).toNat = μ → (0 ≤ f ∧ f ≤ mm) → ∀ (H : Heap) (locs : List Loc), Hp g S s H locs → ∀ ls : Array Slot, lv_has ls 8 [(0, .ref (g.1 0)), (1, .int (iI 0)), (2, .int (iI 1)), (3, .int (iI f))] → W p l e { frames := 2, cells := 0, slots := 0, locals := 43 } s m args below meth c H locs 0 0 (MQ below (RetG g (some (.int (iI 1))) S) args s 0 0 (oA g)) (F0 m 81 ls []) := by
    refine lpN (fun μ81 ih81 => ?_)
    intro f hμ81 hf H locs hH ls hl
    have L106 : ∀ (μ : Nat) (j : Int), (10 - j).toNat = μ → (0 ≤ j ∧ j ≤ 10) → (0 ≤ f ∧ f < mm) → ∀ (H : Heap) (locs : List Loc), Hp g S s H locs → ∀ ls : Array Slot, lv_has ls 8 [(0, .ref (g.1 0)), (1, .int (iI 0)), (2, .int (iI 1)), (3, .int (iI f)), (4, .int (iI (-1))), (5, .int (iI 0)), (6, .int (iI j))] → W p l e { frames := 2, cells := 0, slots := 0, locals := 43 } s m args below meth c H locs 0 0 (MQ below (RetG g (some (.int (iI 1))) S) args s 0 0 (oA g)) (F0 m 106 ls []) := by
      refine lpN (fun μ106 ih106 => ?_)
      intro j hμ106 hj hf2 H locs hH ls hl
      have hnf := F.hnf
      have hnf2 := F.nf
      have hns := F.hn1
      have hns2 := F.ns
      refine lv_iload zx zb dL_areNames_106 (lv_at hl 6 rfl) ?_
      refine bi_bip (n := 10) zx zb dL_areNames_108 (by decide) ?_
      refine bq_ge (tgt := 194) zx zb dL_areNames_110 (by decide) ⟨by omega, by omega⟩ ⟨by omega, by omega⟩ (fun zq110 => ?_) (fun zq110 => ?_)
      · refine lv_iload_n zx zb dL_areNames_194 rfl (lv_at hl 2 rfl) ?_
        refine bz_eq (tgt := 209) zx zb dL_areNames_195 (by decide) ⟨by omega, by omega⟩ (fun zq195 => ?_) (fun zq195 => ?_)
        · exact absurd zq195 (by decide)
        · refine lv_iload zx zb dL_areNames_198 (lv_at hl 5 rfl) ?_
          refine bi_bip (n := 6) zx zb dL_areNames_200 (by decide) ?_
          refine bq_gt (tgt := 209) zx zb dL_areNames_202 (by decide) ⟨by omega, by omega⟩ ⟨by omega, by omega⟩ (fun zq202 => ?_) (fun zq202 => ?_)
          · exact absurd zq202 (by decide)
          · refine bi_const (n := 1) zx zb dL_areNames_205 ?_
            refine lv_goto (tgt := 210) zx zb dL_areNames_206 (by decide) ?_
            refine lv_istore_n (lv' := [(2, .int (iI 1)), (0, .ref (g.1 0)), (1, .int (iI 0)), (3, .int (iI f)), (4, .int (iI (-1))), (5, .int (iI 0)), (6, .int (iI j))]) zx zb dL_areNames_210 rfl hl (by decide) rfl (fun ls hl => ?_)
            refine bi_inc (k0 := 3) (n := 1) (lv' := [(3, .int (iI (f + 1))), (2, .int (iI 1)), (0, .ref (g.1 0)), (1, .int (iI 0)), (4, .int (iI (-1))), (5, .int (iI 0)), (6, .int (iI j))]) zx zb dL_areNames_211 hl rfl (by decide) rfl (fun ls hl => ?_)
            refine lv_goto (tgt := 81) zx zb dL_areNames_214 (by decide) ?_
            exact ih81 ((mm - (f + 1)).toNat) (by omega) (f + 1) rfl (by omega) _ _ hH ls (lv_sub hl [2, 3, 1, 0] rfl)
      · refine lv_iload zx zb dL_areNames_113 (lv_at hl 5 rfl) ?_
        refine lv_aload_n zx zb dL_areNames_115 rfl (lv_at hl 0 rfl) ?_
        refine lv_iload_n zx zb dL_areNames_116 rfl (lv_at hl 3 rfl) ?_
        refine lv_iload zx zb dL_areNames_117 (lv_at hl 6 rfl) ?_
        refine cvI (rest := [.int (iI 0)]) (As := [.int (iI f), .int (iI j)]) (b := g.1 0) C0 hH (k_X6_votes l g S f j (F) (by omega) (by omega)) kw_L_56 ky_X6_votes ⟨Nat.le_of_ble_eq_true rfl, Nat.le_of_ble_eq_true rfl⟩ ⟨Nat.zero_le _, Nat.zero_le _⟩ 0 rfl rfl rfl hl.1 rfl (Nat.le_of_ble_eq_true rfl) dL_areNames_119 (fun H locs hH => ?_)
        refine bi_add zx zb dL_areNames_122 ?_
        rw [show (0 : Int) + 0 = 0 from rfl]
        refine lv_istore (lv' := [(5, .int (iI 0)), (0, .ref (g.1 0)), (1, .int (iI 0)), (2, .int (iI 1)), (3, .int (iI f)), (4, .int (iI (-1))), (6, .int (iI j))]) zx zb dL_areNames_123 hl (by decide) rfl (fun ls hl => ?_)
        refine lv_iload_n zx zb dL_areNames_125 rfl (lv_at hl 2 rfl) ?_
        refine lv_iload zx zb dL_areNames_126 (lv_at hl 6 rfl) ?_
        refine bi_shr (a := 0) zx zb dL_areNames_128 (by omega) (by omega) (by omega) ?_
        refine bi_const (n := 1) zx zb dL_areNames_129 ?_
        refine bi_and (a := 0 / 2 ^ j.toNat) (b := 1) zx zb dL_areNames_130 ?_
        rw [show (((0 / 2 ^ j.toNat) &&& 1 : Nat) : Int) = 0 by rw [Nat.zero_div]; rfl]
        refine bz_ne (tgt := 138) zx zb dL_areNames_131 (by decide) ⟨by omega, by omega⟩ (fun zq131 => ?_) (fun zq131 => ?_)
        · exact absurd zq131 (by decide)
        · refine bi_const (n := 1) zx zb dL_areNames_134 ?_
          refine lv_goto (tgt := 139) zx zb dL_areNames_135 (by decide) ?_
          refine lv_istore (lv' := [(7, .int (iI 1)), (5, .int (iI 0)), (0, .ref (g.1 0)), (1, .int (iI 0)), (2, .int (iI 1)), (3, .int (iI f)), (4, .int (iI (-1))), (6, .int (iI j))]) zx zb dL_areNames_139 hl (by decide) rfl (fun ls hl => ?_)
          refine lv_iload_n zx zb dL_areNames_141 rfl (lv_at hl 4 rfl) ?_
          refine bz_eq (tgt := 186) zx zb dL_areNames_142 (by decide) ⟨by omega, by omega⟩ (fun zq142 => ?_) (fun zq142 => ?_)
          · exact absurd zq142 (by decide)
          · refine lv_iload zx zb dL_areNames_145 (lv_at hl 0 rfl) ?_
            refine bz_eq (tgt := 182) zx zb dL_areNames_147 (by decide) ⟨by omega, by omega⟩ (fun zq147 => ?_) (fun zq147 => ?_)
            · exact absurd zq147 (by decide)
            · refine lv_aload_n zx zb dL_areNames_150 rfl (lv_at hl 2 rfl) ?_
              refine lv_iload_n zx zb dL_areNames_151 rfl (lv_at hl 5 rfl) ?_
              refine lv_iload zx zb dL_areNames_152 (lv_at hl 7 rfl) ?_
              refine cvI (rest := []) (As := [.int (iI f), .int (iI j)]) (b := g.1 0) C0 hH (k_X6_votes l g S f j (F) (by omega) (by omega)) kw_L_56 ky_X6_votes ⟨Nat.le_of_ble_eq_true rfl, Nat.le_of_ble_eq_true rfl⟩ ⟨Nat.zero_le _, Nat.zero_le _⟩ 0 rfl rfl rfl hl.1 rfl (Nat.le_of_ble_eq_true rfl) dL_areNames_154 (fun H locs hH => ?_)
              refine bz_eq (tgt := 182) zx zb dL_areNames_157 (by decide) ⟨by omega, by omega⟩ (fun zq157 => ?_) (fun zq157 => ?_)
              · refine bi_const (n := 1) zx zb dL_areNames_182 ?_
                refine lv_goto (tgt := 187) zx zb dL_areNames_183 (by decide) ?_
                refine lv_istore_n (lv' := [(2, .int (iI 1)), (7, .int (iI 1)), (5, .int (iI 0)), (0, .ref (g.1 0)), (1, .int (iI 0)), (3, .int (iI f)), (4, .int (iI (-1))), (6, .int (iI j))]) zx zb dL_areNames_187 rfl hl (by decide) rfl (fun ls hl => ?_)
                refine bi_inc (k0 := 7) (n := 1) (lv' := [(6, .int (iI (j + 1))), (2, .int (iI 1)), (7, .int (iI 1)), (5, .int (iI 0)), (0, .ref (g.1 0)), (1, .int (iI 0)), (3, .int (iI f)), (4, .int (iI (-1)))]) zx zb dL_areNames_188 hl rfl (by decide) rfl (fun ls hl => ?_)
                refine lv_goto (tgt := 106) zx zb dL_areNames_191 (by decide) ?_
                exact ih106 ((10 - (j + 1)).toNat) (by omega) (j + 1) rfl (by omega) (by omega) _ _ hH ls (lv_sub hl [4, 5, 1, 6, 7, 3, 0] rfl)
              · exact absurd zq157 (by decide)
    have hnf := F.hnf
    have hnf2 := F.nf
    have hns := F.hn1
    have hns2 := F.ns
    refine lv_iload_n zx zb dL_areNames_81 rfl (lv_at hl 3 rfl) ?_
    refine lv_aload_n zx zb dL_areNames_82 rfl (lv_at hl 0 rfl) ?_
    refine cvI (rest := [.int (iI f)]) (As := []) (b := g.1 0) C0 hH (k_X6_figures l g S (F)) kw_L_41 ky_X6_figures ⟨Nat.le_of_ble_eq_true rfl, Nat.le_of_ble_eq_true rfl⟩ ⟨Nat.zero_le _, Nat.zero_le _⟩ 0 rfl rfl rfl hl.1 rfl (Nat.le_of_ble_eq_true rfl) dL_areNames_83 (fun H locs hH => ?_)
    refine bq_ge (tgt := 217) zx zb dL_areNames_86 (by decide) ⟨by omega, by omega⟩ ⟨by omega, by omega⟩ (fun zq86 => ?_) (fun zq86 => ?_)
    · refine lv_iload_n zx zb dL_areNames_217 rfl (lv_at hl 2 rfl) ?_
      exact retZ C0 hret hlk hH (by rfl) (by omega) (rfl) dL_areNames_218
    · refine lv_iload_n zx zb dL_areNames_89 rfl (lv_at hl 2 rfl) ?_
      refine bz_eq (tgt := 217) zx zb dL_areNames_90 (by decide) ⟨by omega, by omega⟩ (fun zq90 => ?_) (fun zq90 => ?_)
      · exact absurd zq90 (by decide)
      · refine lv_aload_n zx zb dL_areNames_93 rfl (lv_at hl 0 rfl) ?_
        refine lv_iload_n zx zb dL_areNames_94 rfl (lv_at hl 3 rfl) ?_
        refine cvI (rest := []) (As := [.int (iI f)]) (b := g.1 0) C0 hH (k_X6_nameOf l g S f (F) (by omega)) kw_L_53 ky_X6_nameOf ⟨Nat.le_of_ble_eq_true rfl, Nat.le_of_ble_eq_true rfl⟩ ⟨Nat.zero_le _, Nat.zero_le _⟩ 0 rfl rfl rfl hl.1 rfl (Nat.le_of_ble_eq_true rfl) dL_areNames_95 (fun H locs hH => ?_)
        refine lv_istore (lv' := [(4, .int (iI (-1))), (0, .ref (g.1 0)), (1, .int (iI 0)), (2, .int (iI 1)), (3, .int (iI f))]) zx zb dL_areNames_98 hl (by decide) rfl (fun ls hl => ?_)
        refine bi_const (n := 0) zx zb dL_areNames_100 ?_
        refine lv_istore (lv' := [(5, .int (iI 0)), (4, .int (iI (-1))), (0, .ref (g.1 0)), (1, .int (iI 0)), (2, .int (iI 1)), (3, .int (iI f))]) zx zb dL_areNames_101 hl (by decide) rfl (fun ls hl => ?_)
        refine bi_const (n := 0) zx zb dL_areNames_103 ?_
        refine lv_istore (lv' := [(6, .int (iI 0)), (5, .int (iI 0)), (4, .int (iI (-1))), (0, .ref (g.1 0)), (1, .int (iI 0)), (2, .int (iI 1)), (3, .int (iI f))]) zx zb dL_areNames_104 hl (by decide) rfl (fun ls hl => ?_)
        exact L106 _ 0 rfl (by omega) (by omega) _ _ hH ls (lv_sub hl [3, 4, 5, 6, 2, 1, 0] rfl)
  have L6 : ∀ (μ : Nat) (f : Int), (mm - f).toNat = μ → (0 ≤ f ∧ f ≤ mm) → ∀ (H : Heap) (locs : List Loc), Hp g S s H locs → ∀ ls : Array Slot, lv_has ls 8 [(0, .ref (g.1 0)), (1, .int (iI 0)), (2, .int (iI 1)), (3, .int (iI f))] → W p l e { frames := 2, cells := 0, slots := 0, locals := 43 } s m args below meth c H locs 0 0 (MQ below (RetG g (some (.int (iI 1))) S) args s 0 0 (oA g)) (F0 m 6 ls []) := by
    refine lpN (fun μ6 ih6 => ?_)
    intro f hμ6 hf H locs hH ls hl
    have hnf := F.hnf
    have hnf2 := F.nf
    have hns := F.hn1
    have hns2 := F.ns
    refine lv_iload_n zx zb dL_areNames_6 rfl (lv_at hl 3 rfl) ?_
    refine lv_aload_n zx zb dL_areNames_7 rfl (lv_at hl 0 rfl) ?_
    refine cvI (rest := [.int (iI f)]) (As := []) (b := g.1 0) C0 hH (k_X6_figures l g S (F)) kw_L_41 ky_X6_figures ⟨Nat.le_of_ble_eq_true rfl, Nat.le_of_ble_eq_true rfl⟩ ⟨Nat.zero_le _, Nat.zero_le _⟩ 0 rfl rfl rfl hl.1 rfl (Nat.le_of_ble_eq_true rfl) dL_areNames_8 (fun H locs hH => ?_)
    refine bq_ge (tgt := 79) zx zb dL_areNames_11 (by decide) ⟨by omega, by omega⟩ ⟨by omega, by omega⟩ (fun zq11 => ?_) (fun zq11 => ?_)
    · refine bi_const (n := 0) zx zb dL_areNames_79 ?_
      refine lv_istore_n (lv' := [(3, .int (iI 0)), (0, .ref (g.1 0)), (1, .int (iI 0)), (2, .int (iI 1))]) zx zb dL_areNames_80 rfl hl (by decide) rfl (fun ls hl => ?_)
      exact L81 _ 0 rfl (by omega) _ _ hH ls (lv_sub hl [1, 2, 3, 0] rfl)
    · refine lv_iload_n zx zb dL_areNames_14 rfl (lv_at hl 2 rfl) ?_
      refine bz_eq (tgt := 79) zx zb dL_areNames_15 (by decide) ⟨by omega, by omega⟩ (fun zq15 => ?_) (fun zq15 => ?_)
      · exact absurd zq15 (by decide)
      · refine lv_aload_n zx zb dL_areNames_18 rfl (lv_at hl 0 rfl) ?_
        refine lv_iload_n zx zb dL_areNames_19 rfl (lv_at hl 3 rfl) ?_
        refine cvI (rest := []) (As := [.int (iI f)]) (b := g.1 0) C0 hH (k_X6_nameOf l g S f (F) (by omega)) kw_L_53 ky_X6_nameOf ⟨Nat.le_of_ble_eq_true rfl, Nat.le_of_ble_eq_true rfl⟩ ⟨Nat.zero_le _, Nat.zero_le _⟩ 0 rfl rfl rfl hl.1 rfl (Nat.le_of_ble_eq_true rfl) dL_areNames_20 (fun H locs hH => ?_)
        refine lv_istore (lv' := [(4, .int (iI (-1))), (0, .ref (g.1 0)), (1, .int (iI 0)), (2, .int (iI 1)), (3, .int (iI f))]) zx zb dL_areNames_23 hl (by decide) rfl (fun ls hl => ?_)
        refine lv_iload zx zb dL_areNames_25 (lv_at hl 0 rfl) ?_
        refine bi_const (n := (-1)) zx zb dL_areNames_27 ?_
        refine bq_eq (tgt := 50) zx zb dL_areNames_28 (by decide) ⟨by omega, by omega⟩ ⟨by omega, by omega⟩ (fun zq28 => ?_) (fun zq28 => ?_)
        · refine bi_const (n := 1) zx zb dL_areNames_50 ?_
          refine lv_goto (tgt := 55) zx zb dL_areNames_51 (by decide) ?_
          refine lv_istore_n (lv' := [(2, .int (iI 1)), (4, .int (iI (-1))), (0, .ref (g.1 0)), (1, .int (iI 0)), (3, .int (iI f))]) zx zb dL_areNames_55 rfl hl (by decide) rfl (fun ls hl => ?_)
          refine lv_iload_n zx zb dL_areNames_56 rfl (lv_at hl 3 rfl) ?_
          refine lv_iload zx zb dL_areNames_57 (lv_at hl 1 rfl) ?_
          refine bi_const (n := (-1)) zx zb dL_areNames_59 ?_
          refine bq_ne (tgt := 67) zx zb dL_areNames_60 (by decide) ⟨by omega, by omega⟩ ⟨by omega, by omega⟩ (fun zq60 => ?_) (fun zq60 => ?_)
          · exact absurd zq60 (by decide)
          · refine bi_const (n := 0) zx zb dL_areNames_63 ?_
            refine lv_goto (tgt := 71) zx zb dL_areNames_64 (by decide) ?_
            refine bi_or (a := 0) (b := 0) zx zb dL_areNames_71 ?_
            rw [show ((0 ||| 0 : Nat) : Int) = 0 from rfl]
            refine lv_istore_n (lv' := [(1, .int (iI 0)), (2, .int (iI 1)), (4, .int (iI (-1))), (0, .ref (g.1 0)), (3, .int (iI f))]) zx zb dL_areNames_72 rfl hl (by decide) rfl (fun ls hl => ?_)
            refine bi_inc (k0 := 4) (n := 1) (lv' := [(3, .int (iI (f + 1))), (1, .int (iI 0)), (2, .int (iI 1)), (4, .int (iI (-1))), (0, .ref (g.1 0))]) zx zb dL_areNames_73 hl rfl (by decide) rfl (fun ls hl => ?_)
            refine lv_goto (tgt := 6) zx zb dL_areNames_76 (by decide) ?_
            exact ih6 ((mm - (f + 1)).toNat) (by omega) (f + 1) rfl (by omega) _ _ hH ls (lv_sub hl [4, 1, 2, 0] rfl)
        · exact absurd zq28 (by decide)
  obtain ⟨H, hHe⟩ : ∃ H : Heap, H = s.heap := ⟨_, rfl⟩
  rw [show (Hp g S s s.heap []) = Hp g S s H [] by rw [hHe]] at hH
  rw [← hHe]
  have hnf := F.hnf
  have hnf2 := F.nf
  have hns := F.hn1
  have hns2 := F.ns
  refine bi_const (n := 0) zx zb dL_areNames_0 ?_
  refine lv_istore_n (lv' := [(1, .int (iI 0)), (0, .ref (g.1 0))]) zx zb dL_areNames_1 rfl hl (by decide) rfl (fun ls hl => ?_)
  refine bi_const (n := 1) zx zb dL_areNames_2 ?_
  refine lv_istore_n (lv' := [(2, .int (iI 1)), (1, .int (iI 0)), (0, .ref (g.1 0))]) zx zb dL_areNames_3 rfl hl (by decide) rfl (fun ls hl => ?_)
  refine bi_const (n := 0) zx zb dL_areNames_4 ?_
  refine lv_istore_n (lv' := [(3, .int (iI 0)), (2, .int (iI 1)), (1, .int (iI 0)), (0, .ref (g.1 0))]) zx zb dL_areNames_5 rfl hl (by decide) rfl (fun ls hl => ?_)
  exact L6 _ 0 rfl (by omega) _ _ hH ls (lv_sub hl [3, 2, 1, 0] rfl)
set_option maxRecDepth 100000 in
set_option maxHeartbeats 4000000 in
theorem c_L_areHours (l : Launch) (g : gT) (S : gSt) (nn mm : Int) (f lat d h : Int) (F : Fr S nn mm) (hfo : 0 ≤ f ∧ f < mm) (hlat : -90 ≤ lat ∧ lat ≤ 90) (hd : 0 ≤ d ∧ d < 365) (hh : 0 ≤ h ∧ h < 24) : MetG l g yL_areHours cL_areHours 13 (some .boolean) 7 168 [.ref (g.1 0), .int (iI f), .int (iI lat), .int (iI d), .int (iI h)] S (some (.int (iI 1))) S := by
  refine bodyG (by decide +kernel) (Nat.le_of_ble_eq_true rfl) ?_
  intro p e s m args below meth c ls C0 hret hlk hl hH
  have zx := C0.1
  have zb := C0.2.1
  have hl : lv_has ls 13 [(0, .ref (g.1 0)), (1, .int (iI f)), (2, .int (iI lat)), (3, .int (iI d)), (4, .int (iI h))] := hl
  have L118 : ∀ (μ : Nat) (z : Int), (nn - z).toNat = μ → (0 ≤ z ∧ z ≤ nn) → ∀ (H : Heap) (locs : List Loc), Hp g S s H locs → ∀ ls : Array Slot, lv_has ls 13 [(0, .ref (g.1 0)), (1, .int (iI f)), (2, .int (iI lat)), (3, .int (iI d)), (4, .int (iI h)), (5, .int (iI 0)), (6, .int (iI (-1))), (7, .int (iI 1)), (8, .int (iI 5000)), (9, .int (iI 5000)), (10, .int (iI z))] → W p l e { frames := 7, cells := 0, slots := 0, locals := 168 } s m args below meth c H locs 0 0 (MQ below (RetG g (some (.int (iI 1))) S) args s 0 0 (oA g)) (F0 m 118 ls []) := by
    refine lpN (fun μ118 ih118 => ?_)
    intro z hμ118 hz H locs hH ls hl
    have hnf := F.hnf
    have hnf2 := F.nf
    have hns := F.hn1
    have hns2 := F.ns
    refine lv_iload zx zb dL_areHours_118 (lv_at hl 10 rfl) ?_
    refine lv_aload_n zx zb dL_areHours_120 rfl (lv_at hl 0 rfl) ?_
    refine cvI (rest := [.int (iI z)]) (As := []) (b := g.1 0) C0 hH (k_X6_stars l g S (F)) kw_L_27 ky_X6_stars ⟨Nat.le_of_ble_eq_true rfl, Nat.le_of_ble_eq_true rfl⟩ ⟨Nat.zero_le _, Nat.zero_le _⟩ 0 rfl rfl rfl hl.1 rfl (Nat.le_of_ble_eq_true rfl) dL_areHours_121 (fun H locs hH => ?_)
    refine bq_ge (tgt := 210) zx zb dL_areHours_124 (by decide) ⟨by omega, by omega⟩ ⟨by omega, by omega⟩ (fun zq124 => ?_) (fun zq124 => ?_)
    · refine lv_iload zx zb dL_areHours_210 (lv_at hl 7 rfl) ?_
      refine bz_eq (tgt := 288) zx zb dL_areHours_212 (by decide) ⟨by omega, by omega⟩ (fun zq212 => ?_) (fun zq212 => ?_)
      · exact absurd zq212 (by decide)
      · refine lv_aload_n zx zb dL_areHours_215 rfl (lv_at hl 0 rfl) ?_
        refine lv_iload_n zx zb dL_areHours_216 rfl (lv_at hl 1 rfl) ?_
        refine cvI (rest := []) (As := [.int (iI f)]) (b := g.1 0) C0 hH (k_X6_lines l g S f (F) (by omega)) kw_L_44 ky_X6_lines ⟨Nat.le_of_ble_eq_true rfl, Nat.le_of_ble_eq_true rfl⟩ ⟨Nat.zero_le _, Nat.zero_le _⟩ 0 rfl rfl rfl hl.1 rfl (Nat.le_of_ble_eq_true rfl) dL_areHours_217 (fun H locs hH => ?_)
        refine bz_le (tgt := 227) zx zb dL_areHours_220 (by decide) ⟨by omega, by omega⟩ (fun zq220 => ?_) (fun zq220 => ?_)
        · refine bi_const (n := 0) zx zb dL_areHours_227 ?_
          refine lv_iload zx zb dL_areHours_228 (lv_at hl 8 rfl) ?_
          refine bi_sip (n := 5000) zx zb dL_areHours_230 (by decide) ?_
          refine bq_ge (tgt := 240) zx zb dL_areHours_233 (by decide) ⟨by omega, by omega⟩ ⟨by omega, by omega⟩ (fun zq233 => ?_) (fun zq233 => ?_)
          · refine bi_const (n := 0) zx zb dL_areHours_240 ?_
            refine bq_ne (tgt := 288) zx zb dL_areHours_241 (by decide) ⟨by omega, by omega⟩ ⟨by omega, by omega⟩ (fun zq241 => ?_) (fun zq241 => ?_)
            · exact absurd zq241 (by decide)
            · refine lv_iload zx zb dL_areHours_244 (lv_at hl 5 rfl) ?_
              refine lv_iload zx zb dL_areHours_246 (lv_at hl 4 rfl) ?_
              refine bi_shr (a := 0) zx zb dL_areHours_248 (by omega) (by omega) (by omega) ?_
              refine bi_const (n := 1) zx zb dL_areHours_249 ?_
              refine bi_and (a := 0 / 2 ^ h.toNat) (b := 1) zx zb dL_areHours_250 ?_
              rw [show (((0 / 2 ^ h.toNat) &&& 1 : Nat) : Int) = 0 by rw [Nat.zero_div]; rfl]
              refine lv_iload zx zb dL_areHours_251 (lv_at hl 8 rfl) ?_
              refine bz_le (tgt := 268) zx zb dL_areHours_253 (by decide) ⟨by omega, by omega⟩ (fun zq253 => ?_) (fun zq253 => ?_)
              · exact absurd zq253 (by decide)
              · refine lv_iload zx zb dL_areHours_256 (lv_at hl 8 rfl) ?_
                refine bi_sip (n := 5000) zx zb dL_areHours_258 (by decide) ?_
                refine bq_ge (tgt := 268) zx zb dL_areHours_261 (by decide) ⟨by omega, by omega⟩ ⟨by omega, by omega⟩ (fun zq261 => ?_) (fun zq261 => ?_)
                · refine bi_const (n := 0) zx zb dL_areHours_268 ?_
                  refine bq_ne (tgt := 288) zx zb dL_areHours_269 (by decide) ⟨by omega, by omega⟩ ⟨by omega, by omega⟩ (fun zq269 => ?_) (fun zq269 => ?_)
                  · exact absurd zq269 (by decide)
                  · refine lv_iload zx zb dL_areHours_272 (lv_at hl 6 rfl) ?_
                    refine bz_lt (tgt := 284) zx zb dL_areHours_274 (by decide) ⟨by omega, by omega⟩ (fun zq274 => ?_) (fun zq274 => ?_)
                    · refine bi_const (n := 1) zx zb dL_areHours_284 ?_
                      refine lv_goto (tgt := 289) zx zb dL_areHours_285 (by decide) ?_
                      exact retZ C0 hret hlk hH (by rfl) (by omega) (rfl) dL_areHours_289
                    · exact absurd zq274 (by decide)
                · exact absurd zq261 (by decide)
          · exact absurd zq233 (by decide)
        · exact absurd zq220 (by decide)
    · refine lv_aload_n zx zb dL_areHours_127 rfl (lv_at hl 0 rfl) ?_
      refine lv_iload zx zb dL_areHours_128 (lv_at hl 10 rfl) ?_
      refine cvI (rest := []) (As := [.int (iI z)]) (b := g.1 0) C0 hH (k_X6_figureOf l g S z (F) (by omega)) kw_L_38 ky_X6_figureOf ⟨Nat.le_of_ble_eq_true rfl, Nat.le_of_ble_eq_true rfl⟩ ⟨Nat.zero_le _, Nat.zero_le _⟩ 0 rfl rfl rfl hl.1 rfl (Nat.le_of_ble_eq_true rfl) dL_areHours_130 (fun H locs hH => ?_)
      refine lv_iload_n zx zb dL_areHours_133 rfl (lv_at hl 1 rfl) ?_
      refine bq_ne (tgt := 204) zx zb dL_areHours_134 (by decide) ⟨by omega, by omega⟩ ⟨by omega, by omega⟩ (fun zq134 => ?_) (fun zq134 => ?_)
      · refine bi_inc (k0 := 10) (n := 1) (lv' := [(10, .int (iI (z + 1))), (0, .ref (g.1 0)), (1, .int (iI f)), (2, .int (iI lat)), (3, .int (iI d)), (4, .int (iI h)), (5, .int (iI 0)), (6, .int (iI (-1))), (7, .int (iI 1)), (8, .int (iI 5000)), (9, .int (iI 5000))]) zx zb dL_areHours_204 hl rfl (by decide) rfl (fun ls hl => ?_)
        refine lv_goto (tgt := 118) zx zb dL_areHours_207 (by decide) ?_
        exact ih118 ((nn - (z + 1)).toNat) (by omega) (z + 1) rfl (by omega) _ _ hH ls (lv_sub hl [1, 2, 3, 4, 5, 6, 7, 8, 9, 10, 0] rfl)
      · exact absurd zq134 (by omega)
  obtain ⟨H, hHe⟩ : ∃ H : Heap, H = s.heap := ⟨_, rfl⟩
  rw [show (Hp g S s s.heap []) = Hp g S s H [] by rw [hHe]] at hH
  rw [← hHe]
  have hnf := F.hnf
  have hnf2 := F.nf
  have hns := F.hn1
  have hns2 := F.ns
  refine lv_aload_n zx zb dL_areHours_0 rfl (lv_at hl 0 rfl) ?_
  refine lv_iload_n zx zb dL_areHours_1 rfl (lv_at hl 1 rfl) ?_
  refine lv_iload_n zx zb dL_areHours_2 rfl (lv_at hl 2 rfl) ?_
  refine lv_iload_n zx zb dL_areHours_3 rfl (lv_at hl 3 rfl) ?_
  refine cvI (rest := []) (As := [.int (iI f), .int (iI lat), .int (iI d)]) (b := g.1 0) C0 hH (k_X6_hours l g S f lat d (F) (by omega) (by omega) (by omega)) kw_L_59 ky_X6_hours ⟨Nat.le_of_ble_eq_true rfl, Nat.le_of_ble_eq_true rfl⟩ ⟨Nat.zero_le _, Nat.zero_le _⟩ 0 rfl rfl rfl hl.1 rfl (Nat.le_of_ble_eq_true rfl) dL_areHours_4 (fun H locs hH => ?_)
  refine lv_istore (lv' := [(5, .int (iI 0)), (0, .ref (g.1 0)), (1, .int (iI f)), (2, .int (iI lat)), (3, .int (iI d)), (4, .int (iI h))]) zx zb dL_areHours_7 hl (by decide) rfl (fun ls hl => ?_)
  refine lv_aload_n zx zb dL_areHours_9 rfl (lv_at hl 1 rfl) ?_
  refine lv_iload_n zx zb dL_areHours_10 rfl (lv_at hl 2 rfl) ?_
  refine lv_iload_n zx zb dL_areHours_11 rfl (lv_at hl 3 rfl) ?_
  refine lv_iload_n zx zb dL_areHours_12 rfl (lv_at hl 4 rfl) ?_
  refine cvI (rest := []) (As := [.int (iI f), .int (iI lat), .int (iI d)]) (b := g.1 0) C0 hH (k_X6_bestHour l g S f lat d (F) (by omega) (by omega) (by omega)) kw_L_62 ky_X6_bestHour ⟨Nat.le_of_ble_eq_true rfl, Nat.le_of_ble_eq_true rfl⟩ ⟨Nat.zero_le _, Nat.zero_le _⟩ 0 rfl rfl rfl hl.1 rfl (Nat.le_of_ble_eq_true rfl) dL_areHours_13 (fun H locs hH => ?_)
  refine lv_istore (lv' := [(6, .int (iI (-1))), (5, .int (iI 0)), (0, .ref (g.1 0)), (1, .int (iI f)), (2, .int (iI lat)), (3, .int (iI d)), (4, .int (iI h))]) zx zb dL_areHours_16 hl (by decide) rfl (fun ls hl => ?_)
  refine lv_iload zx zb dL_areHours_18 (lv_at hl 1 rfl) ?_
  refine lv_aload_n zx zb dL_areHours_20 rfl (lv_at hl 2 rfl) ?_
  refine lv_iload_n zx zb dL_areHours_21 rfl (lv_at hl 3 rfl) ?_
  refine lv_iload_n zx zb dL_areHours_22 rfl (lv_at hl 4 rfl) ?_
  refine lv_iload_n zx zb dL_areHours_23 rfl (lv_at hl 5 rfl) ?_
  refine cvI (rest := [.int (iI 0)]) (As := [.int (iI f), .int (iI lat), .int (iI d)]) (b := g.1 0) C0 hH (k_X6_hoursByStars l g S f lat d (F) (by omega) (by omega) (by omega)) kw_L_65 ky_X6_hoursByStars ⟨Nat.le_of_ble_eq_true rfl, Nat.le_of_ble_eq_true rfl⟩ ⟨Nat.zero_le _, Nat.zero_le _⟩ 0 rfl rfl rfl hl.1 rfl (Nat.le_of_ble_eq_true rfl) dL_areHours_24 (fun H locs hH => ?_)
  refine bq_ne (tgt := 102) zx zb dL_areHours_27 (by decide) ⟨by omega, by omega⟩ ⟨by omega, by omega⟩ (fun zq27 => ?_) (fun zq27 => ?_)
  · exact absurd zq27 (by decide)
  · refine lv_iload zx zb dL_areHours_30 (lv_at hl 0 rfl) ?_
    refine bi_const (n := (-1)) zx zb dL_areHours_32 ?_
    refine bq_ne (tgt := 40) zx zb dL_areHours_33 (by decide) ⟨by omega, by omega⟩ ⟨by omega, by omega⟩ (fun zq33 => ?_) (fun zq33 => ?_)
    · exact absurd zq33 (by decide)
    · refine bi_const (n := 1) zx zb dL_areHours_36 ?_
      refine lv_goto (tgt := 41) zx zb dL_areHours_37 (by decide) ?_
      refine lv_iload zx zb dL_areHours_41 (lv_at hl 1 rfl) ?_
      refine bz_ne (tgt := 50) zx zb dL_areHours_43 (by decide) ⟨by omega, by omega⟩ (fun zq43 => ?_) (fun zq43 => ?_)
      · exact absurd zq43 (by decide)
      · refine bi_const (n := 1) zx zb dL_areHours_46 ?_
        refine lv_goto (tgt := 51) zx zb dL_areHours_47 (by decide) ?_
        refine bq_ne (tgt := 102) zx zb dL_areHours_51 (by decide) ⟨by omega, by omega⟩ ⟨by omega, by omega⟩ (fun zq51 => ?_) (fun zq51 => ?_)
        · exact absurd zq51 (by decide)
        · refine lv_iload zx zb dL_areHours_54 (lv_at hl 0 rfl) ?_
          refine bz_lt (tgt := 70) zx zb dL_areHours_56 (by decide) ⟨by omega, by omega⟩ (fun zq56 => ?_) (fun zq56 => ?_)
          · refine lv_aload_n zx zb dL_areHours_70 rfl (lv_at hl 2 rfl) ?_
            refine lv_iload_n zx zb dL_areHours_71 rfl (lv_at hl 3 rfl) ?_
            refine lv_iload_n zx zb dL_areHours_72 rfl (lv_at hl 4 rfl) ?_
            refine lv_iload_n zx zb dL_areHours_73 rfl (lv_at hl 5 rfl) ?_
            refine lv_iload zx zb dL_areHours_74 (lv_at hl 6 rfl) ?_
            refine cvI (rest := []) (As := [.int (iI f), .int (iI lat), .int (iI d), .int (iI h)]) (b := g.1 0) C0 hH (k_X6_isUp l g S f lat d h (F) (by omega) (by omega) (by omega) (by omega)) kw_L_68 ky_X6_isUp ⟨Nat.le_of_ble_eq_true rfl, Nat.le_of_ble_eq_true rfl⟩ ⟨Nat.zero_le _, Nat.zero_le _⟩ 0 rfl rfl rfl hl.1 rfl (Nat.le_of_ble_eq_true rfl) dL_areHours_76 (fun H locs hH => ?_)
            refine lv_iload zx zb dL_areHours_79 (lv_at hl 1 rfl) ?_
            refine lv_iload zx zb dL_areHours_81 (lv_at hl 6 rfl) ?_
            refine bi_shr (a := 0) zx zb dL_areHours_83 (by omega) (by omega) (by omega) ?_
            refine bi_const (n := 1) zx zb dL_areHours_84 ?_
            refine bi_and (a := 0 / 2 ^ h.toNat) (b := 1) zx zb dL_areHours_85 ?_
            rw [show (((0 / 2 ^ h.toNat) &&& 1 : Nat) : Int) = 0 by rw [Nat.zero_div]; rfl]
            refine bi_const (n := 1) zx zb dL_areHours_86 ?_
            refine bq_ne (tgt := 94) zx zb dL_areHours_87 (by decide) ⟨by omega, by omega⟩ ⟨by omega, by omega⟩ (fun zq87 => ?_) (fun zq87 => ?_)
            · refine bi_const (n := 0) zx zb dL_areHours_94 ?_
              refine bq_ne (tgt := 102) zx zb dL_areHours_95 (by decide) ⟨by omega, by omega⟩ ⟨by omega, by omega⟩ (fun zq95 => ?_) (fun zq95 => ?_)
              · exact absurd zq95 (by decide)
              · refine bi_const (n := 1) zx zb dL_areHours_98 ?_
                refine lv_goto (tgt := 103) zx zb dL_areHours_99 (by decide) ?_
                refine lv_istore (lv' := [(7, .int (iI 1)), (6, .int (iI (-1))), (5, .int (iI 0)), (0, .ref (g.1 0)), (1, .int (iI f)), (2, .int (iI lat)), (3, .int (iI d)), (4, .int (iI h))]) zx zb dL_areHours_103 hl (by decide) rfl (fun ls hl => ?_)
                refine bi_sip (n := 5000) zx zb dL_areHours_105 (by decide) ?_
                refine lv_istore (lv' := [(8, .int (iI 5000)), (7, .int (iI 1)), (6, .int (iI (-1))), (5, .int (iI 0)), (0, .ref (g.1 0)), (1, .int (iI f)), (2, .int (iI lat)), (3, .int (iI d)), (4, .int (iI h))]) zx zb dL_areHours_108 hl (by decide) rfl (fun ls hl => ?_)
                refine bi_sip (n := 5000) zx zb dL_areHours_110 (by decide) ?_
                refine lv_istore (lv' := [(9, .int (iI 5000)), (8, .int (iI 5000)), (7, .int (iI 1)), (6, .int (iI (-1))), (5, .int (iI 0)), (0, .ref (g.1 0)), (1, .int (iI f)), (2, .int (iI lat)), (3, .int (iI d)), (4, .int (iI h))]) zx zb dL_areHours_113 hl (by decide) rfl (fun ls hl => ?_)
                refine bi_const (n := 0) zx zb dL_areHours_115 ?_
                refine lv_istore (lv' := [(10, .int (iI 0)), (9, .int (iI 5000)), (8, .int (iI 5000)), (7, .int (iI 1)), (6, .int (iI (-1))), (5, .int (iI 0)), (0, .ref (g.1 0)), (1, .int (iI f)), (2, .int (iI lat)), (3, .int (iI d)), (4, .int (iI h))]) zx zb dL_areHours_116 hl (by decide) rfl (fun ls hl => ?_)
                exact L118 _ 0 rfl (by omega) _ _ hH ls (lv_sub hl [6, 7, 8, 9, 10, 5, 4, 3, 2, 1, 0] rfl)
            · exact absurd zq87 (by decide)
          · exact absurd zq56 (by decide)
