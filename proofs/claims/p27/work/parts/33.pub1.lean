set_option maxRecDepth 100000 in
set_option maxHeartbeats 4000000 in
theorem c_X6_linesCross (l : Launch) (g : gT) (S : gSt) (p1 p2 : Int) (hp : 0 ≤ p1 ∧ p1 < 80) (hq : 0 ≤ p2 ∧ p2 < 80) (he1 : 0 ≤ S 6 p1 ∧ S 6 p1 < 24) (ho1 : 0 ≤ S 7 p1 ∧ S 7 p1 < 24) (he2 : 0 ≤ S 6 p2 ∧ S 6 p2 < 24) (ho2 : 0 ≤ S 7 p2 ∧ S 7 p2 < 24) (hC : okC (S 2) (S 3)) : MetG l g yX6_linesCross cX6_linesCross 8 (some .boolean) 4 92 [.ref (g.1 0), .int (iI p1), .int (iI p2)] S (some (.int (iI (if lcB (S 2) (S 3) (S 6) (S 7) p1 p2 = true then 1 else 0)))) S := by
  refine bodyG (by decide +kernel) (Nat.le_of_ble_eq_true rfl) ?_
  intro p e s m args below meth c ls C0 hret hlk hl hH
  have zx := C0.1
  have zb := C0.2.1
  have hl : lv_has ls 8 [(0, .ref (g.1 0)), (1, .int (iI p1)), (2, .int (iI p2))] := hl
  obtain ⟨H, hHe⟩ : ∃ H : Heap, H = s.heap := ⟨_, rfl⟩
  rw [show (Hp g S s s.heap []) = Hp g S s H [] by rw [hHe]] at hH
  rw [← hHe]
  refine lv_aload_n zx zb dX6_linesCross_0 rfl (lv_at hl 0 rfl) ?_
  refine gf_X6_19 C0 hH dX6_linesCross_1 ?_
  refine gf_X6_131 C0 hH dX6_linesCross_4 ?_
  refine lv_iload_n zx zb dX6_linesCross_7 rfl (lv_at hl 1 rfl) ?_
  refine al_6 C0 hH (by omega) (by omega) dX6_linesCross_8 ?_
  refine lv_istore_n (lv' := [(3, .int (iI (S 6 p1))), (0, .ref (g.1 0)), (1, .int (iI p1)), (2, .int (iI p2))]) zx zb dX6_linesCross_9 rfl hl (by decide) rfl (fun ls hl => ?_)
  refine lv_aload_n zx zb dX6_linesCross_10 rfl (lv_at hl 1 rfl) ?_
  refine gf_X6_19 C0 hH dX6_linesCross_11 ?_
  refine gf_X6_134 C0 hH dX6_linesCross_14 ?_
  refine lv_iload_n zx zb dX6_linesCross_17 rfl (lv_at hl 2 rfl) ?_
  refine al_7 C0 hH (by omega) (by omega) dX6_linesCross_18 ?_
  refine lv_istore (lv' := [(4, .int (iI (S 7 p1))), (3, .int (iI (S 6 p1))), (0, .ref (g.1 0)), (1, .int (iI p1)), (2, .int (iI p2))]) zx zb dX6_linesCross_19 hl (by decide) rfl (fun ls hl => ?_)
  refine lv_aload_n zx zb dX6_linesCross_21 rfl (lv_at hl 2 rfl) ?_
  refine gf_X6_19 C0 hH dX6_linesCross_22 ?_
  refine gf_X6_131 C0 hH dX6_linesCross_25 ?_
  refine lv_iload_n zx zb dX6_linesCross_28 rfl (lv_at hl 4 rfl) ?_
  refine al_6 C0 hH (by omega) (by omega) dX6_linesCross_29 ?_
  refine lv_istore (lv' := [(5, .int (iI (S 6 p2))), (4, .int (iI (S 7 p1))), (3, .int (iI (S 6 p1))), (0, .ref (g.1 0)), (1, .int (iI p1)), (2, .int (iI p2))]) zx zb dX6_linesCross_30 hl (by decide) rfl (fun ls hl => ?_)
  refine lv_aload_n zx zb dX6_linesCross_32 rfl (lv_at hl 3 rfl) ?_
  refine gf_X6_19 C0 hH dX6_linesCross_33 ?_
  refine gf_X6_134 C0 hH dX6_linesCross_36 ?_
  refine lv_iload_n zx zb dX6_linesCross_39 rfl (lv_at hl 5 rfl) ?_
  refine al_7 C0 hH (by omega) (by omega) dX6_linesCross_40 ?_
  refine lv_istore (lv' := [(6, .int (iI (S 7 p2))), (5, .int (iI (S 6 p2))), (4, .int (iI (S 7 p1))), (3, .int (iI (S 6 p1))), (0, .ref (g.1 0)), (1, .int (iI p1)), (2, .int (iI p2))]) zx zb dX6_linesCross_41 hl (by decide) rfl (fun ls hl => ?_)
  refine lv_iload_n zx zb dX6_linesCross_43 rfl (lv_at hl 3 rfl) ?_
  refine lv_iload zx zb dX6_linesCross_44 (lv_at hl 1 rfl) ?_
  refine bq_eq (tgt := 69) zx zb dX6_linesCross_46 (by decide) ⟨by omega, by omega⟩ ⟨by omega, by omega⟩ (fun zq46 => ?_) (fun zq46 => ?_)
  · refine bi_const (n := 1) zx zb dX6_linesCross_69 ?_
    refine lv_goto (tgt := 74) zx zb dX6_linesCross_70 (by decide) ?_
    refine lv_istore (lv' := [(7, .int (iI 1)), (6, .int (iI (S 7 p2))), (5, .int (iI (S 6 p2))), (4, .int (iI (S 7 p1))), (3, .int (iI (S 6 p1))), (0, .ref (g.1 0)), (1, .int (iI p1)), (2, .int (iI p2))]) zx zb dX6_linesCross_74 hl (by decide) rfl (fun ls hl => ?_)
    refine lv_iload zx zb dX6_linesCross_76 (lv_at hl 0 rfl) ?_
    refine bz_ne (tgt := 102) zx zb dX6_linesCross_78 (by decide) ⟨by omega, by omega⟩ (fun zq78 => ?_) (fun zq78 => ?_)
    · refine bi_const (n := 0) zx zb dX6_linesCross_102 ?_
      exact retZ C0 hret hlk hH (by unfold lcB; first | (rw [decide_eq_true zq46]; rfl) | (rw [decide_eq_false zq46, decide_eq_true zq52]; rfl) | (rw [decide_eq_false zq46, decide_eq_false zq52, decide_eq_true zq59]; rfl) | (rw [decide_eq_false zq46, decide_eq_false zq52, decide_eq_false zq59, decide_eq_true zq66]; rfl) | (rw [decide_eq_false zq46, decide_eq_false zq52, decide_eq_false zq59, decide_eq_false zq66, b0 zq95]; rfl) | (rw [decide_eq_false zq46, decide_eq_false zq52, decide_eq_false zq59, decide_eq_false zq66, b1 zq95]; rfl)) (by omega) (rfl) dX6_linesCross_103
    · exact absurd zq78 (by decide)
  · refine lv_iload_n zx zb dX6_linesCross_49 rfl (lv_at hl 3 rfl) ?_
    refine lv_iload zx zb dX6_linesCross_50 (lv_at hl 0 rfl) ?_
    refine bq_eq (tgt := 69) zx zb dX6_linesCross_52 (by decide) ⟨by omega, by omega⟩ ⟨by omega, by omega⟩ (fun zq52 => ?_) (fun zq52 => ?_)
    · refine bi_const (n := 1) zx zb dX6_linesCross_69 ?_
      refine lv_goto (tgt := 74) zx zb dX6_linesCross_70 (by decide) ?_
      refine lv_istore (lv' := [(7, .int (iI 1)), (6, .int (iI (S 7 p2))), (5, .int (iI (S 6 p2))), (4, .int (iI (S 7 p1))), (3, .int (iI (S 6 p1))), (0, .ref (g.1 0)), (1, .int (iI p1)), (2, .int (iI p2))]) zx zb dX6_linesCross_74 hl (by decide) rfl (fun ls hl => ?_)
      refine lv_iload zx zb dX6_linesCross_76 (lv_at hl 0 rfl) ?_
      refine bz_ne (tgt := 102) zx zb dX6_linesCross_78 (by decide) ⟨by omega, by omega⟩ (fun zq78 => ?_) (fun zq78 => ?_)
      · refine bi_const (n := 0) zx zb dX6_linesCross_102 ?_
        exact retZ C0 hret hlk hH (by unfold lcB; first | (rw [decide_eq_true zq46]; rfl) | (rw [decide_eq_false zq46, decide_eq_true zq52]; rfl) | (rw [decide_eq_false zq46, decide_eq_false zq52, decide_eq_true zq59]; rfl) | (rw [decide_eq_false zq46, decide_eq_false zq52, decide_eq_false zq59, decide_eq_true zq66]; rfl) | (rw [decide_eq_false zq46, decide_eq_false zq52, decide_eq_false zq59, decide_eq_false zq66, b0 zq95]; rfl) | (rw [decide_eq_false zq46, decide_eq_false zq52, decide_eq_false zq59, decide_eq_false zq66, b1 zq95]; rfl)) (by omega) (rfl) dX6_linesCross_103
      · exact absurd zq78 (by decide)
    · refine lv_iload zx zb dX6_linesCross_55 (lv_at hl 2 rfl) ?_
      refine lv_iload zx zb dX6_linesCross_57 (lv_at hl 1 rfl) ?_
      refine bq_eq (tgt := 69) zx zb dX6_linesCross_59 (by decide) ⟨by omega, by omega⟩ ⟨by omega, by omega⟩ (fun zq59 => ?_) (fun zq59 => ?_)
      · refine bi_const (n := 1) zx zb dX6_linesCross_69 ?_
        refine lv_goto (tgt := 74) zx zb dX6_linesCross_70 (by decide) ?_
        refine lv_istore (lv' := [(7, .int (iI 1)), (6, .int (iI (S 7 p2))), (5, .int (iI (S 6 p2))), (4, .int (iI (S 7 p1))), (3, .int (iI (S 6 p1))), (0, .ref (g.1 0)), (1, .int (iI p1)), (2, .int (iI p2))]) zx zb dX6_linesCross_74 hl (by decide) rfl (fun ls hl => ?_)
        refine lv_iload zx zb dX6_linesCross_76 (lv_at hl 0 rfl) ?_
        refine bz_ne (tgt := 102) zx zb dX6_linesCross_78 (by decide) ⟨by omega, by omega⟩ (fun zq78 => ?_) (fun zq78 => ?_)
        · refine bi_const (n := 0) zx zb dX6_linesCross_102 ?_
          exact retZ C0 hret hlk hH (by unfold lcB; first | (rw [decide_eq_true zq46]; rfl) | (rw [decide_eq_false zq46, decide_eq_true zq52]; rfl) | (rw [decide_eq_false zq46, decide_eq_false zq52, decide_eq_true zq59]; rfl) | (rw [decide_eq_false zq46, decide_eq_false zq52, decide_eq_false zq59, decide_eq_true zq66]; rfl) | (rw [decide_eq_false zq46, decide_eq_false zq52, decide_eq_false zq59, decide_eq_false zq66, b0 zq95]; rfl) | (rw [decide_eq_false zq46, decide_eq_false zq52, decide_eq_false zq59, decide_eq_false zq66, b1 zq95]; rfl)) (by omega) (rfl) dX6_linesCross_103
        · exact absurd zq78 (by decide)
      · refine lv_iload zx zb dX6_linesCross_62 (lv_at hl 2 rfl) ?_
        refine lv_iload zx zb dX6_linesCross_64 (lv_at hl 0 rfl) ?_
        refine bq_ne (tgt := 73) zx zb dX6_linesCross_66 (by decide) ⟨by omega, by omega⟩ ⟨by omega, by omega⟩ (fun zq66 => ?_) (fun zq66 => ?_)
        · refine bi_const (n := 0) zx zb dX6_linesCross_73 ?_
          refine lv_istore (lv' := [(7, .int (iI 0)), (6, .int (iI (S 7 p2))), (5, .int (iI (S 6 p2))), (4, .int (iI (S 7 p1))), (3, .int (iI (S 6 p1))), (0, .ref (g.1 0)), (1, .int (iI p1)), (2, .int (iI p2))]) zx zb dX6_linesCross_74 hl (by decide) rfl (fun ls hl => ?_)
          refine lv_iload zx zb dX6_linesCross_76 (lv_at hl 0 rfl) ?_
          refine bz_ne (tgt := 102) zx zb dX6_linesCross_78 (by decide) ⟨by omega, by omega⟩ (fun zq78 => ?_) (fun zq78 => ?_)
          · exact absurd zq78 (by decide)
          · refine lv_aload_n zx zb dX6_linesCross_81 rfl (lv_at hl 5 rfl) ?_
            refine gf_X6_12 C0 hH dX6_linesCross_82 ?_
            refine lv_iload_n zx zb dX6_linesCross_85 rfl (lv_at hl 4 rfl) ?_
            refine lv_iload zx zb dX6_linesCross_86 (lv_at hl 3 rfl) ?_
            refine lv_iload zx zb dX6_linesCross_88 (lv_at hl 2 rfl) ?_
            refine lv_iload zx zb dX6_linesCross_90 (lv_at hl 1 rfl) ?_
            refine cvI (rest := []) (As := [.int (iI (S 6 p1)), .int (iI (S 7 p1)), .int (iI (S 6 p2)), .int (iI (S 7 p2))]) (b := g.1 1) C0 hH (c_X2_meet l g S (S 6 p1) (S 7 p1) (S 6 p2) (S 7 p2) (by omega) (by omega) (by omega) (by omega) (hC)) kw_X6_250 ky_X2_meet ⟨Nat.le_of_ble_eq_true rfl, Nat.le_of_ble_eq_true rfl⟩ ⟨Nat.zero_le _, Nat.zero_le _⟩ 1 rfl rfl rfl hl.1 rfl (Nat.le_of_ble_eq_true rfl) dX6_linesCross_92 (fun H locs hH => ?_)
            have hb95 := brg (meB (S 2) (S 3) (S 6 p1) (S 7 p1) (S 6 p2) (S 7 p2))
            refine bz_eq (tgt := 102) zx zb dX6_linesCross_95 (by decide) ⟨by omega, by omega⟩ (fun zq95 => ?_) (fun zq95 => ?_)
            · refine bi_const (n := 0) zx zb dX6_linesCross_102 ?_
              exact retZ C0 hret hlk hH (by unfold lcB; first | (rw [decide_eq_true zq46]; rfl) | (rw [decide_eq_false zq46, decide_eq_true zq52]; rfl) | (rw [decide_eq_false zq46, decide_eq_false zq52, decide_eq_true zq59]; rfl) | (rw [decide_eq_false zq46, decide_eq_false zq52, decide_eq_false zq59, decide_eq_true zq66]; rfl) | (rw [decide_eq_false zq46, decide_eq_false zq52, decide_eq_false zq59, decide_eq_false zq66, b0 zq95]; rfl) | (rw [decide_eq_false zq46, decide_eq_false zq52, decide_eq_false zq59, decide_eq_false zq66, b1 zq95]; rfl)) (by omega) (rfl) dX6_linesCross_103
            · refine bi_const (n := 1) zx zb dX6_linesCross_98 ?_
              refine lv_goto (tgt := 103) zx zb dX6_linesCross_99 (by decide) ?_
              exact retZ C0 hret hlk hH (by unfold lcB; first | (rw [decide_eq_true zq46]; rfl) | (rw [decide_eq_false zq46, decide_eq_true zq52]; rfl) | (rw [decide_eq_false zq46, decide_eq_false zq52, decide_eq_true zq59]; rfl) | (rw [decide_eq_false zq46, decide_eq_false zq52, decide_eq_false zq59, decide_eq_true zq66]; rfl) | (rw [decide_eq_false zq46, decide_eq_false zq52, decide_eq_false zq59, decide_eq_false zq66, b0 zq95]; rfl) | (rw [decide_eq_false zq46, decide_eq_false zq52, decide_eq_false zq59, decide_eq_false zq66, b1 zq95]; rfl)) (by omega) (rfl) dX6_linesCross_103
        · refine bi_const (n := 1) zx zb dX6_linesCross_69 ?_
          refine lv_goto (tgt := 74) zx zb dX6_linesCross_70 (by decide) ?_
          refine lv_istore (lv' := [(7, .int (iI 1)), (6, .int (iI (S 7 p2))), (5, .int (iI (S 6 p2))), (4, .int (iI (S 7 p1))), (3, .int (iI (S 6 p1))), (0, .ref (g.1 0)), (1, .int (iI p1)), (2, .int (iI p2))]) zx zb dX6_linesCross_74 hl (by decide) rfl (fun ls hl => ?_)
          refine lv_iload zx zb dX6_linesCross_76 (lv_at hl 0 rfl) ?_
          refine bz_ne (tgt := 102) zx zb dX6_linesCross_78 (by decide) ⟨by omega, by omega⟩ (fun zq78 => ?_) (fun zq78 => ?_)
          · refine bi_const (n := 0) zx zb dX6_linesCross_102 ?_
            exact retZ C0 hret hlk hH (by unfold lcB; first | (rw [decide_eq_true zq46]; rfl) | (rw [decide_eq_false zq46, decide_eq_true zq52]; rfl) | (rw [decide_eq_false zq46, decide_eq_false zq52, decide_eq_true zq59]; rfl) | (rw [decide_eq_false zq46, decide_eq_false zq52, decide_eq_false zq59, decide_eq_true zq66]; rfl) | (rw [decide_eq_false zq46, decide_eq_false zq52, decide_eq_false zq59, decide_eq_false zq66, b0 zq95]; rfl) | (rw [decide_eq_false zq46, decide_eq_false zq52, decide_eq_false zq59, decide_eq_false zq66, b1 zq95]; rfl)) (by omega) (rfl) dX6_linesCross_103
          · exact absurd zq78 (by decide)
set_option maxRecDepth 100000 in
set_option maxHeartbeats 4000000 in
theorem c_X6_stars (l : Launch) (g : gT) (S : gSt)  : MetG l g yX6_stars cX6_stars 1 (some .int) 0 0 [.ref (g.1 0)] S (some (.int (iI (S 1 0)))) S := by
  refine bodyG (by decide +kernel) (Nat.le_of_ble_eq_true rfl) ?_
  intro p e s m args below meth c ls C0 hret hlk hl hH
  have zx := C0.1
  have zb := C0.2.1
  have hl : lv_has ls 1 [(0, .ref (g.1 0))] := hl
  obtain ⟨H, hHe⟩ : ∃ H : Heap, H = s.heap := ⟨_, rfl⟩
  rw [show (Hp g S s s.heap []) = Hp g S s H [] by rw [hHe]] at hH
  rw [← hHe]
  refine lv_aload_n zx zb dX6_stars_0 rfl (lv_at hl 0 rfl) ?_
  refine gf_X6_12 C0 hH dX6_stars_1 ?_
  refine gf_X6_48 C0 hH dX6_stars_4 ?_
  exact retI C0 hret hlk hH (by rfl) (rfl) dX6_stars_7
set_option maxRecDepth 100000 in
set_option maxHeartbeats 4000000 in
theorem c_X6_figures (l : Launch) (g : gT) (S : gSt)  : MetG l g yX6_figures cX6_figures 1 (some .int) 0 0 [.ref (g.1 0)] S (some (.int (iI (S 4 0)))) S := by
  refine bodyG (by decide +kernel) (Nat.le_of_ble_eq_true rfl) ?_
  intro p e s m args below meth c ls C0 hret hlk hl hH
  have zx := C0.1
  have zb := C0.2.1
  have hl : lv_has ls 1 [(0, .ref (g.1 0))] := hl
  obtain ⟨H, hHe⟩ : ∃ H : Heap, H = s.heap := ⟨_, rfl⟩
  rw [show (Hp g S s s.heap []) = Hp g S s H [] by rw [hHe]] at hH
  rw [← hHe]
  refine lv_aload_n zx zb dX6_figures_0 rfl (lv_at hl 0 rfl) ?_
  refine gf_X6_19 C0 hH dX6_figures_1 ?_
  refine gf_X6_86 C0 hH dX6_figures_4 ?_
  exact retI C0 hret hlk hH (by rfl) (rfl) dX6_figures_7
set_option maxRecDepth 100000 in
set_option maxHeartbeats 4000000 in
theorem c_X6_lines (l : Launch) (g : gT) (S : gSt) (f : Int) (hnf : 0 ≤ S 4 0 ∧ S 4 0 ≤ 8) (hfo : 0 ≤ f ∧ f < S 4 0) : MetG l g yX6_lines cX6_lines 2 (some .int) 1 21 [.ref (g.1 0), .int (iI f)] S (some (.int (iI (S 5 f)))) S := by
  refine bodyG (by decide +kernel) (Nat.le_of_ble_eq_true rfl) ?_
  intro p e s m args below meth c ls C0 hret hlk hl hH
  have zx := C0.1
  have zb := C0.2.1
  have hl : lv_has ls 2 [(0, .ref (g.1 0)), (1, .int (iI f))] := hl
  obtain ⟨H, hHe⟩ : ∃ H : Heap, H = s.heap := ⟨_, rfl⟩
  rw [show (Hp g S s s.heap []) = Hp g S s H [] by rw [hHe]] at hH
  rw [← hHe]
  refine lv_aload_n zx zb dX6_lines_0 rfl (lv_at hl 0 rfl) ?_
  refine lv_iload_n zx zb dX6_lines_1 rfl (lv_at hl 1 rfl) ?_
  refine cvN (rest := []) (As := [.int (iI f)]) (b := g.1 0) C0 hH (c_X6_needFigure l g S f (by omega) (by omega)) kw_X6_94 ky_X6_needFigure ⟨Nat.le_of_ble_eq_true rfl, Nat.le_of_ble_eq_true rfl⟩ ⟨Nat.zero_le _, Nat.zero_le _⟩ 0 rfl rfl rfl hl.1 rfl (Nat.le_of_ble_eq_true rfl) dX6_lines_2 (fun H locs hH => ?_)
  refine lv_aload_n zx zb dX6_lines_5 rfl (lv_at hl 0 rfl) ?_
  refine gf_X6_19 C0 hH dX6_lines_6 ?_
  refine gf_X6_102 C0 hH dX6_lines_9 ?_
  refine lv_iload_n zx zb dX6_lines_12 rfl (lv_at hl 1 rfl) ?_
  refine al_5 C0 hH (by omega) (by omega) dX6_lines_13 ?_
  exact retI C0 hret hlk hH (by rfl) (rfl) dX6_lines_14
set_option maxRecDepth 100000 in
set_option maxHeartbeats 4000000 in
theorem x1_X6_lines (l : Launch) (g : gT) (S : gSt) (f : Int) (hnf : 0 ≤ S 4 0 ∧ S 4 0 ≤ 8) (hr_f : -2147483648 ≤ f ∧ f < 2147483648) (hfb : ¬(0 ≤ f ∧ f < S 4 0)) (hfl : l.stackTraces = false) : ThrG l g yX6_lines cX6_lines 2 (some .int) 7 106 [.ref (g.1 0), .int (iI f)] S "java/lang/IndexOutOfBoundsException" S := by
  refine bodyX (by decide +kernel) (Nat.le_of_ble_eq_true rfl) ?_
  intro p e s m args below meth c ls C0 htab hlk hl hH
  have zx := C0.1
  have zb := C0.2.1
  have hl : lv_has ls 2 [(0, .ref (g.1 0)), (1, .int (iI f))] := hl
  obtain ⟨H, hHe⟩ : ∃ H : Heap, H = s.heap := ⟨_, rfl⟩
  rw [show (Hp g S s s.heap []) = Hp g S s H [] by rw [hHe]] at hH
  rw [← hHe]
  refine lv_aload_n zx zb dX6_lines_0 rfl (lv_at hl 0 rfl) ?_
  refine lv_iload_n zx zb dX6_lines_1 rfl (lv_at hl 1 rfl) ?_
  exact cvX (rest := []) (As := [.int (iI f)]) (b := g.1 0) C0 htab hlk hH (x_X6_needFigure l g S f (by omega) (by omega) (by omega) hfl) kw_X6_94 ky_X6_needFigure ⟨Nat.le_of_ble_eq_true rfl, Nat.le_of_ble_eq_true rfl⟩ ⟨Nat.le_of_ble_eq_true rfl, Nat.le_of_ble_eq_true rfl⟩ 0 rfl rfl rfl hl.1 rfl (Nat.le_of_ble_eq_true rfl) dX6_lines_2
set_option maxRecDepth 100000 in
set_option maxHeartbeats 4000000 in
theorem c_X6_placeOf (l : Launch) (g : gT) (S : gSt) (z : Int) (hn1 : 0 ≤ S 1 0 ∧ S 1 0 ≤ 24) (hzo : 0 ≤ z ∧ z < S 1 0) : MetG l g yX6_placeOf cX6_placeOf 2 (some .int) 1 21 [.ref (g.1 0), .int (iI z)] S (some (.int (iI (1000 * S 2 z + S 3 z + 90)))) S := by
  refine bodyG (by decide +kernel) (Nat.le_of_ble_eq_true rfl) ?_
  intro p e s m args below meth c ls C0 hret hlk hl hH
  have zx := C0.1
  have zb := C0.2.1
  have hl : lv_has ls 2 [(0, .ref (g.1 0)), (1, .int (iI z))] := hl
  obtain ⟨H, hHe⟩ : ∃ H : Heap, H = s.heap := ⟨_, rfl⟩
  rw [show (Hp g S s s.heap []) = Hp g S s H [] by rw [hHe]] at hH
  rw [← hHe]
  refine lv_aload_n zx zb dX6_placeOf_0 rfl (lv_at hl 0 rfl) ?_
  refine lv_iload_n zx zb dX6_placeOf_1 rfl (lv_at hl 1 rfl) ?_
  refine cvN (rest := []) (As := [.int (iI z)]) (b := g.1 0) C0 hH (c_X6_needStar l g S z (by omega) (by omega)) kw_X6_63 ky_X6_needStar ⟨Nat.le_of_ble_eq_true rfl, Nat.le_of_ble_eq_true rfl⟩ ⟨Nat.zero_le _, Nat.zero_le _⟩ 0 rfl rfl rfl hl.1 rfl (Nat.le_of_ble_eq_true rfl) dX6_placeOf_2 (fun H locs hH => ?_)
  refine bi_sip (n := 1000) zx zb dX6_placeOf_5 (by decide) ?_
  refine lv_aload_n zx zb dX6_placeOf_8 rfl (lv_at hl 0 rfl) ?_
  refine gf_X6_12 C0 hH dX6_placeOf_9 ?_
  refine gf_X6_67 C0 hH dX6_placeOf_12 ?_
  refine lv_iload_n zx zb dX6_placeOf_15 rfl (lv_at hl 1 rfl) ?_
  refine al_2 C0 hH (by omega) (by omega) dX6_placeOf_16 ?_
  refine bi_mul zx zb dX6_placeOf_17 ?_
  refine lv_aload_n zx zb dX6_placeOf_18 rfl (lv_at hl 0 rfl) ?_
  refine gf_X6_12 C0 hH dX6_placeOf_19 ?_
  refine gf_X6_71 C0 hH dX6_placeOf_22 ?_
  refine lv_iload_n zx zb dX6_placeOf_25 rfl (lv_at hl 1 rfl) ?_
  refine al_3 C0 hH (by omega) (by omega) dX6_placeOf_26 ?_
  refine bi_add zx zb dX6_placeOf_27 ?_
  refine bi_bip (n := 90) zx zb dX6_placeOf_28 (by decide) ?_
  refine bi_add zx zb dX6_placeOf_30 ?_
  exact retI C0 hret hlk hH (by rfl) (rfl) dX6_placeOf_31
set_option maxRecDepth 100000 in
set_option maxHeartbeats 4000000 in
theorem x1_X6_placeOf (l : Launch) (g : gT) (S : gSt) (z : Int) (hn1 : 0 ≤ S 1 0 ∧ S 1 0 ≤ 24) (hr_z : -2147483648 ≤ z ∧ z < 2147483648) (hzb : ¬(0 ≤ z ∧ z < S 1 0)) (hfl : l.stackTraces = false) : ThrG l g yX6_placeOf cX6_placeOf 2 (some .int) 7 106 [.ref (g.1 0), .int (iI z)] S "java/lang/IndexOutOfBoundsException" S := by
  refine bodyX (by decide +kernel) (Nat.le_of_ble_eq_true rfl) ?_
  intro p e s m args below meth c ls C0 htab hlk hl hH
  have zx := C0.1
  have zb := C0.2.1
  have hl : lv_has ls 2 [(0, .ref (g.1 0)), (1, .int (iI z))] := hl
  obtain ⟨H, hHe⟩ : ∃ H : Heap, H = s.heap := ⟨_, rfl⟩
  rw [show (Hp g S s s.heap []) = Hp g S s H [] by rw [hHe]] at hH
  rw [← hHe]
  refine lv_aload_n zx zb dX6_placeOf_0 rfl (lv_at hl 0 rfl) ?_
  refine lv_iload_n zx zb dX6_placeOf_1 rfl (lv_at hl 1 rfl) ?_
  exact cvX (rest := []) (As := [.int (iI z)]) (b := g.1 0) C0 htab hlk hH (x_X6_needStar l g S z (by omega) (by omega) (by omega) hfl) kw_X6_63 ky_X6_needStar ⟨Nat.le_of_ble_eq_true rfl, Nat.le_of_ble_eq_true rfl⟩ ⟨Nat.le_of_ble_eq_true rfl, Nat.le_of_ble_eq_true rfl⟩ 0 rfl rfl rfl hl.1 rfl (Nat.le_of_ble_eq_true rfl) dX6_placeOf_2
set_option maxRecDepth 100000 in
set_option maxHeartbeats 4000000 in
theorem c_X6_figureOf (l : Launch) (g : gT) (S : gSt) (z : Int) (hn1 : 0 ≤ S 1 0 ∧ S 1 0 ≤ 24) (hzo : 0 ≤ z ∧ z < S 1 0) (hnf : 0 ≤ S 4 0 ∧ S 4 0 ≤ 8) (hN : okN (S 5)) (hE : okE (S 5) (S 6)) (hO : okE (S 5) (S 7)) : MetG l g yX6_figureOf cX6_figureOf 2 (some .int) 3 67 [.ref (g.1 0), .int (iI z)] S (some (.int (iI (owI (S 4 0) (S 5) (S 6) (S 7) z)))) S := by
  refine bodyG (by decide +kernel) (Nat.le_of_ble_eq_true rfl) ?_
  intro p e s m args below meth c ls C0 hret hlk hl hH
  have zx := C0.1
  have zb := C0.2.1
  have hl : lv_has ls 2 [(0, .ref (g.1 0)), (1, .int (iI z))] := hl
  obtain ⟨H, hHe⟩ : ∃ H : Heap, H = s.heap := ⟨_, rfl⟩
  rw [show (Hp g S s s.heap []) = Hp g S s H [] by rw [hHe]] at hH
  rw [← hHe]
  refine lv_aload_n zx zb dX6_figureOf_0 rfl (lv_at hl 0 rfl) ?_
  refine lv_iload_n zx zb dX6_figureOf_1 rfl (lv_at hl 1 rfl) ?_
  refine cvN (rest := []) (As := [.int (iI z)]) (b := g.1 0) C0 hH (c_X6_needStar l g S z (by omega) (by omega)) kw_X6_63 ky_X6_needStar ⟨Nat.le_of_ble_eq_true rfl, Nat.le_of_ble_eq_true rfl⟩ ⟨Nat.zero_le _, Nat.zero_le _⟩ 0 rfl rfl rfl hl.1 rfl (Nat.le_of_ble_eq_true rfl) dX6_figureOf_2 (fun H locs hH => ?_)
  refine lv_aload_n zx zb dX6_figureOf_5 rfl (lv_at hl 0 rfl) ?_
  refine gf_X6_19 C0 hH dX6_figureOf_6 ?_
  refine lv_iload_n zx zb dX6_figureOf_9 rfl (lv_at hl 1 rfl) ?_
  refine cvI (rest := []) (As := [.int (iI z)]) (b := g.1 4) C0 hH (c_X5_ownerOf l g S z (by omega) (by omega) (hN) (hE) (hO)) kw_X6_154 ky_X5_ownerOf ⟨Nat.le_of_ble_eq_true rfl, Nat.le_of_ble_eq_true rfl⟩ ⟨Nat.zero_le _, Nat.zero_le _⟩ 4 rfl rfl rfl hl.1 rfl (Nat.le_of_ble_eq_true rfl) dX6_figureOf_10 (fun H locs hH => ?_)
  exact retI C0 hret hlk hH (by rfl) (rfl) dX6_figureOf_13
set_option maxRecDepth 100000 in
set_option maxHeartbeats 4000000 in
theorem x1_X6_figureOf (l : Launch) (g : gT) (S : gSt) (z : Int) (hn1 : 0 ≤ S 1 0 ∧ S 1 0 ≤ 24) (hr_z : -2147483648 ≤ z ∧ z < 2147483648) (hzb : ¬(0 ≤ z ∧ z < S 1 0)) (hfl : l.stackTraces = false) : ThrG l g yX6_figureOf cX6_figureOf 2 (some .int) 7 106 [.ref (g.1 0), .int (iI z)] S "java/lang/IndexOutOfBoundsException" S := by
  refine bodyX (by decide +kernel) (Nat.le_of_ble_eq_true rfl) ?_
  intro p e s m args below meth c ls C0 htab hlk hl hH
  have zx := C0.1
  have zb := C0.2.1
  have hl : lv_has ls 2 [(0, .ref (g.1 0)), (1, .int (iI z))] := hl
  obtain ⟨H, hHe⟩ : ∃ H : Heap, H = s.heap := ⟨_, rfl⟩
  rw [show (Hp g S s s.heap []) = Hp g S s H [] by rw [hHe]] at hH
  rw [← hHe]
  refine lv_aload_n zx zb dX6_figureOf_0 rfl (lv_at hl 0 rfl) ?_
  refine lv_iload_n zx zb dX6_figureOf_1 rfl (lv_at hl 1 rfl) ?_
  exact cvX (rest := []) (As := [.int (iI z)]) (b := g.1 0) C0 htab hlk hH (x_X6_needStar l g S z (by omega) (by omega) (by omega) hfl) kw_X6_63 ky_X6_needStar ⟨Nat.le_of_ble_eq_true rfl, Nat.le_of_ble_eq_true rfl⟩ ⟨Nat.le_of_ble_eq_true rfl, Nat.le_of_ble_eq_true rfl⟩ 0 rfl rfl rfl hl.1 rfl (Nat.le_of_ble_eq_true rfl) dX6_figureOf_2
set_option maxRecDepth 100000 in
set_option maxHeartbeats 4000000 in
theorem c_X6_crossings (l : Launch) (g : gT) (S : gSt) (f q : Int) (hnf : 0 ≤ S 4 0 ∧ S 4 0 ≤ 8) (hfo : 0 ≤ f ∧ f < S 4 0) (hqo : 0 ≤ q ∧ q < S 4 0) (hN : okN (S 5)) (hE : okE (S 5) (S 6)) (hO : okE (S 5) (S 7)) (hC : okC (S 2) (S 3)) : MetG l g yX6_crossings cX6_crossings 7 (some .int) 5 119 [.ref (g.1 0), .int (iI f), .int (iI q)] S (some (.int (iI (crI (S 5) (S 6) (S 7) (S 2) (S 3) f q)))) S := by
  refine bodyG (by decide +kernel) (Nat.le_of_ble_eq_true rfl) ?_
  intro p e s m args below meth c ls C0 hret hlk hl hH
  have zx := C0.1
  have zb := C0.2.1
  have hl : lv_has ls 7 [(0, .ref (g.1 0)), (1, .int (iI f)), (2, .int (iI q))] := hl
  have L15 : ∀ (μ : Nat) (i : Int) (a : Int), (S 5 f - i).toNat = μ → (0 ≤ i ∧ i ≤ S 5 f) → (crI (S 5) (S 6) (S 7) (S 2) (S 3) f q = lpF (crF (S 5 q) (S 2) (S 3) (S 6) (S 7) f q) (S 5 f - i).toNat i a) → ∀ (H : Heap) (locs : List Loc), Hp g S s H locs → ∀ ls : Array Slot, lv_has ls 7 [(0, .ref (g.1 0)), (1, .int (iI f)), (2, .int (iI q)), (3, .int (iI a)), (4, .int (iI i))] → W p l e { frames := 5, cells := 0, slots := 0, locals := 119 } s m args below meth c H locs 0 0 (MQ below (RetG g (some (.int (iI (crI (S 5) (S 6) (S 7) (S 2) (S 3) f q)))) S) args s 0 0 (oA g)) (F0 m 15 ls []) := by
    refine lpN (fun μ15 ih15 => ?_)
    intro i a hμ15 hi hR H locs hH ls hl
    have L48 : ∀ (μ : Nat) (b : Int) (j : Int), (S 5 q - j).toNat = μ → (i < S 5 f) → (0 ≤ j ∧ j ≤ 11) → (crI (S 5) (S 6) (S 7) (S 2) (S 3) f q = lpF (crF (S 5 q) (S 2) (S 3) (S 6) (S 7) f q) (S 5 f - (i + 1)).toNat (i + 1) (lpF (crN (S 2) (S 3) (S 6) (S 7) (10 * f + i) (10 * q)) (S 5 q - j).toNat j b)) → ∀ (H : Heap) (locs : List Loc), Hp g S s H locs → ∀ ls : Array Slot, lv_has ls 7 [(0, .ref (g.1 0)), (1, .int (iI f)), (2, .int (iI q)), (3, .int (iI b)), (4, .int (iI i)), (6, .int (iI j))] → W p l e { frames := 5, cells := 0, slots := 0, locals := 119 } s m args below meth c H locs 0 0 (MQ below (RetG g (some (.int (iI (crI (S 5) (S 6) (S 7) (S 2) (S 3) f q)))) S) args s 0 0 (oA g)) (F0 m 48 ls []) := by
      refine lpN (fun μ48 ih48 => ?_)
      intro b j hμ48 hi2 hj hS H locs hH ls hl
      have hn2 := hN q (by omega) (by omega)
      refine lv_iload zx zb dX6_crossings_48 (lv_at hl 5 rfl) ?_
      refine lv_aload_n zx zb dX6_crossings_50 rfl (lv_at hl 0 rfl) ?_
      refine gf_X6_19 C0 hH dX6_crossings_51 ?_
      refine gf_X6_102 C0 hH dX6_crossings_54 ?_
      refine lv_iload_n zx zb dX6_crossings_57 rfl (lv_at hl 2 rfl) ?_
      refine al_5 C0 hH (by omega) (by omega) dX6_crossings_58 ?_
      refine bq_ge (tgt := 90) zx zb dX6_crossings_59 (by decide) ⟨by omega, by omega⟩ ⟨by omega, by omega⟩ (fun zq59 => ?_) (fun zq59 => ?_)
      · refine bi_inc (k0 := 4) (n := 1) (lv' := [(4, .int (iI (i + 1))), (0, .ref (g.1 0)), (1, .int (iI f)), (2, .int (iI q)), (3, .int (iI b)), (6, .int (iI j))]) zx zb dX6_crossings_90 hl rfl (by decide) rfl (fun ls hl => ?_)
        refine lv_goto (tgt := 15) zx zb dX6_crossings_93 (by decide) ?_
        exact ih15 ((S 5 f - (i + 1)).toNat) (by omega) (i + 1) b rfl (by omega) (by rw [hS, lpF_e (n := S 5 q) zq59]) _ _ hH ls (lv_sub hl [1, 2, 3, 4, 0] rfl)
      · have hn := hN f (by omega) (by omega)
        have e1 := hE f i (by omega) (by omega) (by omega) (by omega)
        have o1 := hO f i (by omega) (by omega) (by omega) (by omega)
        have e2 := hE q j (by omega) (by omega) (by omega) (by omega)
        have o2 := hO q j (by omega) (by omega) (by omega) (by omega)
        refine lv_aload_n zx zb dX6_crossings_62 rfl (lv_at hl 0 rfl) ?_
        refine lv_iload_n zx zb dX6_crossings_63 rfl (lv_at hl 1 rfl) ?_
        refine lv_iload zx zb dX6_crossings_64 (lv_at hl 4 rfl) ?_
        refine csI (rest := [.ref (g.1 0)]) (As := [.int (iI f), .int (iI i)]) C0 hH (c_X5_place l g S f i) kw_X6_128 ky_X5_place ⟨Nat.le_of_ble_eq_true rfl, Nat.le_of_ble_eq_true rfl⟩ ⟨Nat.zero_le _, Nat.zero_le _⟩ rfl hl.1 rfl (Nat.le_of_ble_eq_true rfl) dX6_crossings_66 (fun H locs hH => ?_)
        refine lv_iload_n zx zb dX6_crossings_69 rfl (lv_at hl 2 rfl) ?_
        refine lv_iload zx zb dX6_crossings_70 (lv_at hl 5 rfl) ?_
        refine csI (rest := [.int (iI (10 * f + i)), .ref (g.1 0)]) (As := [.int (iI q), .int (iI j)]) C0 hH (c_X5_place l g S q j) kw_X6_128 ky_X5_place ⟨Nat.le_of_ble_eq_true rfl, Nat.le_of_ble_eq_true rfl⟩ ⟨Nat.zero_le _, Nat.zero_le _⟩ rfl hl.1 rfl (Nat.le_of_ble_eq_true rfl) dX6_crossings_72 (fun H locs hH => ?_)
        refine cvI (rest := []) (As := [.int (iI (10 * f + i)), .int (iI (10 * q + j))]) (b := g.1 0) C0 hH (c_X6_linesCross l g S (10 * f + i) (10 * q + j) (by omega) (by omega) (by omega) (by omega) (by omega) (by omega) (hC)) kw_X6_158 ky_X6_linesCross ⟨Nat.le_of_ble_eq_true rfl, Nat.le_of_ble_eq_true rfl⟩ ⟨Nat.zero_le _, Nat.zero_le _⟩ 0 rfl rfl rfl hl.1 rfl (Nat.le_of_ble_eq_true rfl) dX6_crossings_75 (fun H locs hH => ?_)
        have hb78 := brg (lcB (S 2) (S 3) (S 6) (S 7) (10 * f + i) (10 * q + j))
        refine bz_eq (tgt := 84) zx zb dX6_crossings_78 (by decide) ⟨by omega, by omega⟩ (fun zq78 => ?_) (fun zq78 => ?_)
        · refine bi_inc (k0 := 5) (n := 1) (lv' := [(6, .int (iI (j + 1))), (0, .ref (g.1 0)), (1, .int (iI f)), (2, .int (iI q)), (3, .int (iI b)), (4, .int (iI i))]) zx zb dX6_crossings_84 hl rfl (by decide) rfl (fun ls hl => ?_)
          refine lv_goto (tgt := 48) zx zb dX6_crossings_87 (by decide) ?_
          exact ih48 ((S 5 q - (j + 1)).toNat) (by omega) b (j + 1) rfl (by omega) (by omega) (by first | (rw [hS, lpF_s (n := S 5 q) zq59, show (crN (S 2) (S 3) (S 6) (S 7) (10 * f + i) (10 * q)) j b = b from cnQ_0 (b0 zq78)]; done) | (rw [hS, lpF_s (n := S 5 q) zq59, show (crN (S 2) (S 3) (S 6) (S 7) (10 * f + i) (10 * q)) j b = b + 1 from cnQ_1 (b1 zq78)]; done)) _ _ hH ls (lv_sub hl [1, 2, 3, 4, 5, 0] rfl)
        · refine bi_inc (k0 := 3) (n := 1) (lv' := [(3, .int (iI (b + 1))), (0, .ref (g.1 0)), (1, .int (iI f)), (2, .int (iI q)), (4, .int (iI i)), (6, .int (iI j))]) zx zb dX6_crossings_81 hl rfl (by decide) rfl (fun ls hl => ?_)
          refine bi_inc (k0 := 5) (n := 1) (lv' := [(6, .int (iI (j + 1))), (3, .int (iI (b + 1))), (0, .ref (g.1 0)), (1, .int (iI f)), (2, .int (iI q)), (4, .int (iI i))]) zx zb dX6_crossings_84 hl rfl (by decide) rfl (fun ls hl => ?_)
          refine lv_goto (tgt := 48) zx zb dX6_crossings_87 (by decide) ?_
          exact ih48 ((S 5 q - (j + 1)).toNat) (by omega) (b + 1) (j + 1) rfl (by omega) (by omega) (by first | (rw [hS, lpF_s (n := S 5 q) zq59, show (crN (S 2) (S 3) (S 6) (S 7) (10 * f + i) (10 * q)) j b = b from cnQ_0 (b0 zq78)]; done) | (rw [hS, lpF_s (n := S 5 q) zq59, show (crN (S 2) (S 3) (S 6) (S 7) (10 * f + i) (10 * q)) j b = b + 1 from cnQ_1 (b1 zq78)]; done)) _ _ hH ls (lv_sub hl [2, 3, 4, 1, 5, 0] rfl)
    have hn := hN f (by omega) (by omega)
    refine lv_iload zx zb dX6_crossings_15 (lv_at hl 4 rfl) ?_
    refine lv_aload_n zx zb dX6_crossings_17 rfl (lv_at hl 0 rfl) ?_
    refine gf_X6_19 C0 hH dX6_crossings_18 ?_
    refine gf_X6_102 C0 hH dX6_crossings_21 ?_
    refine lv_iload_n zx zb dX6_crossings_24 rfl (lv_at hl 1 rfl) ?_
    refine al_5 C0 hH (by omega) (by omega) dX6_crossings_25 ?_
    refine bq_ge (tgt := 96) zx zb dX6_crossings_26 (by decide) ⟨by omega, by omega⟩ ⟨by omega, by omega⟩ (fun zq26 => ?_) (fun zq26 => ?_)
    · refine lv_iload_n zx zb dX6_crossings_96 rfl (lv_at hl 3 rfl) ?_
      exact retI C0 hret hlk hH (by rw [hR, lpF_e zq26]) (rfl) dX6_crossings_97
    · refine lv_iload_n zx zb dX6_crossings_29 rfl (lv_at hl 1 rfl) ?_
      refine lv_iload_n zx zb dX6_crossings_30 rfl (lv_at hl 2 rfl) ?_
      refine bq_ne (tgt := 41) zx zb dX6_crossings_31 (by decide) ⟨by omega, by omega⟩ ⟨by omega, by omega⟩ (fun zq31 => ?_) (fun zq31 => ?_)
      · refine bi_const (n := 0) zx zb dX6_crossings_41 ?_
        refine lv_istore (lv' := [(5, .int (iI 0)), (0, .ref (g.1 0)), (1, .int (iI f)), (2, .int (iI q)), (3, .int (iI a)), (4, .int (iI i))]) zx zb dX6_crossings_42 hl (by decide) rfl (fun ls hl => ?_)
        refine lv_iload zx zb dX6_crossings_44 (lv_at hl 0 rfl) ?_
        refine lv_istore (lv' := [(6, .int (iI 0)), (5, .int (iI 0)), (0, .ref (g.1 0)), (1, .int (iI f)), (2, .int (iI q)), (3, .int (iI a)), (4, .int (iI i))]) zx zb dX6_crossings_46 hl (by decide) rfl (fun ls hl => ?_)
        exact L48 _ a 0 rfl (by omega) (by omega) (by rw [hR, lpF_s zq26]; unfold crF; first | (rw [if_pos zq31]; done) | (rw [if_neg zq31]; done)) _ _ hH ls (lv_sub hl [2, 3, 4, 5, 6, 0] rfl)
      · refine lv_iload zx zb dX6_crossings_34 (lv_at hl 4 rfl) ?_
        refine bi_const (n := 1) zx zb dX6_crossings_36 ?_
        refine bi_add zx zb dX6_crossings_37 ?_
        refine lv_goto (tgt := 42) zx zb dX6_crossings_38 (by decide) ?_
        refine lv_istore (lv' := [(5, .int (iI (i + 1))), (0, .ref (g.1 0)), (1, .int (iI f)), (2, .int (iI q)), (3, .int (iI a)), (4, .int (iI i))]) zx zb dX6_crossings_42 hl (by decide) rfl (fun ls hl => ?_)
        refine lv_iload zx zb dX6_crossings_44 (lv_at hl 0 rfl) ?_
        refine lv_istore (lv' := [(6, .int (iI (i + 1))), (5, .int (iI (i + 1))), (0, .ref (g.1 0)), (1, .int (iI f)), (2, .int (iI q)), (3, .int (iI a)), (4, .int (iI i))]) zx zb dX6_crossings_46 hl (by decide) rfl (fun ls hl => ?_)
        exact L48 _ a (i + 1) rfl (by omega) (by omega) (by rw [hR, lpF_s zq26]; unfold crF; first | (rw [if_pos zq31]; done) | (rw [if_neg zq31]; done)) _ _ hH ls (lv_sub hl [2, 3, 4, 5, 6, 0] rfl)
  obtain ⟨H, hHe⟩ : ∃ H : Heap, H = s.heap := ⟨_, rfl⟩
  rw [show (Hp g S s s.heap []) = Hp g S s H [] by rw [hHe]] at hH
  rw [← hHe]
  have hn := hN f (by omega) (by omega)
  have hn2 := hN q (by omega) (by omega)
  refine lv_aload_n zx zb dX6_crossings_0 rfl (lv_at hl 0 rfl) ?_
  refine lv_iload_n zx zb dX6_crossings_1 rfl (lv_at hl 1 rfl) ?_
  refine cvN (rest := []) (As := [.int (iI f)]) (b := g.1 0) C0 hH (c_X6_needFigure l g S f (by omega) (by omega)) kw_X6_94 ky_X6_needFigure ⟨Nat.le_of_ble_eq_true rfl, Nat.le_of_ble_eq_true rfl⟩ ⟨Nat.zero_le _, Nat.zero_le _⟩ 0 rfl rfl rfl hl.1 rfl (Nat.le_of_ble_eq_true rfl) dX6_crossings_2 (fun H locs hH => ?_)
  refine lv_aload_n zx zb dX6_crossings_5 rfl (lv_at hl 0 rfl) ?_
  refine lv_iload_n zx zb dX6_crossings_6 rfl (lv_at hl 2 rfl) ?_
  refine cvN (rest := []) (As := [.int (iI q)]) (b := g.1 0) C0 hH (c_X6_needFigure l g S q (by omega) (by omega)) kw_X6_94 ky_X6_needFigure ⟨Nat.le_of_ble_eq_true rfl, Nat.le_of_ble_eq_true rfl⟩ ⟨Nat.zero_le _, Nat.zero_le _⟩ 0 rfl rfl rfl hl.1 rfl (Nat.le_of_ble_eq_true rfl) dX6_crossings_7 (fun H locs hH => ?_)
  refine bi_const (n := 0) zx zb dX6_crossings_10 ?_
  refine lv_istore_n (lv' := [(3, .int (iI 0)), (0, .ref (g.1 0)), (1, .int (iI f)), (2, .int (iI q))]) zx zb dX6_crossings_11 rfl hl (by decide) rfl (fun ls hl => ?_)
  refine bi_const (n := 0) zx zb dX6_crossings_12 ?_
  refine lv_istore (lv' := [(4, .int (iI 0)), (3, .int (iI 0)), (0, .ref (g.1 0)), (1, .int (iI f)), (2, .int (iI q))]) zx zb dX6_crossings_13 hl (by decide) rfl (fun ls hl => ?_)
  exact L15 _ 0 0 rfl (by omega) (by unfold crI; rw [Int.sub_zero]) _ _ hH ls (lv_sub hl [2, 3, 4, 1, 0] rfl)
set_option maxRecDepth 100000 in
set_option maxHeartbeats 4000000 in
theorem x1_X6_crossings (l : Launch) (g : gT) (S : gSt) (f q : Int) (hnf : 0 ≤ S 4 0 ∧ S 4 0 ≤ 8) (hr_f : -2147483648 ≤ f ∧ f < 2147483648) (hr_q : -2147483648 ≤ q ∧ q < 2147483648) (hbad : ¬((0 ≤ f ∧ f < S 4 0) ∧ (0 ≤ q ∧ q < S 4 0))) (hfl : l.stackTraces = false) : ThrG l g yX6_crossings cX6_crossings 7 (some .int) 7 106 [.ref (g.1 0), .int (iI f), .int (iI q)] S "java/lang/IndexOutOfBoundsException" S := by
  refine bodyX (by decide +kernel) (Nat.le_of_ble_eq_true rfl) ?_
  intro p e s m args below meth c ls C0 htab hlk hl hH
  have zx := C0.1
  have zb := C0.2.1
  have hl : lv_has ls 7 [(0, .ref (g.1 0)), (1, .int (iI f)), (2, .int (iI q))] := hl
  obtain ⟨H, hHe⟩ : ∃ H : Heap, H = s.heap := ⟨_, rfl⟩
  rw [show (Hp g S s s.heap []) = Hp g S s H [] by rw [hHe]] at hH
  rw [← hHe]
  refine lv_aload_n zx zb dX6_crossings_0 rfl (lv_at hl 0 rfl) ?_
  refine lv_iload_n zx zb dX6_crossings_1 rfl (lv_at hl 1 rfl) ?_
  by_cases hc2 : 0 ≤ f ∧ f < S 4 0
  · refine cvN (rest := []) (As := [.int (iI f)]) (b := g.1 0) C0 hH (c_X6_needFigure l g S f (by omega) (by omega)) kw_X6_94 ky_X6_needFigure ⟨Nat.le_of_ble_eq_true rfl, Nat.le_of_ble_eq_true rfl⟩ ⟨Nat.zero_le _, Nat.zero_le _⟩ 0 rfl rfl rfl hl.1 rfl (Nat.le_of_ble_eq_true rfl) dX6_crossings_2 (fun H locs hH => ?_)
    refine lv_aload_n zx zb dX6_crossings_5 rfl (lv_at hl 0 rfl) ?_
    refine lv_iload_n zx zb dX6_crossings_6 rfl (lv_at hl 2 rfl) ?_
    exact cvX (rest := []) (As := [.int (iI q)]) (b := g.1 0) C0 htab hlk hH (x_X6_needFigure l g S q (by omega) (by omega) (by omega) hfl) kw_X6_94 ky_X6_needFigure ⟨Nat.le_of_ble_eq_true rfl, Nat.le_of_ble_eq_true rfl⟩ ⟨Nat.le_of_ble_eq_true rfl, Nat.le_of_ble_eq_true rfl⟩ 0 rfl rfl rfl hl.1 rfl (Nat.le_of_ble_eq_true rfl) dX6_crossings_7
  · exact cvX (rest := []) (As := [.int (iI f)]) (b := g.1 0) C0 htab hlk hH (x_X6_needFigure l g S f (by omega) (by omega) (by omega) hfl) kw_X6_94 ky_X6_needFigure ⟨Nat.le_of_ble_eq_true rfl, Nat.le_of_ble_eq_true rfl⟩ ⟨Nat.le_of_ble_eq_true rfl, Nat.le_of_ble_eq_true rfl⟩ 0 rfl rfl rfl hl.1 rfl (Nat.le_of_ble_eq_true rfl) dX6_crossings_2
set_option maxRecDepth 100000 in
set_option maxHeartbeats 4000000 in
theorem c_X6_vote (l : Launch) (g : gT) (S : gSt) (v f n : Int) (hvo : 0 ≤ v ∧ v < 6) (hnf : 0 ≤ S 4 0 ∧ S 4 0 ≤ 8) (hfo : 0 ≤ f ∧ f < S 4 0) (hn : -1 ≤ n ∧ n < 10) (h9 : ∀ j : Int, 0 ≤ j → j < 48 → -1 ≤ S 9 j ∧ S 9 j < 10) (hT : ∀ j : Int, 0 ≤ j → j < 80 → -7 ≤ S 10 j ∧ S 10 j ≤ 7) : MetG l g yX6_vote cX6_vote 4 (some .int) 3 73 [.ref (g.1 0), .int (iI v), .int (iI f), .int (iI n)] S (some (.int (iI (S 9 (v * 8 + f))))) (rpS S v f n) := by
  refine bodyG (by decide +kernel) (Nat.le_of_ble_eq_true rfl) ?_
  intro p e s m args below meth c ls C0 hret hlk hl hH
  have zx := C0.1
  have zb := C0.2.1
  have hl : lv_has ls 4 [(0, .ref (g.1 0)), (1, .int (iI v)), (2, .int (iI f)), (3, .int (iI n))] := hl
  obtain ⟨H, hHe⟩ : ∃ H : Heap, H = s.heap := ⟨_, rfl⟩
  rw [show (Hp g S s s.heap []) = Hp g S s H [] by rw [hHe]] at hH
  rw [← hHe]
  refine lv_iload_n zx zb dX6_vote_0 rfl (lv_at hl 1 rfl) ?_
  refine bz_lt (tgt := 10) zx zb dX6_vote_1 (by decide) ⟨by omega, by omega⟩ (fun zq1 => ?_) (fun zq1 => ?_)
  · exact absurd zq1 (by omega)
  · refine lv_iload_n zx zb dX6_vote_4 rfl (lv_at hl 1 rfl) ?_
    refine bi_bip (n := 6) zx zb dX6_vote_5 (by decide) ?_
    refine bq_lt (tgt := 20) zx zb dX6_vote_7 (by decide) ⟨by omega, by omega⟩ ⟨by omega, by omega⟩ (fun zq7 => ?_) (fun zq7 => ?_)
    · refine lv_aload_n zx zb dX6_vote_20 rfl (lv_at hl 0 rfl) ?_
      refine lv_iload_n zx zb dX6_vote_21 rfl (lv_at hl 2 rfl) ?_
      refine cvN (rest := []) (As := [.int (iI f)]) (b := g.1 0) C0 hH (c_X6_needFigure l g S f (by omega) (by omega)) kw_X6_94 ky_X6_needFigure ⟨Nat.le_of_ble_eq_true rfl, Nat.le_of_ble_eq_true rfl⟩ ⟨Nat.zero_le _, Nat.zero_le _⟩ 0 rfl rfl rfl hl.1 rfl (Nat.le_of_ble_eq_true rfl) dX6_vote_22 (fun H locs hH => ?_)
      refine lv_iload_n zx zb dX6_vote_25 rfl (lv_at hl 3 rfl) ?_
      refine bi_const (n := (-1)) zx zb dX6_vote_26 ?_
      refine bq_eq (tgt := 34) zx zb dX6_vote_27 (by decide) ⟨by omega, by omega⟩ ⟨by omega, by omega⟩ (fun zq27 => ?_) (fun zq27 => ?_)
      · refine lv_aload_n zx zb dX6_vote_34 rfl (lv_at hl 0 rfl) ?_
        refine gf_X6_26 C0 hH dX6_vote_35 ?_
        refine lv_iload_n zx zb dX6_vote_38 rfl (lv_at hl 1 rfl) ?_
        refine lv_iload_n zx zb dX6_vote_39 rfl (lv_at hl 2 rfl) ?_
        refine lv_iload_n zx zb dX6_vote_40 rfl (lv_at hl 3 rfl) ?_
        refine cvI (rest := []) (As := [.int (iI v), .int (iI f), .int (iI n)]) (b := g.1 8) C0 hH (c_X1_replace l g S v f n (by omega) (by omega) (by omega) (h9) (hT)) kw_X6_166 ky_X1_replace ⟨Nat.le_of_ble_eq_true rfl, Nat.le_of_ble_eq_true rfl⟩ ⟨Nat.zero_le _, Nat.zero_le _⟩ 8 rfl rfl rfl hl.1 rfl (Nat.le_of_ble_eq_true rfl) dX6_vote_41 (fun H locs hH => ?_)
        exact retI C0 hret hlk hH (by rfl) (rfl) dX6_vote_44
      · refine lv_iload_n zx zb dX6_vote_30 rfl (lv_at hl 3 rfl) ?_
        refine csN (rest := []) (As := [.int (iI n)]) C0 hH (c_X6_needName l g S n (by omega)) kw_X6_163 ky_X6_needName ⟨Nat.le_of_ble_eq_true rfl, Nat.le_of_ble_eq_true rfl⟩ ⟨Nat.zero_le _, Nat.zero_le _⟩ rfl hl.1 rfl (Nat.le_of_ble_eq_true rfl) dX6_vote_31 (fun H locs hH => ?_)
        refine lv_aload_n zx zb dX6_vote_34 rfl (lv_at hl 0 rfl) ?_
        refine gf_X6_26 C0 hH dX6_vote_35 ?_
        refine lv_iload_n zx zb dX6_vote_38 rfl (lv_at hl 1 rfl) ?_
        refine lv_iload_n zx zb dX6_vote_39 rfl (lv_at hl 2 rfl) ?_
        refine lv_iload_n zx zb dX6_vote_40 rfl (lv_at hl 3 rfl) ?_
        refine cvI (rest := []) (As := [.int (iI v), .int (iI f), .int (iI n)]) (b := g.1 8) C0 hH (c_X1_replace l g S v f n (by omega) (by omega) (by omega) (h9) (hT)) kw_X6_166 ky_X1_replace ⟨Nat.le_of_ble_eq_true rfl, Nat.le_of_ble_eq_true rfl⟩ ⟨Nat.zero_le _, Nat.zero_le _⟩ 8 rfl rfl rfl hl.1 rfl (Nat.le_of_ble_eq_true rfl) dX6_vote_41 (fun H locs hH => ?_)
        exact retI C0 hret hlk hH (by rfl) (rfl) dX6_vote_44
    · exact absurd zq7 (by omega)
set_option maxRecDepth 100000 in
set_option maxHeartbeats 4000000 in
theorem x1_X6_vote (l : Launch) (g : gT) (S : gSt) (v f n : Int) (hnf : 0 ≤ S 4 0 ∧ S 4 0 ≤ 8) (hr_v : -2147483648 ≤ v ∧ v < 2147483648) (hr_f : -2147483648 ≤ f ∧ f < 2147483648) (hr_n : -2147483648 ≤ n ∧ n < 2147483648) (hbad : ¬((0 ≤ v ∧ v < 6) ∧ (0 ≤ f ∧ f < S 4 0))) (hfl : l.stackTraces = false) : ThrG l g yX6_vote cX6_vote 4 (some .int) 7 106 [.ref (g.1 0), .int (iI v), .int (iI f), .int (iI n)] S "java/lang/IndexOutOfBoundsException" S := by
  refine bodyX (by decide +kernel) (Nat.le_of_ble_eq_true rfl) ?_
  intro p e s m args below meth c ls C0 htab hlk hl hH
  have zx := C0.1
  have zb := C0.2.1
  have hl : lv_has ls 4 [(0, .ref (g.1 0)), (1, .int (iI v)), (2, .int (iI f)), (3, .int (iI n))] := hl
  obtain ⟨H, hHe⟩ : ∃ H : Heap, H = s.heap := ⟨_, rfl⟩
  rw [show (Hp g S s s.heap []) = Hp g S s H [] by rw [hHe]] at hH
  rw [← hHe]
  refine lv_iload_n zx zb dX6_vote_0 rfl (lv_at hl 1 rfl) ?_
  refine bz_lt (tgt := 10) zx zb dX6_vote_1 (by decide) ⟨by omega, by omega⟩ (fun zq1 => ?_) (fun zq1 => ?_)
  · exact thG (text := "no such voter") (names := ["java/lang/RuntimeException", "java/lang/Exception"]) hfl C0 htab hlk hH rfl (by decide +kernel) (by decide +kernel) (gm 291 (by decide +kernel) rfl) (gm 31 (by decide +kernel) rfl) (List.mem_of_getElem? (i := 435) (by decide +kernel)) (atS_IOE C0.2.2.2.2.1) gdS_IOE hl.1 dX6_vote_10 dX6_vote_13 dX6_vote_14 dX6_vote_16 dX6_vote_19 (by decide) (Nat.le_of_ble_eq_true rfl) (by decide) (by decide)
  · refine lv_iload_n zx zb dX6_vote_4 rfl (lv_at hl 1 rfl) ?_
    refine bi_bip (n := 6) zx zb dX6_vote_5 (by decide) ?_
    refine bq_lt (tgt := 20) zx zb dX6_vote_7 (by decide) ⟨by omega, by omega⟩ ⟨by omega, by omega⟩ (fun zq7 => ?_) (fun zq7 => ?_)
    · refine lv_aload_n zx zb dX6_vote_20 rfl (lv_at hl 0 rfl) ?_
      refine lv_iload_n zx zb dX6_vote_21 rfl (lv_at hl 2 rfl) ?_
      exact cvX (rest := []) (As := [.int (iI f)]) (b := g.1 0) C0 htab hlk hH (x_X6_needFigure l g S f (by omega) (by omega) (by omega) hfl) kw_X6_94 ky_X6_needFigure ⟨Nat.le_of_ble_eq_true rfl, Nat.le_of_ble_eq_true rfl⟩ ⟨Nat.le_of_ble_eq_true rfl, Nat.le_of_ble_eq_true rfl⟩ 0 rfl rfl rfl hl.1 rfl (Nat.le_of_ble_eq_true rfl) dX6_vote_22
    · exact thG (text := "no such voter") (names := ["java/lang/RuntimeException", "java/lang/Exception"]) hfl C0 htab hlk hH rfl (by decide +kernel) (by decide +kernel) (gm 291 (by decide +kernel) rfl) (gm 31 (by decide +kernel) rfl) (List.mem_of_getElem? (i := 435) (by decide +kernel)) (atS_IOE C0.2.2.2.2.1) gdS_IOE hl.1 dX6_vote_10 dX6_vote_13 dX6_vote_14 dX6_vote_16 dX6_vote_19 (by decide) (Nat.le_of_ble_eq_true rfl) (by decide) (by decide)
set_option maxRecDepth 100000 in
set_option maxHeartbeats 4000000 in
theorem x2_X6_vote (l : Launch) (g : gT) (S : gSt) (v f n : Int) (hvo : 0 ≤ v ∧ v < 6) (hnf : 0 ≤ S 4 0 ∧ S 4 0 ≤ 8) (hfo : 0 ≤ f ∧ f < S 4 0) (hr_n : -2147483648 ≤ n ∧ n < 2147483648) (hbad : ¬(-1 ≤ n ∧ n < 10)) (hfl : l.stackTraces = false) : ThrG l g yX6_vote cX6_vote 4 (some .int) 7 105 [.ref (g.1 0), .int (iI v), .int (iI f), .int (iI n)] S "java/lang/IllegalArgumentException" S := by
  refine bodyX (by decide +kernel) (Nat.le_of_ble_eq_true rfl) ?_
  intro p e s m args below meth c ls C0 htab hlk hl hH
  have zx := C0.1
  have zb := C0.2.1
  have hl : lv_has ls 4 [(0, .ref (g.1 0)), (1, .int (iI v)), (2, .int (iI f)), (3, .int (iI n))] := hl
  obtain ⟨H, hHe⟩ : ∃ H : Heap, H = s.heap := ⟨_, rfl⟩
  rw [show (Hp g S s s.heap []) = Hp g S s H [] by rw [hHe]] at hH
  rw [← hHe]
  refine lv_iload_n zx zb dX6_vote_0 rfl (lv_at hl 1 rfl) ?_
  refine bz_lt (tgt := 10) zx zb dX6_vote_1 (by decide) ⟨by omega, by omega⟩ (fun zq1 => ?_) (fun zq1 => ?_)
  · exact absurd zq1 (by omega)
  · refine lv_iload_n zx zb dX6_vote_4 rfl (lv_at hl 1 rfl) ?_
    refine bi_bip (n := 6) zx zb dX6_vote_5 (by decide) ?_
    refine bq_lt (tgt := 20) zx zb dX6_vote_7 (by decide) ⟨by omega, by omega⟩ ⟨by omega, by omega⟩ (fun zq7 => ?_) (fun zq7 => ?_)
    · refine lv_aload_n zx zb dX6_vote_20 rfl (lv_at hl 0 rfl) ?_
      refine lv_iload_n zx zb dX6_vote_21 rfl (lv_at hl 2 rfl) ?_
      refine cvN (rest := []) (As := [.int (iI f)]) (b := g.1 0) C0 hH (c_X6_needFigure l g S f (by omega) (by omega)) kw_X6_94 ky_X6_needFigure ⟨Nat.le_of_ble_eq_true rfl, Nat.le_of_ble_eq_true rfl⟩ ⟨Nat.zero_le _, Nat.zero_le _⟩ 0 rfl rfl rfl hl.1 rfl (Nat.le_of_ble_eq_true rfl) dX6_vote_22 (fun H locs hH => ?_)
      refine lv_iload_n zx zb dX6_vote_25 rfl (lv_at hl 3 rfl) ?_
      refine bi_const (n := (-1)) zx zb dX6_vote_26 ?_
      refine bq_eq (tgt := 34) zx zb dX6_vote_27 (by decide) ⟨by omega, by omega⟩ ⟨by omega, by omega⟩ (fun zq27 => ?_) (fun zq27 => ?_)
      · exact absurd zq27 (by omega)
      · refine lv_iload_n zx zb dX6_vote_30 rfl (lv_at hl 3 rfl) ?_
        exact csX (rest := []) (As := [.int (iI n)]) C0 htab hlk hH (x_X6_needName l g S n (by omega) (by omega) hfl) kw_X6_163 ky_X6_needName ⟨Nat.le_of_ble_eq_true rfl, Nat.le_of_ble_eq_true rfl⟩ ⟨Nat.le_of_ble_eq_true rfl, Nat.le_of_ble_eq_true rfl⟩ rfl hl.1 rfl (Nat.le_of_ble_eq_true rfl) dX6_vote_31
    · exact absurd zq7 (by omega)
set_option maxRecDepth 100000 in
set_option maxHeartbeats 4000000 in
theorem c_X6_votes (l : Launch) (g : gT) (S : gSt) (f n : Int) (hnf : 0 ≤ S 4 0 ∧ S 4 0 ≤ 8) (hfo : 0 ≤ f ∧ f < S 4 0) (hn : 0 ≤ n ∧ n < 10) : MetG l g yX6_votes cX6_votes 3 (some .int) 1 21 [.ref (g.1 0), .int (iI f), .int (iI n)] S (some (.int (iI (S 10 (f * 10 + n))))) S := by
  refine bodyG (by decide +kernel) (Nat.le_of_ble_eq_true rfl) ?_
  intro p e s m args below meth c ls C0 hret hlk hl hH
  have zx := C0.1
  have zb := C0.2.1
  have hl : lv_has ls 3 [(0, .ref (g.1 0)), (1, .int (iI f)), (2, .int (iI n))] := hl
  obtain ⟨H, hHe⟩ : ∃ H : Heap, H = s.heap := ⟨_, rfl⟩
  rw [show (Hp g S s s.heap []) = Hp g S s H [] by rw [hHe]] at hH
  rw [← hHe]
  refine lv_aload_n zx zb dX6_votes_0 rfl (lv_at hl 0 rfl) ?_
  refine lv_iload_n zx zb dX6_votes_1 rfl (lv_at hl 1 rfl) ?_
  refine cvN (rest := []) (As := [.int (iI f)]) (b := g.1 0) C0 hH (c_X6_needFigure l g S f (by omega) (by omega)) kw_X6_94 ky_X6_needFigure ⟨Nat.le_of_ble_eq_true rfl, Nat.le_of_ble_eq_true rfl⟩ ⟨Nat.zero_le _, Nat.zero_le _⟩ 0 rfl rfl rfl hl.1 rfl (Nat.le_of_ble_eq_true rfl) dX6_votes_2 (fun H locs hH => ?_)
  refine lv_iload_n zx zb dX6_votes_5 rfl (lv_at hl 2 rfl) ?_
  refine csN (rest := []) (As := [.int (iI n)]) C0 hH (c_X6_needName l g S n (by omega)) kw_X6_163 ky_X6_needName ⟨Nat.le_of_ble_eq_true rfl, Nat.le_of_ble_eq_true rfl⟩ ⟨Nat.zero_le _, Nat.zero_le _⟩ rfl hl.1 rfl (Nat.le_of_ble_eq_true rfl) dX6_votes_6 (fun H locs hH => ?_)
  refine lv_aload_n zx zb dX6_votes_9 rfl (lv_at hl 0 rfl) ?_
  refine gf_X6_26 C0 hH dX6_votes_10 ?_
  refine gf_X6_170 C0 hH dX6_votes_13 ?_
  refine lv_iload_n zx zb dX6_votes_16 rfl (lv_at hl 1 rfl) ?_
  refine bi_bip (n := 10) zx zb dX6_votes_17 (by decide) ?_
  refine bi_mul zx zb dX6_votes_19 ?_
  refine lv_iload_n zx zb dX6_votes_20 rfl (lv_at hl 2 rfl) ?_
  refine bi_add zx zb dX6_votes_21 ?_
  refine al_10 C0 hH (by omega) (by omega) dX6_votes_22 ?_
  exact retI C0 hret hlk hH (by rfl) (rfl) dX6_votes_23
set_option maxRecDepth 100000 in
set_option maxHeartbeats 4000000 in
theorem x1_X6_votes (l : Launch) (g : gT) (S : gSt) (f n : Int) (hnf : 0 ≤ S 4 0 ∧ S 4 0 ≤ 8) (hr_f : -2147483648 ≤ f ∧ f < 2147483648) (hr_n : -2147483648 ≤ n ∧ n < 2147483648) (hfb : ¬(0 ≤ f ∧ f < S 4 0)) (hfl : l.stackTraces = false) : ThrG l g yX6_votes cX6_votes 3 (some .int) 7 106 [.ref (g.1 0), .int (iI f), .int (iI n)] S "java/lang/IndexOutOfBoundsException" S := by
  refine bodyX (by decide +kernel) (Nat.le_of_ble_eq_true rfl) ?_
  intro p e s m args below meth c ls C0 htab hlk hl hH
  have zx := C0.1
  have zb := C0.2.1
  have hl : lv_has ls 3 [(0, .ref (g.1 0)), (1, .int (iI f)), (2, .int (iI n))] := hl
  obtain ⟨H, hHe⟩ : ∃ H : Heap, H = s.heap := ⟨_, rfl⟩
  rw [show (Hp g S s s.heap []) = Hp g S s H [] by rw [hHe]] at hH
  rw [← hHe]
  refine lv_aload_n zx zb dX6_votes_0 rfl (lv_at hl 0 rfl) ?_
  refine lv_iload_n zx zb dX6_votes_1 rfl (lv_at hl 1 rfl) ?_
  exact cvX (rest := []) (As := [.int (iI f)]) (b := g.1 0) C0 htab hlk hH (x_X6_needFigure l g S f (by omega) (by omega) (by omega) hfl) kw_X6_94 ky_X6_needFigure ⟨Nat.le_of_ble_eq_true rfl, Nat.le_of_ble_eq_true rfl⟩ ⟨Nat.le_of_ble_eq_true rfl, Nat.le_of_ble_eq_true rfl⟩ 0 rfl rfl rfl hl.1 rfl (Nat.le_of_ble_eq_true rfl) dX6_votes_2
set_option maxRecDepth 100000 in
set_option maxHeartbeats 4000000 in
theorem x2_X6_votes (l : Launch) (g : gT) (S : gSt) (f n : Int) (hnf : 0 ≤ S 4 0 ∧ S 4 0 ≤ 8) (hfo : 0 ≤ f ∧ f < S 4 0) (hr_n : -2147483648 ≤ n ∧ n < 2147483648) (hbad : ¬(0 ≤ n ∧ n < 10)) (hfl : l.stackTraces = false) : ThrG l g yX6_votes cX6_votes 3 (some .int) 7 105 [.ref (g.1 0), .int (iI f), .int (iI n)] S "java/lang/IllegalArgumentException" S := by
  refine bodyX (by decide +kernel) (Nat.le_of_ble_eq_true rfl) ?_
  intro p e s m args below meth c ls C0 htab hlk hl hH
  have zx := C0.1
  have zb := C0.2.1
  have hl : lv_has ls 3 [(0, .ref (g.1 0)), (1, .int (iI f)), (2, .int (iI n))] := hl
  obtain ⟨H, hHe⟩ : ∃ H : Heap, H = s.heap := ⟨_, rfl⟩
  rw [show (Hp g S s s.heap []) = Hp g S s H [] by rw [hHe]] at hH
  rw [← hHe]
  refine lv_aload_n zx zb dX6_votes_0 rfl (lv_at hl 0 rfl) ?_
  refine lv_iload_n zx zb dX6_votes_1 rfl (lv_at hl 1 rfl) ?_
  refine cvN (rest := []) (As := [.int (iI f)]) (b := g.1 0) C0 hH (c_X6_needFigure l g S f (by omega) (by omega)) kw_X6_94 ky_X6_needFigure ⟨Nat.le_of_ble_eq_true rfl, Nat.le_of_ble_eq_true rfl⟩ ⟨Nat.zero_le _, Nat.zero_le _⟩ 0 rfl rfl rfl hl.1 rfl (Nat.le_of_ble_eq_true rfl) dX6_votes_2 (fun H locs hH => ?_)
  refine lv_iload_n zx zb dX6_votes_5 rfl (lv_at hl 2 rfl) ?_
  exact csX (rest := []) (As := [.int (iI n)]) C0 htab hlk hH (x_X6_needName l g S n (by omega) (by omega) hfl) kw_X6_163 ky_X6_needName ⟨Nat.le_of_ble_eq_true rfl, Nat.le_of_ble_eq_true rfl⟩ ⟨Nat.le_of_ble_eq_true rfl, Nat.le_of_ble_eq_true rfl⟩ rfl hl.1 rfl (Nat.le_of_ble_eq_true rfl) dX6_votes_6
set_option maxRecDepth 100000 in
set_option maxHeartbeats 4000000 in
theorem c_X6_nameOf (l : Launch) (g : gT) (S : gSt) (f : Int) (hnf : 0 ≤ S 4 0 ∧ S 4 0 ≤ 8) (hfo : 0 ≤ f ∧ f < S 4 0) : MetG l g yX6_nameOf cX6_nameOf 2 (some .int) 1 21 [.ref (g.1 0), .int (iI f)] S (some (.int (iI (S 11 f)))) S := by
  refine bodyG (by decide +kernel) (Nat.le_of_ble_eq_true rfl) ?_
  intro p e s m args below meth c ls C0 hret hlk hl hH
  have zx := C0.1
  have zb := C0.2.1
  have hl : lv_has ls 2 [(0, .ref (g.1 0)), (1, .int (iI f))] := hl
  obtain ⟨H, hHe⟩ : ∃ H : Heap, H = s.heap := ⟨_, rfl⟩
  rw [show (Hp g S s s.heap []) = Hp g S s H [] by rw [hHe]] at hH
  rw [← hHe]
  refine lv_aload_n zx zb dX6_nameOf_0 rfl (lv_at hl 0 rfl) ?_
  refine lv_iload_n zx zb dX6_nameOf_1 rfl (lv_at hl 1 rfl) ?_
  refine cvN (rest := []) (As := [.int (iI f)]) (b := g.1 0) C0 hH (c_X6_needFigure l g S f (by omega) (by omega)) kw_X6_94 ky_X6_needFigure ⟨Nat.le_of_ble_eq_true rfl, Nat.le_of_ble_eq_true rfl⟩ ⟨Nat.zero_le _, Nat.zero_le _⟩ 0 rfl rfl rfl hl.1 rfl (Nat.le_of_ble_eq_true rfl) dX6_nameOf_2 (fun H locs hH => ?_)
  refine lv_aload_n zx zb dX6_nameOf_5 rfl (lv_at hl 0 rfl) ?_
  refine gf_X6_26 C0 hH dX6_nameOf_6 ?_
  refine gf_X6_173 C0 hH dX6_nameOf_9 ?_
  refine lv_iload_n zx zb dX6_nameOf_12 rfl (lv_at hl 1 rfl) ?_
  refine al_11 C0 hH (by omega) (by omega) dX6_nameOf_13 ?_
  exact retI C0 hret hlk hH (by rfl) (rfl) dX6_nameOf_14
set_option maxRecDepth 100000 in
set_option maxHeartbeats 4000000 in
theorem x1_X6_nameOf (l : Launch) (g : gT) (S : gSt) (f : Int) (hnf : 0 ≤ S 4 0 ∧ S 4 0 ≤ 8) (hr_f : -2147483648 ≤ f ∧ f < 2147483648) (hfb : ¬(0 ≤ f ∧ f < S 4 0)) (hfl : l.stackTraces = false) : ThrG l g yX6_nameOf cX6_nameOf 2 (some .int) 7 106 [.ref (g.1 0), .int (iI f)] S "java/lang/IndexOutOfBoundsException" S := by
  refine bodyX (by decide +kernel) (Nat.le_of_ble_eq_true rfl) ?_
  intro p e s m args below meth c ls C0 htab hlk hl hH
  have zx := C0.1
  have zb := C0.2.1
  have hl : lv_has ls 2 [(0, .ref (g.1 0)), (1, .int (iI f))] := hl
  obtain ⟨H, hHe⟩ : ∃ H : Heap, H = s.heap := ⟨_, rfl⟩
  rw [show (Hp g S s s.heap []) = Hp g S s H [] by rw [hHe]] at hH
  rw [← hHe]
  refine lv_aload_n zx zb dX6_nameOf_0 rfl (lv_at hl 0 rfl) ?_
  refine lv_iload_n zx zb dX6_nameOf_1 rfl (lv_at hl 1 rfl) ?_
  exact cvX (rest := []) (As := [.int (iI f)]) (b := g.1 0) C0 htab hlk hH (x_X6_needFigure l g S f (by omega) (by omega) (by omega) hfl) kw_X6_94 ky_X6_needFigure ⟨Nat.le_of_ble_eq_true rfl, Nat.le_of_ble_eq_true rfl⟩ ⟨Nat.le_of_ble_eq_true rfl, Nat.le_of_ble_eq_true rfl⟩ 0 rfl rfl rfl hl.1 rfl (Nat.le_of_ble_eq_true rfl) dX6_nameOf_2
set_option maxRecDepth 100000 in
set_option maxHeartbeats 4000000 in
theorem c_X6_height (l : Launch) (g : gT) (S : gSt) (z lat d h : Int) (hn1 : 0 ≤ S 1 0 ∧ S 1 0 ≤ 24) (hzo : 0 ≤ z ∧ z < S 1 0) (hlat : -90 ≤ lat ∧ lat ≤ 90) (hd : 0 ≤ d ∧ d < 365) (hh : 0 ≤ h ∧ h < 24) (hC : okC (S 2) (S 3)) : MetG l g yX6_height cX6_height 5 (some .int) 4 93 [.ref (g.1 0), .int (iI z), .int (iI lat), .int (iI d), .int (iI h)] S (some (.int (iI (hg lat (S 3 z) (15 * h + d - S 2 z))))) S := by
  refine bodyG (by decide +kernel) (Nat.le_of_ble_eq_true rfl) ?_
  intro p e s m args below meth c ls C0 hret hlk hl hH
  have zx := C0.1
  have zb := C0.2.1
  have hl : lv_has ls 5 [(0, .ref (g.1 0)), (1, .int (iI z)), (2, .int (iI lat)), (3, .int (iI d)), (4, .int (iI h))] := hl
  obtain ⟨H, hHe⟩ : ∃ H : Heap, H = s.heap := ⟨_, rfl⟩
  rw [show (Hp g S s s.heap []) = Hp g S s H [] by rw [hHe]] at hH
  rw [← hHe]
  refine lv_aload_n zx zb dX6_height_0 rfl (lv_at hl 0 rfl) ?_
  refine lv_iload_n zx zb dX6_height_1 rfl (lv_at hl 1 rfl) ?_
  refine cvN (rest := []) (As := [.int (iI z)]) (b := g.1 0) C0 hH (c_X6_needStar l g S z (by omega) (by omega)) kw_X6_63 ky_X6_needStar ⟨Nat.le_of_ble_eq_true rfl, Nat.le_of_ble_eq_true rfl⟩ ⟨Nat.zero_le _, Nat.zero_le _⟩ 0 rfl rfl rfl hl.1 rfl (Nat.le_of_ble_eq_true rfl) dX6_height_2 (fun H locs hH => ?_)
  refine lv_iload_n zx zb dX6_height_5 rfl (lv_at hl 2 rfl) ?_
  refine csN (rest := []) (As := [.int (iI lat)]) C0 hH (c_X6_needLatitude l g S lat (by omega)) kw_X6_176 ky_X6_needLatitude ⟨Nat.le_of_ble_eq_true rfl, Nat.le_of_ble_eq_true rfl⟩ ⟨Nat.zero_le _, Nat.zero_le _⟩ rfl hl.1 rfl (Nat.le_of_ble_eq_true rfl) dX6_height_6 (fun H locs hH => ?_)
  refine lv_iload_n zx zb dX6_height_9 rfl (lv_at hl 3 rfl) ?_
  refine csN (rest := []) (As := [.int (iI d)]) C0 hH (c_X6_needDay l g S d (by omega)) kw_X6_179 ky_X6_needDay ⟨Nat.le_of_ble_eq_true rfl, Nat.le_of_ble_eq_true rfl⟩ ⟨Nat.zero_le _, Nat.zero_le _⟩ rfl hl.1 rfl (Nat.le_of_ble_eq_true rfl) dX6_height_10 (fun H locs hH => ?_)
  refine lv_iload zx zb dX6_height_13 (lv_at hl 4 rfl) ?_
  refine csN (rest := []) (As := [.int (iI h)]) C0 hH (c_X6_needHour l g S h (by omega)) kw_X6_182 ky_X6_needHour ⟨Nat.le_of_ble_eq_true rfl, Nat.le_of_ble_eq_true rfl⟩ ⟨Nat.zero_le _, Nat.zero_le _⟩ rfl hl.1 rfl (Nat.le_of_ble_eq_true rfl) dX6_height_15 (fun H locs hH => ?_)
  refine lv_aload_n zx zb dX6_height_18 rfl (lv_at hl 0 rfl) ?_
  refine gf_X6_12 C0 hH dX6_height_19 ?_
  refine lv_iload_n zx zb dX6_height_22 rfl (lv_at hl 1 rfl) ?_
  refine lv_iload_n zx zb dX6_height_23 rfl (lv_at hl 2 rfl) ?_
  refine lv_iload_n zx zb dX6_height_24 rfl (lv_at hl 3 rfl) ?_
  refine lv_iload zx zb dX6_height_25 (lv_at hl 4 rfl) ?_
  refine csI (rest := [.int (iI lat), .int (iI z), .ref (g.1 1)]) (As := [.int (iI d), .int (iI h)]) C0 hH (c_X6_skyTurn l g S d h) kw_X6_185 ky_X6_skyTurn ⟨Nat.le_of_ble_eq_true rfl, Nat.le_of_ble_eq_true rfl⟩ ⟨Nat.zero_le _, Nat.zero_le _⟩ rfl hl.1 rfl (Nat.le_of_ble_eq_true rfl) dX6_height_27 (fun H locs hH => ?_)
  refine cvI (rest := []) (As := [.int (iI z), .int (iI lat), .int (iI (15 * h + d))]) (b := g.1 1) C0 hH (c_X2_heightAt l g S z lat (15 * h + d) (by omega) (by omega) (by omega) (hC)) kw_X6_188 ky_X2_heightAt ⟨Nat.le_of_ble_eq_true rfl, Nat.le_of_ble_eq_true rfl⟩ ⟨Nat.zero_le _, Nat.zero_le _⟩ 1 rfl rfl rfl hl.1 rfl (Nat.le_of_ble_eq_true rfl) dX6_height_30 (fun H locs hH => ?_)
  exact retI C0 hret hlk hH (by rfl) (rfl) dX6_height_33
set_option maxRecDepth 100000 in
set_option maxHeartbeats 4000000 in
theorem x1_X6_height (l : Launch) (g : gT) (S : gSt) (z lat d h : Int) (hn1 : 0 ≤ S 1 0 ∧ S 1 0 ≤ 24) (hr_z : -2147483648 ≤ z ∧ z < 2147483648) (hzb : ¬(0 ≤ z ∧ z < S 1 0)) (hfl : l.stackTraces = false) : ThrG l g yX6_height cX6_height 5 (some .int) 7 106 [.ref (g.1 0), .int (iI z), .int (iI lat), .int (iI d), .int (iI h)] S "java/lang/IndexOutOfBoundsException" S := by
  refine bodyX (by decide +kernel) (Nat.le_of_ble_eq_true rfl) ?_
  intro p e s m args below meth c ls C0 htab hlk hl hH
  have zx := C0.1
  have zb := C0.2.1
  have hl : lv_has ls 5 [(0, .ref (g.1 0)), (1, .int (iI z)), (2, .int (iI lat)), (3, .int (iI d)), (4, .int (iI h))] := hl
  obtain ⟨H, hHe⟩ : ∃ H : Heap, H = s.heap := ⟨_, rfl⟩
  rw [show (Hp g S s s.heap []) = Hp g S s H [] by rw [hHe]] at hH
  rw [← hHe]
  refine lv_aload_n zx zb dX6_height_0 rfl (lv_at hl 0 rfl) ?_
  refine lv_iload_n zx zb dX6_height_1 rfl (lv_at hl 1 rfl) ?_
  exact cvX (rest := []) (As := [.int (iI z)]) (b := g.1 0) C0 htab hlk hH (x_X6_needStar l g S z (by omega) (by omega) (by omega) hfl) kw_X6_63 ky_X6_needStar ⟨Nat.le_of_ble_eq_true rfl, Nat.le_of_ble_eq_true rfl⟩ ⟨Nat.le_of_ble_eq_true rfl, Nat.le_of_ble_eq_true rfl⟩ 0 rfl rfl rfl hl.1 rfl (Nat.le_of_ble_eq_true rfl) dX6_height_2
set_option maxRecDepth 100000 in
set_option maxHeartbeats 4000000 in
theorem x2_X6_height (l : Launch) (g : gT) (S : gSt) (z lat d h : Int) (hn1 : 0 ≤ S 1 0 ∧ S 1 0 ≤ 24) (hzo : 0 ≤ z ∧ z < S 1 0) (hr_lat : -2147483648 ≤ lat ∧ lat < 2147483648) (hr_d : -2147483648 ≤ d ∧ d < 2147483648) (hr_h : -2147483648 ≤ h ∧ h < 2147483648) (hbad : ¬((-90 ≤ lat ∧ lat ≤ 90) ∧ (0 ≤ d ∧ d < 365) ∧ (0 ≤ h ∧ h < 24))) (hfl : l.stackTraces = false) : ThrG l g yX6_height cX6_height 5 (some .int) 7 105 [.ref (g.1 0), .int (iI z), .int (iI lat), .int (iI d), .int (iI h)] S "java/lang/IllegalArgumentException" S := by
  refine bodyX (by decide +kernel) (Nat.le_of_ble_eq_true rfl) ?_
  intro p e s m args below meth c ls C0 htab hlk hl hH
  have zx := C0.1
  have zb := C0.2.1
  have hl : lv_has ls 5 [(0, .ref (g.1 0)), (1, .int (iI z)), (2, .int (iI lat)), (3, .int (iI d)), (4, .int (iI h))] := hl
  obtain ⟨H, hHe⟩ : ∃ H : Heap, H = s.heap := ⟨_, rfl⟩
  rw [show (Hp g S s s.heap []) = Hp g S s H [] by rw [hHe]] at hH
  rw [← hHe]
  refine lv_aload_n zx zb dX6_height_0 rfl (lv_at hl 0 rfl) ?_
  refine lv_iload_n zx zb dX6_height_1 rfl (lv_at hl 1 rfl) ?_
  refine cvN (rest := []) (As := [.int (iI z)]) (b := g.1 0) C0 hH (c_X6_needStar l g S z (by omega) (by omega)) kw_X6_63 ky_X6_needStar ⟨Nat.le_of_ble_eq_true rfl, Nat.le_of_ble_eq_true rfl⟩ ⟨Nat.zero_le _, Nat.zero_le _⟩ 0 rfl rfl rfl hl.1 rfl (Nat.le_of_ble_eq_true rfl) dX6_height_2 (fun H locs hH => ?_)
  refine lv_iload_n zx zb dX6_height_5 rfl (lv_at hl 2 rfl) ?_
  by_cases hc6 : -90 ≤ lat ∧ lat ≤ 90
  · refine csN (rest := []) (As := [.int (iI lat)]) C0 hH (c_X6_needLatitude l g S lat (by omega)) kw_X6_176 ky_X6_needLatitude ⟨Nat.le_of_ble_eq_true rfl, Nat.le_of_ble_eq_true rfl⟩ ⟨Nat.zero_le _, Nat.zero_le _⟩ rfl hl.1 rfl (Nat.le_of_ble_eq_true rfl) dX6_height_6 (fun H locs hH => ?_)
    refine lv_iload_n zx zb dX6_height_9 rfl (lv_at hl 3 rfl) ?_
    by_cases hc10 : 0 ≤ d ∧ d < 365
    · refine csN (rest := []) (As := [.int (iI d)]) C0 hH (c_X6_needDay l g S d (by omega)) kw_X6_179 ky_X6_needDay ⟨Nat.le_of_ble_eq_true rfl, Nat.le_of_ble_eq_true rfl⟩ ⟨Nat.zero_le _, Nat.zero_le _⟩ rfl hl.1 rfl (Nat.le_of_ble_eq_true rfl) dX6_height_10 (fun H locs hH => ?_)
      refine lv_iload zx zb dX6_height_13 (lv_at hl 4 rfl) ?_
      exact csX (rest := []) (As := [.int (iI h)]) C0 htab hlk hH (x_X6_needHour l g S h (by omega) (by omega) hfl) kw_X6_182 ky_X6_needHour ⟨Nat.le_of_ble_eq_true rfl, Nat.le_of_ble_eq_true rfl⟩ ⟨Nat.le_of_ble_eq_true rfl, Nat.le_of_ble_eq_true rfl⟩ rfl hl.1 rfl (Nat.le_of_ble_eq_true rfl) dX6_height_15
    · exact csX (rest := []) (As := [.int (iI d)]) C0 htab hlk hH (x_X6_needDay l g S d (by omega) (by omega) hfl) kw_X6_179 ky_X6_needDay ⟨Nat.le_of_ble_eq_true rfl, Nat.le_of_ble_eq_true rfl⟩ ⟨Nat.le_of_ble_eq_true rfl, Nat.le_of_ble_eq_true rfl⟩ rfl hl.1 rfl (Nat.le_of_ble_eq_true rfl) dX6_height_10
  · exact csX (rest := []) (As := [.int (iI lat)]) C0 htab hlk hH (x_X6_needLatitude l g S lat (by omega) (by omega) hfl) kw_X6_176 ky_X6_needLatitude ⟨Nat.le_of_ble_eq_true rfl, Nat.le_of_ble_eq_true rfl⟩ ⟨Nat.le_of_ble_eq_true rfl, Nat.le_of_ble_eq_true rfl⟩ rfl hl.1 rfl (Nat.le_of_ble_eq_true rfl) dX6_height_6
set_option maxRecDepth 100000 in
set_option maxHeartbeats 4000000 in
theorem c_X6_isUp (l : Launch) (g : gT) (S : gSt) (f lat d h : Int) (hnf : 0 ≤ S 4 0 ∧ S 4 0 ≤ 8) (hfo : 0 ≤ f ∧ f < S 4 0) (hlat : -90 ≤ lat ∧ lat ≤ 90) (hd : 0 ≤ d ∧ d < 365) (hh : 0 ≤ h ∧ h < 24) (hN : okN (S 5)) (hE : okE (S 5) (S 6)) (hO : okE (S 5) (S 7)) (hC : okC (S 2) (S 3)) : MetG l g yX6_isUp cX6_isUp 5 (some .boolean) 6 143 [.ref (g.1 0), .int (iI f), .int (iI lat), .int (iI d), .int (iI h)] S (some (.int (iI (if upB (S 5) (S 6) (S 7) (S 2) (S 3) f lat (15 * h + d) = true then 1 else 0)))) S := by
  refine bodyG (by decide +kernel) (Nat.le_of_ble_eq_true rfl) ?_
  intro p e s m args below meth c ls C0 hret hlk hl hH
  have zx := C0.1
  have zb := C0.2.1
  have hl : lv_has ls 5 [(0, .ref (g.1 0)), (1, .int (iI f)), (2, .int (iI lat)), (3, .int (iI d)), (4, .int (iI h))] := hl
  obtain ⟨H, hHe⟩ : ∃ H : Heap, H = s.heap := ⟨_, rfl⟩
  rw [show (Hp g S s s.heap []) = Hp g S s H [] by rw [hHe]] at hH
  rw [← hHe]
  refine lv_aload_n zx zb dX6_isUp_0 rfl (lv_at hl 0 rfl) ?_
  refine lv_iload_n zx zb dX6_isUp_1 rfl (lv_at hl 1 rfl) ?_
  refine cvN (rest := []) (As := [.int (iI f)]) (b := g.1 0) C0 hH (c_X6_needFigure l g S f (by omega) (by omega)) kw_X6_94 ky_X6_needFigure ⟨Nat.le_of_ble_eq_true rfl, Nat.le_of_ble_eq_true rfl⟩ ⟨Nat.zero_le _, Nat.zero_le _⟩ 0 rfl rfl rfl hl.1 rfl (Nat.le_of_ble_eq_true rfl) dX6_isUp_2 (fun H locs hH => ?_)
  refine lv_iload_n zx zb dX6_isUp_5 rfl (lv_at hl 2 rfl) ?_
  refine csN (rest := []) (As := [.int (iI lat)]) C0 hH (c_X6_needLatitude l g S lat (by omega)) kw_X6_176 ky_X6_needLatitude ⟨Nat.le_of_ble_eq_true rfl, Nat.le_of_ble_eq_true rfl⟩ ⟨Nat.zero_le _, Nat.zero_le _⟩ rfl hl.1 rfl (Nat.le_of_ble_eq_true rfl) dX6_isUp_6 (fun H locs hH => ?_)
  refine lv_iload_n zx zb dX6_isUp_9 rfl (lv_at hl 3 rfl) ?_
  refine csN (rest := []) (As := [.int (iI d)]) C0 hH (c_X6_needDay l g S d (by omega)) kw_X6_179 ky_X6_needDay ⟨Nat.le_of_ble_eq_true rfl, Nat.le_of_ble_eq_true rfl⟩ ⟨Nat.zero_le _, Nat.zero_le _⟩ rfl hl.1 rfl (Nat.le_of_ble_eq_true rfl) dX6_isUp_10 (fun H locs hH => ?_)
  refine lv_iload zx zb dX6_isUp_13 (lv_at hl 4 rfl) ?_
  refine csN (rest := []) (As := [.int (iI h)]) C0 hH (c_X6_needHour l g S h (by omega)) kw_X6_182 ky_X6_needHour ⟨Nat.le_of_ble_eq_true rfl, Nat.le_of_ble_eq_true rfl⟩ ⟨Nat.zero_le _, Nat.zero_le _⟩ rfl hl.1 rfl (Nat.le_of_ble_eq_true rfl) dX6_isUp_15 (fun H locs hH => ?_)
  refine lv_aload_n zx zb dX6_isUp_18 rfl (lv_at hl 0 rfl) ?_
  refine lv_iload_n zx zb dX6_isUp_19 rfl (lv_at hl 1 rfl) ?_
  refine lv_iload_n zx zb dX6_isUp_20 rfl (lv_at hl 2 rfl) ?_
  refine lv_iload_n zx zb dX6_isUp_21 rfl (lv_at hl 3 rfl) ?_
  refine lv_iload zx zb dX6_isUp_22 (lv_at hl 4 rfl) ?_
  refine csI (rest := [.int (iI lat), .int (iI f), .ref (g.1 0)]) (As := [.int (iI d), .int (iI h)]) C0 hH (c_X6_skyTurn l g S d h) kw_X6_185 ky_X6_skyTurn ⟨Nat.le_of_ble_eq_true rfl, Nat.le_of_ble_eq_true rfl⟩ ⟨Nat.zero_le _, Nat.zero_le _⟩ rfl hl.1 rfl (Nat.le_of_ble_eq_true rfl) dX6_isUp_24 (fun H locs hH => ?_)
  refine cvI (rest := []) (As := [.int (iI f), .int (iI lat), .int (iI (15 * h + d))]) (b := g.1 0) C0 hH (c_X6_figureIsUp l g S f lat (15 * h + d) (by omega) (by omega) (by omega) (hN) (hE) (hO) (hC)) kw_X6_191 ky_X6_figureIsUp ⟨Nat.le_of_ble_eq_true rfl, Nat.le_of_ble_eq_true rfl⟩ ⟨Nat.zero_le _, Nat.zero_le _⟩ 0 rfl rfl rfl hl.1 rfl (Nat.le_of_ble_eq_true rfl) dX6_isUp_27 (fun H locs hH => ?_)
  exact retZ C0 hret hlk hH (by rfl) (by exact bI_b _) (rfl) dX6_isUp_30
set_option maxRecDepth 100000 in
set_option maxHeartbeats 4000000 in
theorem x1_X6_isUp (l : Launch) (g : gT) (S : gSt) (f lat d h : Int) (hnf : 0 ≤ S 4 0 ∧ S 4 0 ≤ 8) (hr_f : -2147483648 ≤ f ∧ f < 2147483648) (hfb : ¬(0 ≤ f ∧ f < S 4 0)) (hfl : l.stackTraces = false) : ThrG l g yX6_isUp cX6_isUp 5 (some .boolean) 7 106 [.ref (g.1 0), .int (iI f), .int (iI lat), .int (iI d), .int (iI h)] S "java/lang/IndexOutOfBoundsException" S := by
  refine bodyX (by decide +kernel) (Nat.le_of_ble_eq_true rfl) ?_
  intro p e s m args below meth c ls C0 htab hlk hl hH
  have zx := C0.1
  have zb := C0.2.1
  have hl : lv_has ls 5 [(0, .ref (g.1 0)), (1, .int (iI f)), (2, .int (iI lat)), (3, .int (iI d)), (4, .int (iI h))] := hl
  obtain ⟨H, hHe⟩ : ∃ H : Heap, H = s.heap := ⟨_, rfl⟩
  rw [show (Hp g S s s.heap []) = Hp g S s H [] by rw [hHe]] at hH
  rw [← hHe]
  refine lv_aload_n zx zb dX6_isUp_0 rfl (lv_at hl 0 rfl) ?_
  refine lv_iload_n zx zb dX6_isUp_1 rfl (lv_at hl 1 rfl) ?_
  exact cvX (rest := []) (As := [.int (iI f)]) (b := g.1 0) C0 htab hlk hH (x_X6_needFigure l g S f (by omega) (by omega) (by omega) hfl) kw_X6_94 ky_X6_needFigure ⟨Nat.le_of_ble_eq_true rfl, Nat.le_of_ble_eq_true rfl⟩ ⟨Nat.le_of_ble_eq_true rfl, Nat.le_of_ble_eq_true rfl⟩ 0 rfl rfl rfl hl.1 rfl (Nat.le_of_ble_eq_true rfl) dX6_isUp_2
set_option maxRecDepth 100000 in
set_option maxHeartbeats 4000000 in
theorem x2_X6_isUp (l : Launch) (g : gT) (S : gSt) (f lat d h : Int) (hnf : 0 ≤ S 4 0 ∧ S 4 0 ≤ 8) (hfo : 0 ≤ f ∧ f < S 4 0) (hr_lat : -2147483648 ≤ lat ∧ lat < 2147483648) (hr_d : -2147483648 ≤ d ∧ d < 2147483648) (hr_h : -2147483648 ≤ h ∧ h < 2147483648) (hbad : ¬((-90 ≤ lat ∧ lat ≤ 90) ∧ (0 ≤ d ∧ d < 365) ∧ (0 ≤ h ∧ h < 24))) (hfl : l.stackTraces = false) : ThrG l g yX6_isUp cX6_isUp 5 (some .boolean) 7 105 [.ref (g.1 0), .int (iI f), .int (iI lat), .int (iI d), .int (iI h)] S "java/lang/IllegalArgumentException" S := by
  refine bodyX (by decide +kernel) (Nat.le_of_ble_eq_true rfl) ?_
  intro p e s m args below meth c ls C0 htab hlk hl hH
  have zx := C0.1
  have zb := C0.2.1
  have hl : lv_has ls 5 [(0, .ref (g.1 0)), (1, .int (iI f)), (2, .int (iI lat)), (3, .int (iI d)), (4, .int (iI h))] := hl
  obtain ⟨H, hHe⟩ : ∃ H : Heap, H = s.heap := ⟨_, rfl⟩
  rw [show (Hp g S s s.heap []) = Hp g S s H [] by rw [hHe]] at hH
  rw [← hHe]
  refine lv_aload_n zx zb dX6_isUp_0 rfl (lv_at hl 0 rfl) ?_
  refine lv_iload_n zx zb dX6_isUp_1 rfl (lv_at hl 1 rfl) ?_
  refine cvN (rest := []) (As := [.int (iI f)]) (b := g.1 0) C0 hH (c_X6_needFigure l g S f (by omega) (by omega)) kw_X6_94 ky_X6_needFigure ⟨Nat.le_of_ble_eq_true rfl, Nat.le_of_ble_eq_true rfl⟩ ⟨Nat.zero_le _, Nat.zero_le _⟩ 0 rfl rfl rfl hl.1 rfl (Nat.le_of_ble_eq_true rfl) dX6_isUp_2 (fun H locs hH => ?_)
  refine lv_iload_n zx zb dX6_isUp_5 rfl (lv_at hl 2 rfl) ?_
  by_cases hc6 : -90 ≤ lat ∧ lat ≤ 90
  · refine csN (rest := []) (As := [.int (iI lat)]) C0 hH (c_X6_needLatitude l g S lat (by omega)) kw_X6_176 ky_X6_needLatitude ⟨Nat.le_of_ble_eq_true rfl, Nat.le_of_ble_eq_true rfl⟩ ⟨Nat.zero_le _, Nat.zero_le _⟩ rfl hl.1 rfl (Nat.le_of_ble_eq_true rfl) dX6_isUp_6 (fun H locs hH => ?_)
    refine lv_iload_n zx zb dX6_isUp_9 rfl (lv_at hl 3 rfl) ?_
    by_cases hc10 : 0 ≤ d ∧ d < 365
    · refine csN (rest := []) (As := [.int (iI d)]) C0 hH (c_X6_needDay l g S d (by omega)) kw_X6_179 ky_X6_needDay ⟨Nat.le_of_ble_eq_true rfl, Nat.le_of_ble_eq_true rfl⟩ ⟨Nat.zero_le _, Nat.zero_le _⟩ rfl hl.1 rfl (Nat.le_of_ble_eq_true rfl) dX6_isUp_10 (fun H locs hH => ?_)
      refine lv_iload zx zb dX6_isUp_13 (lv_at hl 4 rfl) ?_
      exact csX (rest := []) (As := [.int (iI h)]) C0 htab hlk hH (x_X6_needHour l g S h (by omega) (by omega) hfl) kw_X6_182 ky_X6_needHour ⟨Nat.le_of_ble_eq_true rfl, Nat.le_of_ble_eq_true rfl⟩ ⟨Nat.le_of_ble_eq_true rfl, Nat.le_of_ble_eq_true rfl⟩ rfl hl.1 rfl (Nat.le_of_ble_eq_true rfl) dX6_isUp_15
    · exact csX (rest := []) (As := [.int (iI d)]) C0 htab hlk hH (x_X6_needDay l g S d (by omega) (by omega) hfl) kw_X6_179 ky_X6_needDay ⟨Nat.le_of_ble_eq_true rfl, Nat.le_of_ble_eq_true rfl⟩ ⟨Nat.le_of_ble_eq_true rfl, Nat.le_of_ble_eq_true rfl⟩ rfl hl.1 rfl (Nat.le_of_ble_eq_true rfl) dX6_isUp_10
  · exact csX (rest := []) (As := [.int (iI lat)]) C0 htab hlk hH (x_X6_needLatitude l g S lat (by omega) (by omega) hfl) kw_X6_176 ky_X6_needLatitude ⟨Nat.le_of_ble_eq_true rfl, Nat.le_of_ble_eq_true rfl⟩ ⟨Nat.le_of_ble_eq_true rfl, Nat.le_of_ble_eq_true rfl⟩ rfl hl.1 rfl (Nat.le_of_ble_eq_true rfl) dX6_isUp_6
set_option maxRecDepth 100000 in
set_option maxHeartbeats 4000000 in
theorem c_X6_hours (l : Launch) (g : gT) (S : gSt) (f lat d : Int) (hnf : 0 ≤ S 4 0 ∧ S 4 0 ≤ 8) (hfo : 0 ≤ f ∧ f < S 4 0) (hlat : -90 ≤ lat ∧ lat ≤ 90) (hd : 0 ≤ d ∧ d < 365) (hN : okN (S 5)) (hE : okE (S 5) (S 6)) (hO : okE (S 5) (S 7)) (hC : okC (S 2) (S 3)) : MetG l g yX6_hours cX6_hours 6 (some .int) 6 143 [.ref (g.1 0), .int (iI f), .int (iI lat), .int (iI d)] S (some (.int (iI ((dyN (fun h => upB (S 5) (S 6) (S 7) (S 2) (S 3) f lat (15 * h + d)) : Nat) : Int)))) S := by
  refine bodyG (by decide +kernel) (Nat.le_of_ble_eq_true rfl) ?_
  intro p e s m args below meth c ls C0 hret hlk hl hH
  have zx := C0.1
  have zb := C0.2.1
  have hl : lv_has ls 6 [(0, .ref (g.1 0)), (1, .int (iI f)), (2, .int (iI lat)), (3, .int (iI d))] := hl
  have L19 : ∀ (μ : Nat) (i : Int) (k : Nat), (24 - i).toNat = μ → (0 ≤ i ∧ i ≤ 24) → (dyN (fun h => upB (S 5) (S 6) (S 7) (S 2) (S 3) f lat (15 * h + d)) = lpF (dyQ (fun h => upB (S 5) (S 6) (S 7) (S 2) (S 3) f lat (15 * h + d))) (24 - i).toNat i k) → ∀ (H : Heap) (locs : List Loc), Hp g S s H locs → ∀ ls : Array Slot, lv_has ls 6 [(0, .ref (g.1 0)), (1, .int (iI f)), (2, .int (iI lat)), (3, .int (iI d)), (4, .int (iI ((k : Nat) : Int))), (5, .int (iI i))] → W p l e { frames := 6, cells := 0, slots := 0, locals := 143 } s m args below meth c H locs 0 0 (MQ below (RetG g (some (.int (iI ((dyN (fun h => upB (S 5) (S 6) (S 7) (S 2) (S 3) f lat (15 * h + d)) : Nat) : Int)))) S) args s 0 0 (oA g)) (F0 m 19 ls []) := by
    refine lpN (fun μ19 ih19 => ?_)
    intro i k hμ19 hi hR H locs hH ls hl
    refine lv_iload zx zb dX6_hours_19 (lv_at hl 5 rfl) ?_
    refine bi_bip (n := 24) zx zb dX6_hours_21 (by decide) ?_
    refine bq_ge (tgt := 56) zx zb dX6_hours_23 (by decide) ⟨by omega, by omega⟩ ⟨by omega, by omega⟩ (fun zq23 => ?_) (fun zq23 => ?_)
    · refine lv_iload zx zb dX6_hours_56 (lv_at hl 4 rfl) ?_
      exact retI C0 hret hlk hH (by rw [hR, lpF_e zq23]) (rfl) dX6_hours_58
    · refine lv_aload_n zx zb dX6_hours_26 rfl (lv_at hl 0 rfl) ?_
      refine lv_iload_n zx zb dX6_hours_27 rfl (lv_at hl 1 rfl) ?_
      refine lv_iload_n zx zb dX6_hours_28 rfl (lv_at hl 2 rfl) ?_
      refine lv_iload_n zx zb dX6_hours_29 rfl (lv_at hl 3 rfl) ?_
      refine lv_iload zx zb dX6_hours_30 (lv_at hl 5 rfl) ?_
      refine csI (rest := [.int (iI lat), .int (iI f), .ref (g.1 0)]) (As := [.int (iI d), .int (iI i)]) C0 hH (c_X6_skyTurn l g S d i) kw_X6_185 ky_X6_skyTurn ⟨Nat.le_of_ble_eq_true rfl, Nat.le_of_ble_eq_true rfl⟩ ⟨Nat.zero_le _, Nat.zero_le _⟩ rfl hl.1 rfl (Nat.le_of_ble_eq_true rfl) dX6_hours_32 (fun H locs hH => ?_)
      refine cvI (rest := []) (As := [.int (iI f), .int (iI lat), .int (iI (15 * i + d))]) (b := g.1 0) C0 hH (c_X6_figureIsUp l g S f lat (15 * i + d) (by omega) (by omega) (by omega) (hN) (hE) (hO) (hC)) kw_X6_191 ky_X6_figureIsUp ⟨Nat.le_of_ble_eq_true rfl, Nat.le_of_ble_eq_true rfl⟩ ⟨Nat.zero_le _, Nat.zero_le _⟩ 0 rfl rfl rfl hl.1 rfl (Nat.le_of_ble_eq_true rfl) dX6_hours_35 (fun H locs hH => ?_)
      have hb38 := brg (upB (S 5) (S 6) (S 7) (S 2) (S 3) f lat (15 * i + d))
      refine bz_eq (tgt := 50) zx zb dX6_hours_38 (by decide) ⟨by omega, by omega⟩ (fun zq38 => ?_) (fun zq38 => ?_)
      · refine bi_inc (k0 := 5) (n := 1) (lv' := [(5, .int (iI (i + 1))), (0, .ref (g.1 0)), (1, .int (iI f)), (2, .int (iI lat)), (3, .int (iI d)), (4, .int (iI ((k : Nat) : Int)))]) zx zb dX6_hours_50 hl rfl (by decide) rfl (fun ls hl => ?_)
        refine lv_goto (tgt := 19) zx zb dX6_hours_53 (by decide) ?_
        exact ih19 ((24 - (i + 1)).toNat) (by omega) (i + 1) k rfl (by omega) (by first | (rw [hR, lpF_s zq23, show dyQ (fun h => upB (S 5) (S 6) (S 7) (S 2) (S 3) f lat (15 * h + d)) i k = k from dyQ_0 (b0 zq38)]; done) | (rw [hR, lpF_s zq23, show dyQ (fun h => upB (S 5) (S 6) (S 7) (S 2) (S 3) f lat (15 * h + d)) i k = k ||| 2 ^ i.toNat from dyQ_1 (b1 zq38)]; done)) _ _ hH ls (lv_sub hl [1, 2, 3, 4, 5, 0] rfl)
      · refine lv_iload zx zb dX6_hours_41 (lv_at hl 4 rfl) ?_
        refine bi_const (n := 1) zx zb dX6_hours_43 ?_
        refine lv_iload zx zb dX6_hours_44 (lv_at hl 5 rfl) ?_
        refine bi_shl zx zb dX6_hours_46 (by omega) (by omega) ?_
        refine bi_or (a := k) (b := 2 ^ i.toNat) zx zb dX6_hours_47 ?_
        refine lv_istore (lv' := [(4, .int (iI ((k ||| (2 ^ i.toNat) : Nat) : Int))), (0, .ref (g.1 0)), (1, .int (iI f)), (2, .int (iI lat)), (3, .int (iI d)), (5, .int (iI i))]) zx zb dX6_hours_48 hl (by decide) rfl (fun ls hl => ?_)
        refine bi_inc (k0 := 5) (n := 1) (lv' := [(5, .int (iI (i + 1))), (4, .int (iI ((k ||| (2 ^ i.toNat) : Nat) : Int))), (0, .ref (g.1 0)), (1, .int (iI f)), (2, .int (iI lat)), (3, .int (iI d))]) zx zb dX6_hours_50 hl rfl (by decide) rfl (fun ls hl => ?_)
        refine lv_goto (tgt := 19) zx zb dX6_hours_53 (by decide) ?_
        exact ih19 ((24 - (i + 1)).toNat) (by omega) (i + 1) (k ||| (2 ^ i.toNat)) rfl (by omega) (by first | (rw [hR, lpF_s zq23, show dyQ (fun h => upB (S 5) (S 6) (S 7) (S 2) (S 3) f lat (15 * h + d)) i k = k from dyQ_0 (b0 zq38)]; done) | (rw [hR, lpF_s zq23, show dyQ (fun h => upB (S 5) (S 6) (S 7) (S 2) (S 3) f lat (15 * h + d)) i k = k ||| 2 ^ i.toNat from dyQ_1 (b1 zq38)]; done)) _ _ hH ls (lv_sub hl [2, 3, 4, 5, 1, 0] rfl)
  obtain ⟨H, hHe⟩ : ∃ H : Heap, H = s.heap := ⟨_, rfl⟩
  rw [show (Hp g S s s.heap []) = Hp g S s H [] by rw [hHe]] at hH
  rw [← hHe]
  refine lv_aload_n zx zb dX6_hours_0 rfl (lv_at hl 0 rfl) ?_
  refine lv_iload_n zx zb dX6_hours_1 rfl (lv_at hl 1 rfl) ?_
  refine cvN (rest := []) (As := [.int (iI f)]) (b := g.1 0) C0 hH (c_X6_needFigure l g S f (by omega) (by omega)) kw_X6_94 ky_X6_needFigure ⟨Nat.le_of_ble_eq_true rfl, Nat.le_of_ble_eq_true rfl⟩ ⟨Nat.zero_le _, Nat.zero_le _⟩ 0 rfl rfl rfl hl.1 rfl (Nat.le_of_ble_eq_true rfl) dX6_hours_2 (fun H locs hH => ?_)
  refine lv_iload_n zx zb dX6_hours_5 rfl (lv_at hl 2 rfl) ?_
  refine csN (rest := []) (As := [.int (iI lat)]) C0 hH (c_X6_needLatitude l g S lat (by omega)) kw_X6_176 ky_X6_needLatitude ⟨Nat.le_of_ble_eq_true rfl, Nat.le_of_ble_eq_true rfl⟩ ⟨Nat.zero_le _, Nat.zero_le _⟩ rfl hl.1 rfl (Nat.le_of_ble_eq_true rfl) dX6_hours_6 (fun H locs hH => ?_)
  refine lv_iload_n zx zb dX6_hours_9 rfl (lv_at hl 3 rfl) ?_
  refine csN (rest := []) (As := [.int (iI d)]) C0 hH (c_X6_needDay l g S d (by omega)) kw_X6_179 ky_X6_needDay ⟨Nat.le_of_ble_eq_true rfl, Nat.le_of_ble_eq_true rfl⟩ ⟨Nat.zero_le _, Nat.zero_le _⟩ rfl hl.1 rfl (Nat.le_of_ble_eq_true rfl) dX6_hours_10 (fun H locs hH => ?_)
  refine bi_const (n := 0) zx zb dX6_hours_13 ?_
  refine lv_istore (lv' := [(4, .int (iI 0)), (0, .ref (g.1 0)), (1, .int (iI f)), (2, .int (iI lat)), (3, .int (iI d))]) zx zb dX6_hours_14 hl (by decide) rfl (fun ls hl => ?_)
  refine bi_const (n := 0) zx zb dX6_hours_16 ?_
  refine lv_istore (lv' := [(5, .int (iI 0)), (4, .int (iI 0)), (0, .ref (g.1 0)), (1, .int (iI f)), (2, .int (iI lat)), (3, .int (iI d))]) zx zb dX6_hours_17 hl (by decide) rfl (fun ls hl => ?_)
  exact L19 _ 0 0 rfl (by omega) (by unfold dyN; rw [Int.sub_zero]) _ _ hH ls (lv_sub hl [2, 3, 4, 5, 1, 0] rfl)
set_option maxRecDepth 100000 in
set_option maxHeartbeats 4000000 in
theorem x1_X6_hours (l : Launch) (g : gT) (S : gSt) (f lat d : Int) (hnf : 0 ≤ S 4 0 ∧ S 4 0 ≤ 8) (hr_f : -2147483648 ≤ f ∧ f < 2147483648) (hfb : ¬(0 ≤ f ∧ f < S 4 0)) (hfl : l.stackTraces = false) : ThrG l g yX6_hours cX6_hours 6 (some .int) 7 106 [.ref (g.1 0), .int (iI f), .int (iI lat), .int (iI d)] S "java/lang/IndexOutOfBoundsException" S := by
  refine bodyX (by decide +kernel) (Nat.le_of_ble_eq_true rfl) ?_
  intro p e s m args below meth c ls C0 htab hlk hl hH
  have zx := C0.1
  have zb := C0.2.1
  have hl : lv_has ls 6 [(0, .ref (g.1 0)), (1, .int (iI f)), (2, .int (iI lat)), (3, .int (iI d))] := hl
  obtain ⟨H, hHe⟩ : ∃ H : Heap, H = s.heap := ⟨_, rfl⟩
  rw [show (Hp g S s s.heap []) = Hp g S s H [] by rw [hHe]] at hH
  rw [← hHe]
  refine lv_aload_n zx zb dX6_hours_0 rfl (lv_at hl 0 rfl) ?_
  refine lv_iload_n zx zb dX6_hours_1 rfl (lv_at hl 1 rfl) ?_
  exact cvX (rest := []) (As := [.int (iI f)]) (b := g.1 0) C0 htab hlk hH (x_X6_needFigure l g S f (by omega) (by omega) (by omega) hfl) kw_X6_94 ky_X6_needFigure ⟨Nat.le_of_ble_eq_true rfl, Nat.le_of_ble_eq_true rfl⟩ ⟨Nat.le_of_ble_eq_true rfl, Nat.le_of_ble_eq_true rfl⟩ 0 rfl rfl rfl hl.1 rfl (Nat.le_of_ble_eq_true rfl) dX6_hours_2
set_option maxRecDepth 100000 in
set_option maxHeartbeats 4000000 in
theorem x2_X6_hours (l : Launch) (g : gT) (S : gSt) (f lat d : Int) (hnf : 0 ≤ S 4 0 ∧ S 4 0 ≤ 8) (hfo : 0 ≤ f ∧ f < S 4 0) (hr_lat : -2147483648 ≤ lat ∧ lat < 2147483648) (hr_d : -2147483648 ≤ d ∧ d < 2147483648) (hbad : ¬((-90 ≤ lat ∧ lat ≤ 90) ∧ (0 ≤ d ∧ d < 365))) (hfl : l.stackTraces = false) : ThrG l g yX6_hours cX6_hours 6 (some .int) 7 105 [.ref (g.1 0), .int (iI f), .int (iI lat), .int (iI d)] S "java/lang/IllegalArgumentException" S := by
  refine bodyX (by decide +kernel) (Nat.le_of_ble_eq_true rfl) ?_
  intro p e s m args below meth c ls C0 htab hlk hl hH
  have zx := C0.1
  have zb := C0.2.1
  have hl : lv_has ls 6 [(0, .ref (g.1 0)), (1, .int (iI f)), (2, .int (iI lat)), (3, .int (iI d))] := hl
  obtain ⟨H, hHe⟩ : ∃ H : Heap, H = s.heap := ⟨_, rfl⟩
  rw [show (Hp g S s s.heap []) = Hp g S s H [] by rw [hHe]] at hH
  rw [← hHe]
  refine lv_aload_n zx zb dX6_hours_0 rfl (lv_at hl 0 rfl) ?_
  refine lv_iload_n zx zb dX6_hours_1 rfl (lv_at hl 1 rfl) ?_
  refine cvN (rest := []) (As := [.int (iI f)]) (b := g.1 0) C0 hH (c_X6_needFigure l g S f (by omega) (by omega)) kw_X6_94 ky_X6_needFigure ⟨Nat.le_of_ble_eq_true rfl, Nat.le_of_ble_eq_true rfl⟩ ⟨Nat.zero_le _, Nat.zero_le _⟩ 0 rfl rfl rfl hl.1 rfl (Nat.le_of_ble_eq_true rfl) dX6_hours_2 (fun H locs hH => ?_)
  refine lv_iload_n zx zb dX6_hours_5 rfl (lv_at hl 2 rfl) ?_
  by_cases hc6 : -90 ≤ lat ∧ lat ≤ 90
  · refine csN (rest := []) (As := [.int (iI lat)]) C0 hH (c_X6_needLatitude l g S lat (by omega)) kw_X6_176 ky_X6_needLatitude ⟨Nat.le_of_ble_eq_true rfl, Nat.le_of_ble_eq_true rfl⟩ ⟨Nat.zero_le _, Nat.zero_le _⟩ rfl hl.1 rfl (Nat.le_of_ble_eq_true rfl) dX6_hours_6 (fun H locs hH => ?_)
    refine lv_iload_n zx zb dX6_hours_9 rfl (lv_at hl 3 rfl) ?_
    exact csX (rest := []) (As := [.int (iI d)]) C0 htab hlk hH (x_X6_needDay l g S d (by omega) (by omega) hfl) kw_X6_179 ky_X6_needDay ⟨Nat.le_of_ble_eq_true rfl, Nat.le_of_ble_eq_true rfl⟩ ⟨Nat.le_of_ble_eq_true rfl, Nat.le_of_ble_eq_true rfl⟩ rfl hl.1 rfl (Nat.le_of_ble_eq_true rfl) dX6_hours_10
  · exact csX (rest := []) (As := [.int (iI lat)]) C0 htab hlk hH (x_X6_needLatitude l g S lat (by omega) (by omega) hfl) kw_X6_176 ky_X6_needLatitude ⟨Nat.le_of_ble_eq_true rfl, Nat.le_of_ble_eq_true rfl⟩ ⟨Nat.le_of_ble_eq_true rfl, Nat.le_of_ble_eq_true rfl⟩ rfl hl.1 rfl (Nat.le_of_ble_eq_true rfl) dX6_hours_6
set_option maxRecDepth 100000 in
set_option maxHeartbeats 4000000 in
theorem c_X6_hoursByStars (l : Launch) (g : gT) (S : gSt) (f lat d : Int) (hnf : 0 ≤ S 4 0 ∧ S 4 0 ≤ 8) (hfo : 0 ≤ f ∧ f < S 4 0) (hlat : -90 ≤ lat ∧ lat ≤ 90) (hd : 0 ≤ d ∧ d < 365) (hN : okN (S 5)) (hE : okE (S 5) (S 6)) (hO : okE (S 5) (S 7)) (hC : okC (S 2) (S 3)) : MetG l g yX6_hoursByStars cX6_hoursByStars 8 (some .int) 5 118 [.ref (g.1 0), .int (iI f), .int (iI lat), .int (iI d)] S (some (.int (iI ((hbN (S 5) (S 6) (S 7) (S 2) (S 3) f lat d : Nat) : Int)))) S := by
  refine bodyG (by decide +kernel) (Nat.le_of_ble_eq_true rfl) ?_
  intro p e s m args below meth c ls C0 hret hlk hl hH
  have zx := C0.1
  have zb := C0.2.1
  have hl : lv_has ls 8 [(0, .ref (g.1 0)), (1, .int (iI f)), (2, .int (iI lat)), (3, .int (iI d))] := hl
  have L40 : ∀ (μ : Nat) (i : Int) (k : Nat), (S 5 f - i).toNat = μ → (0 ≤ i ∧ i ≤ S 5 f) → (hbN (S 5) (S 6) (S 7) (S 2) (S 3) f lat d = lpF (hbQ (S 5) (S 6) (S 7) (S 2) (S 3) lat d) (S 5 f - i).toNat (10 * f + i) k) → ∀ (H : Heap) (locs : List Loc), Hp g S s H locs → ∀ ls : Array Slot, lv_has ls 8 [(0, .ref (g.1 0)), (1, .int (iI f)), (2, .int (iI lat)), (3, .int (iI d)), (4, .int (iI (S 5 f))), (5, .int (iI ((k : Nat) : Int))), (6, .int (iI i))] → W p l e { frames := 5, cells := 0, slots := 0, locals := 118 } s m args below meth c H locs 0 0 (MQ below (RetG g (some (.int (iI ((hbN (S 5) (S 6) (S 7) (S 2) (S 3) f lat d : Nat) : Int)))) S) args s 0 0 (oA g)) (F0 m 40 ls []) := by
    refine lpN (fun μ40 ih40 => ?_)
    intro i k hμ40 hi hR H locs hH ls hl
    have hn := hN f (by omega) (by omega)
    refine lv_iload zx zb dX6_hoursByStars_40 (lv_at hl 6 rfl) ?_
    refine lv_iload zx zb dX6_hoursByStars_42 (lv_at hl 4 rfl) ?_
    refine bq_ge (tgt := 103) zx zb dX6_hoursByStars_44 (by decide) ⟨by omega, by omega⟩ ⟨by omega, by omega⟩ (fun zq44 => ?_) (fun zq44 => ?_)
    · refine lv_iload zx zb dX6_hoursByStars_103 (lv_at hl 5 rfl) ?_
      exact retI C0 hret hlk hH (by rw [hR, lpF_e2 zq44]) (rfl) dX6_hoursByStars_105
    · have he := hE f i (by omega) (by omega) (by omega) (by omega)
      have ho := hO f i (by omega) (by omega) (by omega) (by omega)
      refine lv_iload_n zx zb dX6_hoursByStars_47 rfl (lv_at hl 1 rfl) ?_
      refine lv_iload zx zb dX6_hoursByStars_48 (lv_at hl 6 rfl) ?_
      refine csI (rest := []) (As := [.int (iI f), .int (iI i)]) C0 hH (c_X5_place l g S f i) kw_X6_128 ky_X5_place ⟨Nat.le_of_ble_eq_true rfl, Nat.le_of_ble_eq_true rfl⟩ ⟨Nat.zero_le _, Nat.zero_le _⟩ rfl hl.1 rfl (Nat.le_of_ble_eq_true rfl) dX6_hoursByStars_50 (fun H locs hH => ?_)
      refine lv_istore (lv' := [(7, .int (iI (10 * f + i))), (0, .ref (g.1 0)), (1, .int (iI f)), (2, .int (iI lat)), (3, .int (iI d)), (4, .int (iI (S 5 f))), (5, .int (iI ((k : Nat) : Int))), (6, .int (iI i))]) zx zb dX6_hoursByStars_53 hl (by decide) rfl (fun ls hl => ?_)
      refine lv_iload zx zb dX6_hoursByStars_55 (lv_at hl 6 rfl) ?_
      refine lv_aload_n zx zb dX6_hoursByStars_57 rfl (lv_at hl 1 rfl) ?_
      refine lv_aload_n zx zb dX6_hoursByStars_58 rfl (lv_at hl 1 rfl) ?_
      refine gf_X6_19 C0 hH dX6_hoursByStars_59 ?_
      refine gf_X6_131 C0 hH dX6_hoursByStars_62 ?_
      refine lv_iload zx zb dX6_hoursByStars_65 (lv_at hl 0 rfl) ?_
      refine al_6 C0 hH (by omega) (by omega) dX6_hoursByStars_67 ?_
      refine lv_iload_n zx zb dX6_hoursByStars_68 rfl (lv_at hl 3 rfl) ?_
      refine lv_iload_n zx zb dX6_hoursByStars_69 rfl (lv_at hl 4 rfl) ?_
      refine cvI (rest := [.int (iI ((k : Nat) : Int))]) (As := [.int (iI (S 6 (10 * f + i))), .int (iI lat), .int (iI d)]) (b := g.1 0) C0 hH (c_X6_hoursOfStar l g S (S 6 (10 * f + i)) lat d (by omega) (by omega) (by omega) (hC)) kw_X6_195 ky_X6_hoursOfStar ⟨Nat.le_of_ble_eq_true rfl, Nat.le_of_ble_eq_true rfl⟩ ⟨Nat.zero_le _, Nat.zero_le _⟩ 0 rfl rfl rfl hl.1 rfl (Nat.le_of_ble_eq_true rfl) dX6_hoursByStars_70 (fun H locs hH => ?_)
      refine bi_and (a := k) (b := hsN (S 2) (S 3) (S 6 (10 * f + i)) lat d) zx zb dX6_hoursByStars_73 ?_
      refine lv_istore (lv' := [(5, .int (iI ((k &&& (hsN (S 2) (S 3) (S 6 (10 * f + i)) lat d) : Nat) : Int))), (7, .int (iI (10 * f + i))), (0, .ref (g.1 0)), (1, .int (iI f)), (2, .int (iI lat)), (3, .int (iI d)), (4, .int (iI (S 5 f))), (6, .int (iI i))]) zx zb dX6_hoursByStars_74 hl (by decide) rfl (fun ls hl => ?_)
      refine lv_iload zx zb dX6_hoursByStars_76 (lv_at hl 0 rfl) ?_
      refine lv_aload_n zx zb dX6_hoursByStars_78 rfl (lv_at hl 2 rfl) ?_
      refine lv_aload_n zx zb dX6_hoursByStars_79 rfl (lv_at hl 2 rfl) ?_
      refine gf_X6_19 C0 hH dX6_hoursByStars_80 ?_
      refine gf_X6_134 C0 hH dX6_hoursByStars_83 ?_
      refine lv_iload zx zb dX6_hoursByStars_86 (lv_at hl 1 rfl) ?_
      refine al_7 C0 hH (by omega) (by omega) dX6_hoursByStars_88 ?_
      refine lv_iload_n zx zb dX6_hoursByStars_89 rfl (lv_at hl 4 rfl) ?_
      refine lv_iload_n zx zb dX6_hoursByStars_90 rfl (lv_at hl 5 rfl) ?_
      refine cvI (rest := [.int (iI ((k &&& (hsN (S 2) (S 3) (S 6 (10 * f + i)) lat d) : Nat) : Int))]) (As := [.int (iI (S 7 (10 * f + i))), .int (iI lat), .int (iI d)]) (b := g.1 0) C0 hH (c_X6_hoursOfStar l g S (S 7 (10 * f + i)) lat d (by omega) (by omega) (by omega) (hC)) kw_X6_195 ky_X6_hoursOfStar ⟨Nat.le_of_ble_eq_true rfl, Nat.le_of_ble_eq_true rfl⟩ ⟨Nat.zero_le _, Nat.zero_le _⟩ 0 rfl rfl rfl hl.1 rfl (Nat.le_of_ble_eq_true rfl) dX6_hoursByStars_91 (fun H locs hH => ?_)
      refine bi_and (a := k &&& (hsN (S 2) (S 3) (S 6 (10 * f + i)) lat d)) (b := hsN (S 2) (S 3) (S 7 (10 * f + i)) lat d) zx zb dX6_hoursByStars_94 ?_
      refine lv_istore (lv' := [(5, .int (iI (((k &&& (hsN (S 2) (S 3) (S 6 (10 * f + i)) lat d)) &&& (hsN (S 2) (S 3) (S 7 (10 * f + i)) lat d) : Nat) : Int))), (7, .int (iI (10 * f + i))), (0, .ref (g.1 0)), (1, .int (iI f)), (2, .int (iI lat)), (3, .int (iI d)), (4, .int (iI (S 5 f))), (6, .int (iI i))]) zx zb dX6_hoursByStars_95 hl (by decide) rfl (fun ls hl => ?_)
      refine bi_inc (k0 := 7) (n := 1) (lv' := [(6, .int (iI (i + 1))), (5, .int (iI (((k &&& (hsN (S 2) (S 3) (S 6 (10 * f + i)) lat d)) &&& (hsN (S 2) (S 3) (S 7 (10 * f + i)) lat d) : Nat) : Int))), (7, .int (iI (10 * f + i))), (0, .ref (g.1 0)), (1, .int (iI f)), (2, .int (iI lat)), (3, .int (iI d)), (4, .int (iI (S 5 f)))]) zx zb dX6_hoursByStars_97 hl rfl (by decide) rfl (fun ls hl => ?_)
      refine lv_goto (tgt := 40) zx zb dX6_hoursByStars_100 (by decide) ?_
      exact ih40 ((S 5 f - (i + 1)).toNat) (by omega) (i + 1) ((k &&& (hsN (S 2) (S 3) (S 6 (10 * f + i)) lat d)) &&& (hsN (S 2) (S 3) (S 7 (10 * f + i)) lat d)) rfl (by omega) (by rw [hR, lpF_s2 zq44, Int.add_assoc]; rfl) _ _ hH ls (lv_sub hl [3, 4, 5, 6, 7, 1, 0] rfl)
  obtain ⟨H, hHe⟩ : ∃ H : Heap, H = s.heap := ⟨_, rfl⟩
  rw [show (Hp g S s s.heap []) = Hp g S s H [] by rw [hHe]] at hH
  rw [← hHe]
  have hn := hN f (by omega) (by omega)
  refine lv_aload_n zx zb dX6_hoursByStars_0 rfl (lv_at hl 0 rfl) ?_
  refine lv_iload_n zx zb dX6_hoursByStars_1 rfl (lv_at hl 1 rfl) ?_
  refine cvN (rest := []) (As := [.int (iI f)]) (b := g.1 0) C0 hH (c_X6_needFigure l g S f (by omega) (by omega)) kw_X6_94 ky_X6_needFigure ⟨Nat.le_of_ble_eq_true rfl, Nat.le_of_ble_eq_true rfl⟩ ⟨Nat.zero_le _, Nat.zero_le _⟩ 0 rfl rfl rfl hl.1 rfl (Nat.le_of_ble_eq_true rfl) dX6_hoursByStars_2 (fun H locs hH => ?_)
  refine lv_iload_n zx zb dX6_hoursByStars_5 rfl (lv_at hl 2 rfl) ?_
  refine csN (rest := []) (As := [.int (iI lat)]) C0 hH (c_X6_needLatitude l g S lat (by omega)) kw_X6_176 ky_X6_needLatitude ⟨Nat.le_of_ble_eq_true rfl, Nat.le_of_ble_eq_true rfl⟩ ⟨Nat.zero_le _, Nat.zero_le _⟩ rfl hl.1 rfl (Nat.le_of_ble_eq_true rfl) dX6_hoursByStars_6 (fun H locs hH => ?_)
  refine lv_iload_n zx zb dX6_hoursByStars_9 rfl (lv_at hl 3 rfl) ?_
  refine csN (rest := []) (As := [.int (iI d)]) C0 hH (c_X6_needDay l g S d (by omega)) kw_X6_179 ky_X6_needDay ⟨Nat.le_of_ble_eq_true rfl, Nat.le_of_ble_eq_true rfl⟩ ⟨Nat.zero_le _, Nat.zero_le _⟩ rfl hl.1 rfl (Nat.le_of_ble_eq_true rfl) dX6_hoursByStars_10 (fun H locs hH => ?_)
  refine lv_aload_n zx zb dX6_hoursByStars_13 rfl (lv_at hl 0 rfl) ?_
  refine gf_X6_19 C0 hH dX6_hoursByStars_14 ?_
  refine gf_X6_102 C0 hH dX6_hoursByStars_17 ?_
  refine lv_iload_n zx zb dX6_hoursByStars_20 rfl (lv_at hl 1 rfl) ?_
  refine al_5 C0 hH (by omega) (by omega) dX6_hoursByStars_21 ?_
  refine lv_istore (lv' := [(4, .int (iI (S 5 f))), (0, .ref (g.1 0)), (1, .int (iI f)), (2, .int (iI lat)), (3, .int (iI d))]) zx zb dX6_hoursByStars_22 hl (by decide) rfl (fun ls hl => ?_)
  refine lv_iload zx zb dX6_hoursByStars_24 (lv_at hl 0 rfl) ?_
  refine bz_ne (tgt := 33) zx zb dX6_hoursByStars_26 (by decide) ⟨by omega, by omega⟩ (fun zq26 => ?_) (fun zq26 => ?_)
  · refine bi_ldc (n := 16777215) zx zb C0.2.2.2.1 (C0.2.2.2.2.1.w (gm 577 (by decide +kernel) rfl)) dX6_hoursByStars_33 ?_
    refine lv_istore (lv' := [(5, .int (iI 16777215)), (4, .int (iI (S 5 f))), (0, .ref (g.1 0)), (1, .int (iI f)), (2, .int (iI lat)), (3, .int (iI d))]) zx zb dX6_hoursByStars_35 hl (by decide) rfl (fun ls hl => ?_)
    refine bi_const (n := 0) zx zb dX6_hoursByStars_37 ?_
    refine lv_istore (lv' := [(6, .int (iI 0)), (5, .int (iI 16777215)), (4, .int (iI (S 5 f))), (0, .ref (g.1 0)), (1, .int (iI f)), (2, .int (iI lat)), (3, .int (iI d))]) zx zb dX6_hoursByStars_38 hl (by decide) rfl (fun ls hl => ?_)
    exact L40 _ 0 16777215 rfl (by omega) (by unfold hbN; first | (rw [if_pos zq26, Int.sub_zero, Int.add_zero]; done) | (rw [if_neg zq26, Int.sub_zero, Int.add_zero]; done)) _ _ hH ls (lv_sub hl [3, 4, 5, 6, 2, 1, 0] rfl)
  · refine bi_const (n := 0) zx zb dX6_hoursByStars_29 ?_
    refine lv_goto (tgt := 35) zx zb dX6_hoursByStars_30 (by decide) ?_
    refine lv_istore (lv' := [(5, .int (iI 0)), (4, .int (iI (S 5 f))), (0, .ref (g.1 0)), (1, .int (iI f)), (2, .int (iI lat)), (3, .int (iI d))]) zx zb dX6_hoursByStars_35 hl (by decide) rfl (fun ls hl => ?_)
    refine bi_const (n := 0) zx zb dX6_hoursByStars_37 ?_
    refine lv_istore (lv' := [(6, .int (iI 0)), (5, .int (iI 0)), (4, .int (iI (S 5 f))), (0, .ref (g.1 0)), (1, .int (iI f)), (2, .int (iI lat)), (3, .int (iI d))]) zx zb dX6_hoursByStars_38 hl (by decide) rfl (fun ls hl => ?_)
    exact L40 _ 0 0 rfl (by omega) (by unfold hbN; first | (rw [if_pos zq26, Int.sub_zero, Int.add_zero]; done) | (rw [if_neg zq26, Int.sub_zero, Int.add_zero]; done)) _ _ hH ls (lv_sub hl [3, 4, 5, 6, 2, 1, 0] rfl)
set_option maxRecDepth 100000 in
set_option maxHeartbeats 4000000 in
theorem x1_X6_hoursByStars (l : Launch) (g : gT) (S : gSt) (f lat d : Int) (hnf : 0 ≤ S 4 0 ∧ S 4 0 ≤ 8) (hr_f : -2147483648 ≤ f ∧ f < 2147483648) (hfb : ¬(0 ≤ f ∧ f < S 4 0)) (hfl : l.stackTraces = false) : ThrG l g yX6_hoursByStars cX6_hoursByStars 8 (some .int) 7 106 [.ref (g.1 0), .int (iI f), .int (iI lat), .int (iI d)] S "java/lang/IndexOutOfBoundsException" S := by
  refine bodyX (by decide +kernel) (Nat.le_of_ble_eq_true rfl) ?_
  intro p e s m args below meth c ls C0 htab hlk hl hH
  have zx := C0.1
  have zb := C0.2.1
  have hl : lv_has ls 8 [(0, .ref (g.1 0)), (1, .int (iI f)), (2, .int (iI lat)), (3, .int (iI d))] := hl
  obtain ⟨H, hHe⟩ : ∃ H : Heap, H = s.heap := ⟨_, rfl⟩
  rw [show (Hp g S s s.heap []) = Hp g S s H [] by rw [hHe]] at hH
  rw [← hHe]
  refine lv_aload_n zx zb dX6_hoursByStars_0 rfl (lv_at hl 0 rfl) ?_
  refine lv_iload_n zx zb dX6_hoursByStars_1 rfl (lv_at hl 1 rfl) ?_
  exact cvX (rest := []) (As := [.int (iI f)]) (b := g.1 0) C0 htab hlk hH (x_X6_needFigure l g S f (by omega) (by omega) (by omega) hfl) kw_X6_94 ky_X6_needFigure ⟨Nat.le_of_ble_eq_true rfl, Nat.le_of_ble_eq_true rfl⟩ ⟨Nat.le_of_ble_eq_true rfl, Nat.le_of_ble_eq_true rfl⟩ 0 rfl rfl rfl hl.1 rfl (Nat.le_of_ble_eq_true rfl) dX6_hoursByStars_2
set_option maxRecDepth 100000 in
set_option maxHeartbeats 4000000 in
theorem x2_X6_hoursByStars (l : Launch) (g : gT) (S : gSt) (f lat d : Int) (hnf : 0 ≤ S 4 0 ∧ S 4 0 ≤ 8) (hfo : 0 ≤ f ∧ f < S 4 0) (hr_lat : -2147483648 ≤ lat ∧ lat < 2147483648) (hr_d : -2147483648 ≤ d ∧ d < 2147483648) (hbad : ¬((-90 ≤ lat ∧ lat ≤ 90) ∧ (0 ≤ d ∧ d < 365))) (hfl : l.stackTraces = false) : ThrG l g yX6_hoursByStars cX6_hoursByStars 8 (some .int) 7 105 [.ref (g.1 0), .int (iI f), .int (iI lat), .int (iI d)] S "java/lang/IllegalArgumentException" S := by
  refine bodyX (by decide +kernel) (Nat.le_of_ble_eq_true rfl) ?_
  intro p e s m args below meth c ls C0 htab hlk hl hH
  have zx := C0.1
  have zb := C0.2.1
  have hl : lv_has ls 8 [(0, .ref (g.1 0)), (1, .int (iI f)), (2, .int (iI lat)), (3, .int (iI d))] := hl
  obtain ⟨H, hHe⟩ : ∃ H : Heap, H = s.heap := ⟨_, rfl⟩
  rw [show (Hp g S s s.heap []) = Hp g S s H [] by rw [hHe]] at hH
  rw [← hHe]
  refine lv_aload_n zx zb dX6_hoursByStars_0 rfl (lv_at hl 0 rfl) ?_
  refine lv_iload_n zx zb dX6_hoursByStars_1 rfl (lv_at hl 1 rfl) ?_
  refine cvN (rest := []) (As := [.int (iI f)]) (b := g.1 0) C0 hH (c_X6_needFigure l g S f (by omega) (by omega)) kw_X6_94 ky_X6_needFigure ⟨Nat.le_of_ble_eq_true rfl, Nat.le_of_ble_eq_true rfl⟩ ⟨Nat.zero_le _, Nat.zero_le _⟩ 0 rfl rfl rfl hl.1 rfl (Nat.le_of_ble_eq_true rfl) dX6_hoursByStars_2 (fun H locs hH => ?_)
  refine lv_iload_n zx zb dX6_hoursByStars_5 rfl (lv_at hl 2 rfl) ?_
  by_cases hc6 : -90 ≤ lat ∧ lat ≤ 90
  · refine csN (rest := []) (As := [.int (iI lat)]) C0 hH (c_X6_needLatitude l g S lat (by omega)) kw_X6_176 ky_X6_needLatitude ⟨Nat.le_of_ble_eq_true rfl, Nat.le_of_ble_eq_true rfl⟩ ⟨Nat.zero_le _, Nat.zero_le _⟩ rfl hl.1 rfl (Nat.le_of_ble_eq_true rfl) dX6_hoursByStars_6 (fun H locs hH => ?_)
    refine lv_iload_n zx zb dX6_hoursByStars_9 rfl (lv_at hl 3 rfl) ?_
    exact csX (rest := []) (As := [.int (iI d)]) C0 htab hlk hH (x_X6_needDay l g S d (by omega) (by omega) hfl) kw_X6_179 ky_X6_needDay ⟨Nat.le_of_ble_eq_true rfl, Nat.le_of_ble_eq_true rfl⟩ ⟨Nat.le_of_ble_eq_true rfl, Nat.le_of_ble_eq_true rfl⟩ rfl hl.1 rfl (Nat.le_of_ble_eq_true rfl) dX6_hoursByStars_10
  · exact csX (rest := []) (As := [.int (iI lat)]) C0 htab hlk hH (x_X6_needLatitude l g S lat (by omega) (by omega) hfl) kw_X6_176 ky_X6_needLatitude ⟨Nat.le_of_ble_eq_true rfl, Nat.le_of_ble_eq_true rfl⟩ ⟨Nat.le_of_ble_eq_true rfl, Nat.le_of_ble_eq_true rfl⟩ rfl hl.1 rfl (Nat.le_of_ble_eq_true rfl) dX6_hoursByStars_6
set_option maxRecDepth 100000 in
set_option maxHeartbeats 4000000 in
theorem c_X6_bestHour (l : Launch) (g : gT) (S : gSt) (f lat d : Int) (hnf : 0 ≤ S 4 0 ∧ S 4 0 ≤ 8) (hfo : 0 ≤ f ∧ f < S 4 0) (hlat : -90 ≤ lat ∧ lat ≤ 90) (hd : 0 ≤ d ∧ d < 365) (hN : okN (S 5)) (hE : okE (S 5) (S 6)) (hO : okE (S 5) (S 7)) (hC : okC (S 2) (S 3)) : MetG l g yX6_bestHour cX6_bestHour 8 (some .int) 5 120 [.ref (g.1 0), .int (iI f), .int (iI lat), .int (iI d)] S (some (.int (iI (bhI (fun h => lwI (S 5) (S 6) (S 7) (S 2) (S 3) f lat (15 * h + d)))))) S := by
  refine bodyG (by decide +kernel) (Nat.le_of_ble_eq_true rfl) ?_
  intro p e s m args below meth c ls C0 hret hlk hl hH
  have zx := C0.1
  have zb := C0.2.1
  have hl : lv_has ls 8 [(0, .ref (g.1 0)), (1, .int (iI f)), (2, .int (iI lat)), (3, .int (iI d))] := hl
  have L22 : ∀ (μ : Nat) (i : Int) (a : Int) (b : Int), (24 - i).toNat = μ → (0 ≤ i ∧ i ≤ 24) → (-3000 ≤ b ∧ b ≤ 3000) → (bhI (fun h => lwI (S 5) (S 6) (S 7) (S 2) (S 3) f lat (15 * h + d)) = (lpF (bhQ (fun h => lwI (S 5) (S 6) (S 7) (S 2) (S 3) f lat (15 * h + d))) (24 - i).toNat i (a, b)).1) → ∀ (H : Heap) (locs : List Loc), Hp g S s H locs → ∀ ls : Array Slot, lv_has ls 8 [(0, .ref (g.1 0)), (1, .int (iI f)), (2, .int (iI lat)), (3, .int (iI d)), (4, .int (iI a)), (5, .int (iI b)), (6, .int (iI i))] → W p l e { frames := 5, cells := 0, slots := 0, locals := 120 } s m args below meth c H locs 0 0 (MQ below (RetG g (some (.int (iI (bhI (fun h => lwI (S 5) (S 6) (S 7) (S 2) (S 3) f lat (15 * h + d)))))) S) args s 0 0 (oA g)) (F0 m 22 ls []) := by
    refine lpN (fun μ22 ih22 => ?_)
    intro i a b hμ22 hi hb2 hR H locs hH ls hl
    refine lv_iload zx zb dX6_bestHour_22 (lv_at hl 6 rfl) ?_
    refine bi_bip (n := 24) zx zb dX6_bestHour_24 (by decide) ?_
    refine bq_ge (tgt := 64) zx zb dX6_bestHour_26 (by decide) ⟨by omega, by omega⟩ ⟨by omega, by omega⟩ (fun zq26 => ?_) (fun zq26 => ?_)
    · refine lv_iload zx zb dX6_bestHour_64 (lv_at hl 4 rfl) ?_
      exact retI C0 hret hlk hH (by rw [hR, lpF_e zq26]) (rfl) dX6_bestHour_66
    · refine lv_aload_n zx zb dX6_bestHour_29 rfl (lv_at hl 0 rfl) ?_
      refine lv_iload_n zx zb dX6_bestHour_30 rfl (lv_at hl 1 rfl) ?_
      refine lv_iload_n zx zb dX6_bestHour_31 rfl (lv_at hl 2 rfl) ?_
      refine lv_iload_n zx zb dX6_bestHour_32 rfl (lv_at hl 3 rfl) ?_
      refine lv_iload zx zb dX6_bestHour_33 (lv_at hl 6 rfl) ?_
      refine csI (rest := [.int (iI lat), .int (iI f), .ref (g.1 0)]) (As := [.int (iI d), .int (iI i)]) C0 hH (c_X6_skyTurn l g S d i) kw_X6_185 ky_X6_skyTurn ⟨Nat.le_of_ble_eq_true rfl, Nat.le_of_ble_eq_true rfl⟩ ⟨Nat.zero_le _, Nat.zero_le _⟩ rfl hl.1 rfl (Nat.le_of_ble_eq_true rfl) dX6_bestHour_35 (fun H locs hH => ?_)
      refine cvI (rest := []) (As := [.int (iI f), .int (iI lat), .int (iI (15 * i + d))]) (b := g.1 0) C0 hH (c_X6_lowestHeight l g S f lat (15 * i + d) (by omega) (by omega) (by omega) (hN) (hE) (hO) (hC)) kw_X6_198 ky_X6_lowestHeight ⟨Nat.le_of_ble_eq_true rfl, Nat.le_of_ble_eq_true rfl⟩ ⟨Nat.zero_le _, Nat.zero_le _⟩ 0 rfl rfl rfl hl.1 rfl (Nat.le_of_ble_eq_true rfl) dX6_bestHour_38 (fun H locs hH => ?_)
      have hlb := lwI_b (S 5) (S 6) (S 7) (S 2) (S 3) f lat (15 * i + d)
      refine lv_istore (lv' := [(7, .int (iI (lwI (S 5) (S 6) (S 7) (S 2) (S 3) f lat (15 * i + d)))), (0, .ref (g.1 0)), (1, .int (iI f)), (2, .int (iI lat)), (3, .int (iI d)), (4, .int (iI a)), (5, .int (iI b)), (6, .int (iI i))]) zx zb dX6_bestHour_41 hl (by decide) rfl (fun ls hl => ?_)
      refine lv_iload zx zb dX6_bestHour_43 (lv_at hl 0 rfl) ?_
      refine lv_iload zx zb dX6_bestHour_45 (lv_at hl 6 rfl) ?_
      refine bq_le (tgt := 58) zx zb dX6_bestHour_47 (by decide) ⟨by omega, by omega⟩ ⟨by omega, by omega⟩ (fun zq47 => ?_) (fun zq47 => ?_)
      · refine bi_inc (k0 := 7) (n := 1) (lv' := [(6, .int (iI (i + 1))), (7, .int (iI (lwI (S 5) (S 6) (S 7) (S 2) (S 3) f lat (15 * i + d)))), (0, .ref (g.1 0)), (1, .int (iI f)), (2, .int (iI lat)), (3, .int (iI d)), (4, .int (iI a)), (5, .int (iI b))]) zx zb dX6_bestHour_58 hl rfl (by decide) rfl (fun ls hl => ?_)
        refine lv_goto (tgt := 22) zx zb dX6_bestHour_61 (by decide) ?_
        exact ih22 ((24 - (i + 1)).toNat) (by omega) (i + 1) a b rfl (by omega) (by omega) (by rw [hR, lpF_s zq26]; unfold bhQ; first | (rw [if_pos zq47]; done) | (rw [if_neg (Int.not_lt.mpr zq47)]; done)) _ _ hH ls (lv_sub hl [2, 3, 4, 5, 6, 7, 0] rfl)
      · refine lv_iload zx zb dX6_bestHour_50 (lv_at hl 7 rfl) ?_
        refine lv_istore (lv' := [(4, .int (iI i)), (7, .int (iI (lwI (S 5) (S 6) (S 7) (S 2) (S 3) f lat (15 * i + d)))), (0, .ref (g.1 0)), (1, .int (iI f)), (2, .int (iI lat)), (3, .int (iI d)), (5, .int (iI b)), (6, .int (iI i))]) zx zb dX6_bestHour_52 hl (by decide) rfl (fun ls hl => ?_)
        refine lv_iload zx zb dX6_bestHour_54 (lv_at hl 1 rfl) ?_
        refine lv_istore (lv' := [(5, .int (iI (lwI (S 5) (S 6) (S 7) (S 2) (S 3) f lat (15 * i + d)))), (4, .int (iI i)), (7, .int (iI (lwI (S 5) (S 6) (S 7) (S 2) (S 3) f lat (15 * i + d)))), (0, .ref (g.1 0)), (1, .int (iI f)), (2, .int (iI lat)), (3, .int (iI d)), (6, .int (iI i))]) zx zb dX6_bestHour_56 hl (by decide) rfl (fun ls hl => ?_)
        refine bi_inc (k0 := 7) (n := 1) (lv' := [(6, .int (iI (i + 1))), (5, .int (iI (lwI (S 5) (S 6) (S 7) (S 2) (S 3) f lat (15 * i + d)))), (4, .int (iI i)), (7, .int (iI (lwI (S 5) (S 6) (S 7) (S 2) (S 3) f lat (15 * i + d)))), (0, .ref (g.1 0)), (1, .int (iI f)), (2, .int (iI lat)), (3, .int (iI d))]) zx zb dX6_bestHour_58 hl rfl (by decide) rfl (fun ls hl => ?_)
        refine lv_goto (tgt := 22) zx zb dX6_bestHour_61 (by decide) ?_
        exact ih22 ((24 - (i + 1)).toNat) (by omega) (i + 1) i (lwI (S 5) (S 6) (S 7) (S 2) (S 3) f lat (15 * i + d)) rfl (by omega) (by omega) (by rw [hR, lpF_s zq26]; unfold bhQ; first | (rw [if_pos zq47]; done) | (rw [if_neg (Int.not_lt.mpr zq47)]; done)) _ _ hH ls (lv_sub hl [4, 5, 6, 7, 2, 1, 0] rfl)
  obtain ⟨H, hHe⟩ : ∃ H : Heap, H = s.heap := ⟨_, rfl⟩
  rw [show (Hp g S s s.heap []) = Hp g S s H [] by rw [hHe]] at hH
  rw [← hHe]
  refine lv_aload_n zx zb dX6_bestHour_0 rfl (lv_at hl 0 rfl) ?_
  refine lv_iload_n zx zb dX6_bestHour_1 rfl (lv_at hl 1 rfl) ?_
  refine cvN (rest := []) (As := [.int (iI f)]) (b := g.1 0) C0 hH (c_X6_needFigure l g S f (by omega) (by omega)) kw_X6_94 ky_X6_needFigure ⟨Nat.le_of_ble_eq_true rfl, Nat.le_of_ble_eq_true rfl⟩ ⟨Nat.zero_le _, Nat.zero_le _⟩ 0 rfl rfl rfl hl.1 rfl (Nat.le_of_ble_eq_true rfl) dX6_bestHour_2 (fun H locs hH => ?_)
  refine lv_iload_n zx zb dX6_bestHour_5 rfl (lv_at hl 2 rfl) ?_
  refine csN (rest := []) (As := [.int (iI lat)]) C0 hH (c_X6_needLatitude l g S lat (by omega)) kw_X6_176 ky_X6_needLatitude ⟨Nat.le_of_ble_eq_true rfl, Nat.le_of_ble_eq_true rfl⟩ ⟨Nat.zero_le _, Nat.zero_le _⟩ rfl hl.1 rfl (Nat.le_of_ble_eq_true rfl) dX6_bestHour_6 (fun H locs hH => ?_)
  refine lv_iload_n zx zb dX6_bestHour_9 rfl (lv_at hl 3 rfl) ?_
  refine csN (rest := []) (As := [.int (iI d)]) C0 hH (c_X6_needDay l g S d (by omega)) kw_X6_179 ky_X6_needDay ⟨Nat.le_of_ble_eq_true rfl, Nat.le_of_ble_eq_true rfl⟩ ⟨Nat.zero_le _, Nat.zero_le _⟩ rfl hl.1 rfl (Nat.le_of_ble_eq_true rfl) dX6_bestHour_10 (fun H locs hH => ?_)
  refine bi_const (n := (-1)) zx zb dX6_bestHour_13 ?_
  refine lv_istore (lv' := [(4, .int (iI (-1))), (0, .ref (g.1 0)), (1, .int (iI f)), (2, .int (iI lat)), (3, .int (iI d))]) zx zb dX6_bestHour_14 hl (by decide) rfl (fun ls hl => ?_)
  refine bi_const (n := 0) zx zb dX6_bestHour_16 ?_
  refine lv_istore (lv' := [(5, .int (iI 0)), (4, .int (iI (-1))), (0, .ref (g.1 0)), (1, .int (iI f)), (2, .int (iI lat)), (3, .int (iI d))]) zx zb dX6_bestHour_17 hl (by decide) rfl (fun ls hl => ?_)
  refine bi_const (n := 0) zx zb dX6_bestHour_19 ?_
  refine lv_istore (lv' := [(6, .int (iI 0)), (5, .int (iI 0)), (4, .int (iI (-1))), (0, .ref (g.1 0)), (1, .int (iI f)), (2, .int (iI lat)), (3, .int (iI d))]) zx zb dX6_bestHour_20 hl (by decide) rfl (fun ls hl => ?_)
  exact L22 _ 0 (-1) 0 rfl (by omega) (by omega) (by unfold bhI; rw [Int.sub_zero]) _ _ hH ls (lv_sub hl [3, 4, 5, 6, 2, 1, 0] rfl)
set_option maxRecDepth 100000 in
set_option maxHeartbeats 4000000 in
theorem x1_X6_bestHour (l : Launch) (g : gT) (S : gSt) (f lat d : Int) (hnf : 0 ≤ S 4 0 ∧ S 4 0 ≤ 8) (hr_f : -2147483648 ≤ f ∧ f < 2147483648) (hfb : ¬(0 ≤ f ∧ f < S 4 0)) (hfl : l.stackTraces = false) : ThrG l g yX6_bestHour cX6_bestHour 8 (some .int) 7 106 [.ref (g.1 0), .int (iI f), .int (iI lat), .int (iI d)] S "java/lang/IndexOutOfBoundsException" S := by
  refine bodyX (by decide +kernel) (Nat.le_of_ble_eq_true rfl) ?_
  intro p e s m args below meth c ls C0 htab hlk hl hH
  have zx := C0.1
  have zb := C0.2.1
  have hl : lv_has ls 8 [(0, .ref (g.1 0)), (1, .int (iI f)), (2, .int (iI lat)), (3, .int (iI d))] := hl
  obtain ⟨H, hHe⟩ : ∃ H : Heap, H = s.heap := ⟨_, rfl⟩
  rw [show (Hp g S s s.heap []) = Hp g S s H [] by rw [hHe]] at hH
  rw [← hHe]
  refine lv_aload_n zx zb dX6_bestHour_0 rfl (lv_at hl 0 rfl) ?_
  refine lv_iload_n zx zb dX6_bestHour_1 rfl (lv_at hl 1 rfl) ?_
  exact cvX (rest := []) (As := [.int (iI f)]) (b := g.1 0) C0 htab hlk hH (x_X6_needFigure l g S f (by omega) (by omega) (by omega) hfl) kw_X6_94 ky_X6_needFigure ⟨Nat.le_of_ble_eq_true rfl, Nat.le_of_ble_eq_true rfl⟩ ⟨Nat.le_of_ble_eq_true rfl, Nat.le_of_ble_eq_true rfl⟩ 0 rfl rfl rfl hl.1 rfl (Nat.le_of_ble_eq_true rfl) dX6_bestHour_2
set_option maxRecDepth 100000 in
set_option maxHeartbeats 4000000 in
theorem x2_X6_bestHour (l : Launch) (g : gT) (S : gSt) (f lat d : Int) (hnf : 0 ≤ S 4 0 ∧ S 4 0 ≤ 8) (hfo : 0 ≤ f ∧ f < S 4 0) (hr_lat : -2147483648 ≤ lat ∧ lat < 2147483648) (hr_d : -2147483648 ≤ d ∧ d < 2147483648) (hbad : ¬((-90 ≤ lat ∧ lat ≤ 90) ∧ (0 ≤ d ∧ d < 365))) (hfl : l.stackTraces = false) : ThrG l g yX6_bestHour cX6_bestHour 8 (some .int) 7 105 [.ref (g.1 0), .int (iI f), .int (iI lat), .int (iI d)] S "java/lang/IllegalArgumentException" S := by
  refine bodyX (by decide +kernel) (Nat.le_of_ble_eq_true rfl) ?_
  intro p e s m args below meth c ls C0 htab hlk hl hH
  have zx := C0.1
  have zb := C0.2.1
  have hl : lv_has ls 8 [(0, .ref (g.1 0)), (1, .int (iI f)), (2, .int (iI lat)), (3, .int (iI d))] := hl
  obtain ⟨H, hHe⟩ : ∃ H : Heap, H = s.heap := ⟨_, rfl⟩
  rw [show (Hp g S s s.heap []) = Hp g S s H [] by rw [hHe]] at hH
  rw [← hHe]
  refine lv_aload_n zx zb dX6_bestHour_0 rfl (lv_at hl 0 rfl) ?_
  refine lv_iload_n zx zb dX6_bestHour_1 rfl (lv_at hl 1 rfl) ?_
  refine cvN (rest := []) (As := [.int (iI f)]) (b := g.1 0) C0 hH (c_X6_needFigure l g S f (by omega) (by omega)) kw_X6_94 ky_X6_needFigure ⟨Nat.le_of_ble_eq_true rfl, Nat.le_of_ble_eq_true rfl⟩ ⟨Nat.zero_le _, Nat.zero_le _⟩ 0 rfl rfl rfl hl.1 rfl (Nat.le_of_ble_eq_true rfl) dX6_bestHour_2 (fun H locs hH => ?_)
  refine lv_iload_n zx zb dX6_bestHour_5 rfl (lv_at hl 2 rfl) ?_
  by_cases hc6 : -90 ≤ lat ∧ lat ≤ 90
  · refine csN (rest := []) (As := [.int (iI lat)]) C0 hH (c_X6_needLatitude l g S lat (by omega)) kw_X6_176 ky_X6_needLatitude ⟨Nat.le_of_ble_eq_true rfl, Nat.le_of_ble_eq_true rfl⟩ ⟨Nat.zero_le _, Nat.zero_le _⟩ rfl hl.1 rfl (Nat.le_of_ble_eq_true rfl) dX6_bestHour_6 (fun H locs hH => ?_)
    refine lv_iload_n zx zb dX6_bestHour_9 rfl (lv_at hl 3 rfl) ?_
    exact csX (rest := []) (As := [.int (iI d)]) C0 htab hlk hH (x_X6_needDay l g S d (by omega) (by omega) hfl) kw_X6_179 ky_X6_needDay ⟨Nat.le_of_ble_eq_true rfl, Nat.le_of_ble_eq_true rfl⟩ ⟨Nat.le_of_ble_eq_true rfl, Nat.le_of_ble_eq_true rfl⟩ rfl hl.1 rfl (Nat.le_of_ble_eq_true rfl) dX6_bestHour_10
  · exact csX (rest := []) (As := [.int (iI lat)]) C0 htab hlk hH (x_X6_needLatitude l g S lat (by omega) (by omega) hfl) kw_X6_176 ky_X6_needLatitude ⟨Nat.le_of_ble_eq_true rfl, Nat.le_of_ble_eq_true rfl⟩ ⟨Nat.le_of_ble_eq_true rfl, Nat.le_of_ble_eq_true rfl⟩ rfl hl.1 rfl (Nat.le_of_ble_eq_true rfl) dX6_bestHour_6
set_option maxRecDepth 100000 in
set_option maxHeartbeats 4000000 in
theorem c_X6_plan (l : Launch) (g : gT) (S : gSt) (f lat d h : Int) (hnf : 0 ≤ S 4 0 ∧ S 4 0 ≤ 8) (hfo : 0 ≤ f ∧ f < S 4 0) (hlat : -90 ≤ lat ∧ lat ≤ 90) (hd : 0 ≤ d ∧ d < 365) (hh : 0 ≤ h ∧ h < 24) (hN : okN (S 5)) (hE : okE (S 5) (S 6)) (hO : okE (S 5) (S 7)) (hC : okC (S 2) (S 3)) (hG : okG (S 11)) (hsc : 0 ≤ S 12 0 ∧ S 12 0 ≤ 12) (hup : upB (S 5) (S 6) (S 7) (S 2) (S 3) f lat (15 * h + d) = true) (hnm : S 11 f ≠ -1) (hs12 : S 12 0 < 12) : MetG l g yX6_plan cX6_plan 7 (some .int) 6 143 [.ref (g.1 0), .int (iI f), .int (iI lat), .int (iI d), .int (iI h)] S (some (.int (iI (S 12 0)))) (apS S f (S 11 f) lat (15 * h + d)) := by
  refine bodyG (by decide +kernel) (Nat.le_of_ble_eq_true rfl) ?_
  intro p e s m args below meth c ls C0 hret hlk hl hH
  have zx := C0.1
  have zb := C0.2.1
  have hl : lv_has ls 7 [(0, .ref (g.1 0)), (1, .int (iI f)), (2, .int (iI lat)), (3, .int (iI d)), (4, .int (iI h))] := hl
  obtain ⟨H, hHe⟩ : ∃ H : Heap, H = s.heap := ⟨_, rfl⟩
  rw [show (Hp g S s s.heap []) = Hp g S s H [] by rw [hHe]] at hH
  rw [← hHe]
  refine lv_aload_n zx zb dX6_plan_0 rfl (lv_at hl 0 rfl) ?_
  refine lv_iload_n zx zb dX6_plan_1 rfl (lv_at hl 1 rfl) ?_
  refine cvN (rest := []) (As := [.int (iI f)]) (b := g.1 0) C0 hH (c_X6_needFigure l g S f (by omega) (by omega)) kw_X6_94 ky_X6_needFigure ⟨Nat.le_of_ble_eq_true rfl, Nat.le_of_ble_eq_true rfl⟩ ⟨Nat.zero_le _, Nat.zero_le _⟩ 0 rfl rfl rfl hl.1 rfl (Nat.le_of_ble_eq_true rfl) dX6_plan_2 (fun H locs hH => ?_)
  refine lv_iload_n zx zb dX6_plan_5 rfl (lv_at hl 2 rfl) ?_
  refine csN (rest := []) (As := [.int (iI lat)]) C0 hH (c_X6_needLatitude l g S lat (by omega)) kw_X6_176 ky_X6_needLatitude ⟨Nat.le_of_ble_eq_true rfl, Nat.le_of_ble_eq_true rfl⟩ ⟨Nat.zero_le _, Nat.zero_le _⟩ rfl hl.1 rfl (Nat.le_of_ble_eq_true rfl) dX6_plan_6 (fun H locs hH => ?_)
  refine lv_iload_n zx zb dX6_plan_9 rfl (lv_at hl 3 rfl) ?_
  refine csN (rest := []) (As := [.int (iI d)]) C0 hH (c_X6_needDay l g S d (by omega)) kw_X6_179 ky_X6_needDay ⟨Nat.le_of_ble_eq_true rfl, Nat.le_of_ble_eq_true rfl⟩ ⟨Nat.zero_le _, Nat.zero_le _⟩ rfl hl.1 rfl (Nat.le_of_ble_eq_true rfl) dX6_plan_10 (fun H locs hH => ?_)
  refine lv_iload zx zb dX6_plan_13 (lv_at hl 4 rfl) ?_
  refine csN (rest := []) (As := [.int (iI h)]) C0 hH (c_X6_needHour l g S h (by omega)) kw_X6_182 ky_X6_needHour ⟨Nat.le_of_ble_eq_true rfl, Nat.le_of_ble_eq_true rfl⟩ ⟨Nat.zero_le _, Nat.zero_le _⟩ rfl hl.1 rfl (Nat.le_of_ble_eq_true rfl) dX6_plan_15 (fun H locs hH => ?_)
  refine lv_iload_n zx zb dX6_plan_18 rfl (lv_at hl 3 rfl) ?_
  refine lv_iload zx zb dX6_plan_19 (lv_at hl 4 rfl) ?_
  refine csI (rest := []) (As := [.int (iI d), .int (iI h)]) C0 hH (c_X6_skyTurn l g S d h) kw_X6_185 ky_X6_skyTurn ⟨Nat.le_of_ble_eq_true rfl, Nat.le_of_ble_eq_true rfl⟩ ⟨Nat.zero_le _, Nat.zero_le _⟩ rfl hl.1 rfl (Nat.le_of_ble_eq_true rfl) dX6_plan_21 (fun H locs hH => ?_)
  refine lv_istore (lv' := [(5, .int (iI (15 * h + d))), (0, .ref (g.1 0)), (1, .int (iI f)), (2, .int (iI lat)), (3, .int (iI d)), (4, .int (iI h))]) zx zb dX6_plan_24 hl (by decide) rfl (fun ls hl => ?_)
  refine lv_aload_n zx zb dX6_plan_26 rfl (lv_at hl 1 rfl) ?_
  refine lv_iload_n zx zb dX6_plan_27 rfl (lv_at hl 2 rfl) ?_
  refine lv_iload_n zx zb dX6_plan_28 rfl (lv_at hl 3 rfl) ?_
  refine lv_iload zx zb dX6_plan_29 (lv_at hl 0 rfl) ?_
  refine cvI (rest := []) (As := [.int (iI f), .int (iI lat), .int (iI (15 * h + d))]) (b := g.1 0) C0 hH (c_X6_figureIsUp l g S f lat (15 * h + d) (by omega) (by omega) (by omega) (hN) (hE) (hO) (hC)) kw_X6_191 ky_X6_figureIsUp ⟨Nat.le_of_ble_eq_true rfl, Nat.le_of_ble_eq_true rfl⟩ ⟨Nat.zero_le _, Nat.zero_le _⟩ 0 rfl rfl rfl hl.1 rfl (Nat.le_of_ble_eq_true rfl) dX6_plan_31 (fun H locs hH => ?_)
  rw [hup]
  refine bz_ne (tgt := 47) zx zb dX6_plan_34 (by decide) ⟨by omega, by omega⟩ (fun zq34 => ?_) (fun zq34 => ?_)
  · have hg := hG f (by omega) (by omega)
    refine lv_aload_n zx zb dX6_plan_47 rfl (lv_at hl 1 rfl) ?_
    refine gf_X6_26 C0 hH dX6_plan_48 ?_
    refine gf_X6_173 C0 hH dX6_plan_51 ?_
    refine lv_iload_n zx zb dX6_plan_54 rfl (lv_at hl 2 rfl) ?_
    refine al_11 C0 hH (by omega) (by omega) dX6_plan_55 ?_
    refine lv_istore (lv' := [(6, .int (iI (S 11 f))), (5, .int (iI (15 * h + d))), (0, .ref (g.1 0)), (1, .int (iI f)), (2, .int (iI lat)), (3, .int (iI d)), (4, .int (iI h))]) zx zb dX6_plan_56 hl (by decide) rfl (fun ls hl => ?_)
    refine lv_iload zx zb dX6_plan_58 (lv_at hl 0 rfl) ?_
    refine bi_const (n := (-1)) zx zb dX6_plan_60 ?_
    refine bq_ne (tgt := 74) zx zb dX6_plan_61 (by decide) ⟨by omega, by omega⟩ ⟨by omega, by omega⟩ (fun zq61 => ?_) (fun zq61 => ?_)
    · refine lv_aload_n zx zb dX6_plan_74 rfl (lv_at hl 2 rfl) ?_
      refine gf_X6_33 C0 hH dX6_plan_75 ?_
      refine gf_X6_205 C0 hH dX6_plan_78 ?_
      refine bi_bip (n := 12) zx zb dX6_plan_81 (by decide) ?_
      refine bq_lt (tgt := 96) zx zb dX6_plan_83 (by decide) ⟨by omega, by omega⟩ ⟨by omega, by omega⟩ (fun zq83 => ?_) (fun zq83 => ?_)
      · refine lv_aload_n zx zb dX6_plan_96 rfl (lv_at hl 2 rfl) ?_
        refine gf_X6_33 C0 hH dX6_plan_97 ?_
        refine lv_iload_n zx zb dX6_plan_100 rfl (lv_at hl 3 rfl) ?_
        refine lv_iload zx zb dX6_plan_101 (lv_at hl 0 rfl) ?_
        refine lv_iload_n zx zb dX6_plan_103 rfl (lv_at hl 4 rfl) ?_
        refine lv_iload zx zb dX6_plan_104 (lv_at hl 1 rfl) ?_
        refine cvI (rest := []) (As := [.int (iI f), .int (iI (S 11 f)), .int (iI lat), .int (iI (15 * h + d))]) (b := g.1 12) C0 hH (c_X4_append l g S f (S 11 f) lat (15 * h + d) (by omega)) kw_X6_210 ky_X4_append ⟨Nat.le_of_ble_eq_true rfl, Nat.le_of_ble_eq_true rfl⟩ ⟨Nat.zero_le _, Nat.zero_le _⟩ 12 rfl rfl rfl hl.1 rfl (Nat.le_of_ble_eq_true rfl) dX6_plan_106 (fun H locs hH => ?_)
        exact retI C0 hret hlk hH (by rfl) (rfl) dX6_plan_109
      · exact absurd zq83 (by omega)
    · exact absurd zq61 hnm
  · exact absurd zq34 (by decide)
set_option maxRecDepth 100000 in
set_option maxHeartbeats 4000000 in
theorem x1_X6_plan (l : Launch) (g : gT) (S : gSt) (f lat d h : Int) (hnf : 0 ≤ S 4 0 ∧ S 4 0 ≤ 8) (hr_f : -2147483648 ≤ f ∧ f < 2147483648) (hfb : ¬(0 ≤ f ∧ f < S 4 0)) (hfl : l.stackTraces = false) : ThrG l g yX6_plan cX6_plan 7 (some .int) 7 106 [.ref (g.1 0), .int (iI f), .int (iI lat), .int (iI d), .int (iI h)] S "java/lang/IndexOutOfBoundsException" S := by
  refine bodyX (by decide +kernel) (Nat.le_of_ble_eq_true rfl) ?_
  intro p e s m args below meth c ls C0 htab hlk hl hH
  have zx := C0.1
  have zb := C0.2.1
  have hl : lv_has ls 7 [(0, .ref (g.1 0)), (1, .int (iI f)), (2, .int (iI lat)), (3, .int (iI d)), (4, .int (iI h))] := hl
  obtain ⟨H, hHe⟩ : ∃ H : Heap, H = s.heap := ⟨_, rfl⟩
  rw [show (Hp g S s s.heap []) = Hp g S s H [] by rw [hHe]] at hH
  rw [← hHe]
  refine lv_aload_n zx zb dX6_plan_0 rfl (lv_at hl 0 rfl) ?_
  refine lv_iload_n zx zb dX6_plan_1 rfl (lv_at hl 1 rfl) ?_
  exact cvX (rest := []) (As := [.int (iI f)]) (b := g.1 0) C0 htab hlk hH (x_X6_needFigure l g S f (by omega) (by omega) (by omega) hfl) kw_X6_94 ky_X6_needFigure ⟨Nat.le_of_ble_eq_true rfl, Nat.le_of_ble_eq_true rfl⟩ ⟨Nat.le_of_ble_eq_true rfl, Nat.le_of_ble_eq_true rfl⟩ 0 rfl rfl rfl hl.1 rfl (Nat.le_of_ble_eq_true rfl) dX6_plan_2
set_option maxRecDepth 100000 in
set_option maxHeartbeats 4000000 in
theorem x2_X6_plan (l : Launch) (g : gT) (S : gSt) (f lat d h : Int) (hnf : 0 ≤ S 4 0 ∧ S 4 0 ≤ 8) (hfo : 0 ≤ f ∧ f < S 4 0) (hr_lat : -2147483648 ≤ lat ∧ lat < 2147483648) (hr_d : -2147483648 ≤ d ∧ d < 2147483648) (hr_h : -2147483648 ≤ h ∧ h < 2147483648) (hbad : ¬((-90 ≤ lat ∧ lat ≤ 90) ∧ (0 ≤ d ∧ d < 365) ∧ (0 ≤ h ∧ h < 24))) (hfl : l.stackTraces = false) : ThrG l g yX6_plan cX6_plan 7 (some .int) 7 105 [.ref (g.1 0), .int (iI f), .int (iI lat), .int (iI d), .int (iI h)] S "java/lang/IllegalArgumentException" S := by
  refine bodyX (by decide +kernel) (Nat.le_of_ble_eq_true rfl) ?_
  intro p e s m args below meth c ls C0 htab hlk hl hH
  have zx := C0.1
  have zb := C0.2.1
  have hl : lv_has ls 7 [(0, .ref (g.1 0)), (1, .int (iI f)), (2, .int (iI lat)), (3, .int (iI d)), (4, .int (iI h))] := hl
  obtain ⟨H, hHe⟩ : ∃ H : Heap, H = s.heap := ⟨_, rfl⟩
  rw [show (Hp g S s s.heap []) = Hp g S s H [] by rw [hHe]] at hH
  rw [← hHe]
  refine lv_aload_n zx zb dX6_plan_0 rfl (lv_at hl 0 rfl) ?_
  refine lv_iload_n zx zb dX6_plan_1 rfl (lv_at hl 1 rfl) ?_
  refine cvN (rest := []) (As := [.int (iI f)]) (b := g.1 0) C0 hH (c_X6_needFigure l g S f (by omega) (by omega)) kw_X6_94 ky_X6_needFigure ⟨Nat.le_of_ble_eq_true rfl, Nat.le_of_ble_eq_true rfl⟩ ⟨Nat.zero_le _, Nat.zero_le _⟩ 0 rfl rfl rfl hl.1 rfl (Nat.le_of_ble_eq_true rfl) dX6_plan_2 (fun H locs hH => ?_)
  refine lv_iload_n zx zb dX6_plan_5 rfl (lv_at hl 2 rfl) ?_
  by_cases hc6 : -90 ≤ lat ∧ lat ≤ 90
  · refine csN (rest := []) (As := [.int (iI lat)]) C0 hH (c_X6_needLatitude l g S lat (by omega)) kw_X6_176 ky_X6_needLatitude ⟨Nat.le_of_ble_eq_true rfl, Nat.le_of_ble_eq_true rfl⟩ ⟨Nat.zero_le _, Nat.zero_le _⟩ rfl hl.1 rfl (Nat.le_of_ble_eq_true rfl) dX6_plan_6 (fun H locs hH => ?_)
    refine lv_iload_n zx zb dX6_plan_9 rfl (lv_at hl 3 rfl) ?_
    by_cases hc10 : 0 ≤ d ∧ d < 365
    · refine csN (rest := []) (As := [.int (iI d)]) C0 hH (c_X6_needDay l g S d (by omega)) kw_X6_179 ky_X6_needDay ⟨Nat.le_of_ble_eq_true rfl, Nat.le_of_ble_eq_true rfl⟩ ⟨Nat.zero_le _, Nat.zero_le _⟩ rfl hl.1 rfl (Nat.le_of_ble_eq_true rfl) dX6_plan_10 (fun H locs hH => ?_)
      refine lv_iload zx zb dX6_plan_13 (lv_at hl 4 rfl) ?_
      exact csX (rest := []) (As := [.int (iI h)]) C0 htab hlk hH (x_X6_needHour l g S h (by omega) (by omega) hfl) kw_X6_182 ky_X6_needHour ⟨Nat.le_of_ble_eq_true rfl, Nat.le_of_ble_eq_true rfl⟩ ⟨Nat.le_of_ble_eq_true rfl, Nat.le_of_ble_eq_true rfl⟩ rfl hl.1 rfl (Nat.le_of_ble_eq_true rfl) dX6_plan_15
    · exact csX (rest := []) (As := [.int (iI d)]) C0 htab hlk hH (x_X6_needDay l g S d (by omega) (by omega) hfl) kw_X6_179 ky_X6_needDay ⟨Nat.le_of_ble_eq_true rfl, Nat.le_of_ble_eq_true rfl⟩ ⟨Nat.le_of_ble_eq_true rfl, Nat.le_of_ble_eq_true rfl⟩ rfl hl.1 rfl (Nat.le_of_ble_eq_true rfl) dX6_plan_10
  · exact csX (rest := []) (As := [.int (iI lat)]) C0 htab hlk hH (x_X6_needLatitude l g S lat (by omega) (by omega) hfl) kw_X6_176 ky_X6_needLatitude ⟨Nat.le_of_ble_eq_true rfl, Nat.le_of_ble_eq_true rfl⟩ ⟨Nat.le_of_ble_eq_true rfl, Nat.le_of_ble_eq_true rfl⟩ rfl hl.1 rfl (Nat.le_of_ble_eq_true rfl) dX6_plan_6
set_option maxRecDepth 100000 in
set_option maxHeartbeats 4000000 in
theorem x3_X6_plan (l : Launch) (g : gT) (S : gSt) (f lat d h : Int) (hnf : 0 ≤ S 4 0 ∧ S 4 0 ≤ 8) (hfo : 0 ≤ f ∧ f < S 4 0) (hlat : -90 ≤ lat ∧ lat ≤ 90) (hd : 0 ≤ d ∧ d < 365) (hh : 0 ≤ h ∧ h < 24) (hN : okN (S 5)) (hE : okE (S 5) (S 6)) (hO : okE (S 5) (S 7)) (hC : okC (S 2) (S 3)) (hG : okG (S 11)) (hsc : 0 ≤ S 12 0 ∧ S 12 0 ≤ 12) (hbad : ¬(upB (S 5) (S 6) (S 7) (S 2) (S 3) f lat (15 * h + d) = true ∧ S 11 f ≠ -1 ∧ S 12 0 < 12)) (hfl : l.stackTraces = false) : ThrG l g yX6_plan cX6_plan 7 (some .int) 6 143 [.ref (g.1 0), .int (iI f), .int (iI lat), .int (iI d), .int (iI h)] S "java/lang/IllegalStateException" S := by
  refine bodyX (by decide +kernel) (Nat.le_of_ble_eq_true rfl) ?_
  intro p e s m args below meth c ls C0 htab hlk hl hH
  have zx := C0.1
  have zb := C0.2.1
  have hl : lv_has ls 7 [(0, .ref (g.1 0)), (1, .int (iI f)), (2, .int (iI lat)), (3, .int (iI d)), (4, .int (iI h))] := hl
  obtain ⟨H, hHe⟩ : ∃ H : Heap, H = s.heap := ⟨_, rfl⟩
  rw [show (Hp g S s s.heap []) = Hp g S s H [] by rw [hHe]] at hH
  rw [← hHe]
  refine lv_aload_n zx zb dX6_plan_0 rfl (lv_at hl 0 rfl) ?_
  refine lv_iload_n zx zb dX6_plan_1 rfl (lv_at hl 1 rfl) ?_
  refine cvN (rest := []) (As := [.int (iI f)]) (b := g.1 0) C0 hH (c_X6_needFigure l g S f (by omega) (by omega)) kw_X6_94 ky_X6_needFigure ⟨Nat.le_of_ble_eq_true rfl, Nat.le_of_ble_eq_true rfl⟩ ⟨Nat.zero_le _, Nat.zero_le _⟩ 0 rfl rfl rfl hl.1 rfl (Nat.le_of_ble_eq_true rfl) dX6_plan_2 (fun H locs hH => ?_)
  refine lv_iload_n zx zb dX6_plan_5 rfl (lv_at hl 2 rfl) ?_
  refine csN (rest := []) (As := [.int (iI lat)]) C0 hH (c_X6_needLatitude l g S lat (by omega)) kw_X6_176 ky_X6_needLatitude ⟨Nat.le_of_ble_eq_true rfl, Nat.le_of_ble_eq_true rfl⟩ ⟨Nat.zero_le _, Nat.zero_le _⟩ rfl hl.1 rfl (Nat.le_of_ble_eq_true rfl) dX6_plan_6 (fun H locs hH => ?_)
  refine lv_iload_n zx zb dX6_plan_9 rfl (lv_at hl 3 rfl) ?_
  refine csN (rest := []) (As := [.int (iI d)]) C0 hH (c_X6_needDay l g S d (by omega)) kw_X6_179 ky_X6_needDay ⟨Nat.le_of_ble_eq_true rfl, Nat.le_of_ble_eq_true rfl⟩ ⟨Nat.zero_le _, Nat.zero_le _⟩ rfl hl.1 rfl (Nat.le_of_ble_eq_true rfl) dX6_plan_10 (fun H locs hH => ?_)
  refine lv_iload zx zb dX6_plan_13 (lv_at hl 4 rfl) ?_
  refine csN (rest := []) (As := [.int (iI h)]) C0 hH (c_X6_needHour l g S h (by omega)) kw_X6_182 ky_X6_needHour ⟨Nat.le_of_ble_eq_true rfl, Nat.le_of_ble_eq_true rfl⟩ ⟨Nat.zero_le _, Nat.zero_le _⟩ rfl hl.1 rfl (Nat.le_of_ble_eq_true rfl) dX6_plan_15 (fun H locs hH => ?_)
  refine lv_iload_n zx zb dX6_plan_18 rfl (lv_at hl 3 rfl) ?_
  refine lv_iload zx zb dX6_plan_19 (lv_at hl 4 rfl) ?_
  refine csI (rest := []) (As := [.int (iI d), .int (iI h)]) C0 hH (c_X6_skyTurn l g S d h) kw_X6_185 ky_X6_skyTurn ⟨Nat.le_of_ble_eq_true rfl, Nat.le_of_ble_eq_true rfl⟩ ⟨Nat.zero_le _, Nat.zero_le _⟩ rfl hl.1 rfl (Nat.le_of_ble_eq_true rfl) dX6_plan_21 (fun H locs hH => ?_)
  refine lv_istore (lv' := [(5, .int (iI (15 * h + d))), (0, .ref (g.1 0)), (1, .int (iI f)), (2, .int (iI lat)), (3, .int (iI d)), (4, .int (iI h))]) zx zb dX6_plan_24 hl (by decide) rfl (fun ls hl => ?_)
  refine lv_aload_n zx zb dX6_plan_26 rfl (lv_at hl 1 rfl) ?_
  refine lv_iload_n zx zb dX6_plan_27 rfl (lv_at hl 2 rfl) ?_
  refine lv_iload_n zx zb dX6_plan_28 rfl (lv_at hl 3 rfl) ?_
  refine lv_iload zx zb dX6_plan_29 (lv_at hl 0 rfl) ?_
  refine cvI (rest := []) (As := [.int (iI f), .int (iI lat), .int (iI (15 * h + d))]) (b := g.1 0) C0 hH (c_X6_figureIsUp l g S f lat (15 * h + d) (by omega) (by omega) (by omega) (hN) (hE) (hO) (hC)) kw_X6_191 ky_X6_figureIsUp ⟨Nat.le_of_ble_eq_true rfl, Nat.le_of_ble_eq_true rfl⟩ ⟨Nat.zero_le _, Nat.zero_le _⟩ 0 rfl rfl rfl hl.1 rfl (Nat.le_of_ble_eq_true rfl) dX6_plan_31 (fun H locs hH => ?_)
  have hb34 := brg (upB (S 5) (S 6) (S 7) (S 2) (S 3) f lat (15 * h + d))
  refine bz_ne (tgt := 47) zx zb dX6_plan_34 (by decide) ⟨by omega, by omega⟩ (fun zq34 => ?_) (fun zq34 => ?_)
  · have hg := hG f (by omega) (by omega)
    refine lv_aload_n zx zb dX6_plan_47 rfl (lv_at hl 1 rfl) ?_
    refine gf_X6_26 C0 hH dX6_plan_48 ?_
    refine gf_X6_173 C0 hH dX6_plan_51 ?_
    refine lv_iload_n zx zb dX6_plan_54 rfl (lv_at hl 2 rfl) ?_
    refine al_11 C0 hH (by omega) (by omega) dX6_plan_55 ?_
    refine lv_istore (lv' := [(6, .int (iI (S 11 f))), (5, .int (iI (15 * h + d))), (0, .ref (g.1 0)), (1, .int (iI f)), (2, .int (iI lat)), (3, .int (iI d)), (4, .int (iI h))]) zx zb dX6_plan_56 hl (by decide) rfl (fun ls hl => ?_)
    refine lv_iload zx zb dX6_plan_58 (lv_at hl 0 rfl) ?_
    refine bi_const (n := (-1)) zx zb dX6_plan_60 ?_
    refine bq_ne (tgt := 74) zx zb dX6_plan_61 (by decide) ⟨by omega, by omega⟩ ⟨by omega, by omega⟩ (fun zq61 => ?_) (fun zq61 => ?_)
    · refine lv_aload_n zx zb dX6_plan_74 rfl (lv_at hl 2 rfl) ?_
      refine gf_X6_33 C0 hH dX6_plan_75 ?_
      refine gf_X6_205 C0 hH dX6_plan_78 ?_
      refine bi_bip (n := 12) zx zb dX6_plan_81 (by decide) ?_
      refine bq_lt (tgt := 96) zx zb dX6_plan_83 (by decide) ⟨by omega, by omega⟩ ⟨by omega, by omega⟩ (fun zq83 => ?_) (fun zq83 => ?_)
      · exact absurd ⟨b1 zq34, zq61, zq83⟩ hbad
      · exact thG (text := "there are 12 shows") (names := ["java/lang/RuntimeException", "java/lang/Exception"]) hfl C0 htab hlk hH rfl (by decide +kernel) (by decide +kernel) (gm 259 (by decide +kernel) rfl) (gm 30 (by decide +kernel) rfl) (List.mem_of_getElem? (i := 551) (by decide +kernel)) (atS_ISE C0.2.2.2.2.1) gdS_ISE hl.1 dX6_plan_86 dX6_plan_89 dX6_plan_90 dX6_plan_92 dX6_plan_95 (by decide) (Nat.le_of_ble_eq_true rfl) (by decide) (by decide)
    · exact thG (text := "the figure has no name") (names := ["java/lang/RuntimeException", "java/lang/Exception"]) hfl C0 htab hlk hH rfl (by decide +kernel) (by decide +kernel) (gm 259 (by decide +kernel) rfl) (gm 30 (by decide +kernel) rfl) (List.mem_of_getElem? (i := 550) (by decide +kernel)) (atS_ISE C0.2.2.2.2.1) gdS_ISE hl.1 dX6_plan_64 dX6_plan_67 dX6_plan_68 dX6_plan_70 dX6_plan_73 (by decide) (Nat.le_of_ble_eq_true rfl) (by decide) (by decide)
  · exact thG (text := "the figure is not up then") (names := ["java/lang/RuntimeException", "java/lang/Exception"]) hfl C0 htab hlk hH rfl (by decide +kernel) (by decide +kernel) (gm 259 (by decide +kernel) rfl) (gm 30 (by decide +kernel) rfl) (List.mem_of_getElem? (i := 549) (by decide +kernel)) (atS_ISE C0.2.2.2.2.1) gdS_ISE hl.1 dX6_plan_37 dX6_plan_40 dX6_plan_41 dX6_plan_43 dX6_plan_46 (by decide) (Nat.le_of_ble_eq_true rfl) (by decide) (by decide)
set_option maxRecDepth 100000 in
set_option maxHeartbeats 4000000 in
theorem c_X6_isWrong (l : Launch) (g : gT) (S : gSt) (i : Int) (hsc : 0 ≤ S 12 0 ∧ S 12 0 ≤ 12) (hio : 0 ≤ i ∧ i < S 12 0) (hN : okN (S 5)) (hE : okE (S 5) (S 6)) (hO : okE (S 5) (S 7)) (hC : okC (S 2) (S 3)) (hG : okG (S 11)) (hP : okP (S 13) (S 14) (S 15) (S 16)) : MetG l g yX6_isWrong cX6_isWrong 2 (some .boolean) 6 142 [.ref (g.1 0), .int (iI i)] S (some (.int (iI (if swB S i = true then 1 else 0)))) S := by
  refine bodyG (by decide +kernel) (Nat.le_of_ble_eq_true rfl) ?_
  intro p e s m args below meth c ls C0 hret hlk hl hH
  have zx := C0.1
  have zb := C0.2.1
  have hl : lv_has ls 2 [(0, .ref (g.1 0)), (1, .int (iI i))] := hl
  obtain ⟨H, hHe⟩ : ∃ H : Heap, H = s.heap := ⟨_, rfl⟩
  rw [show (Hp g S s s.heap []) = Hp g S s H [] by rw [hHe]] at hH
  rw [← hHe]
  refine lv_iload_n zx zb dX6_isWrong_0 rfl (lv_at hl 1 rfl) ?_
  refine bz_lt (tgt := 15) zx zb dX6_isWrong_1 (by decide) ⟨by omega, by omega⟩ (fun zq1 => ?_) (fun zq1 => ?_)
  · exact absurd zq1 (by omega)
  · refine lv_iload_n zx zb dX6_isWrong_4 rfl (lv_at hl 1 rfl) ?_
    refine lv_aload_n zx zb dX6_isWrong_5 rfl (lv_at hl 0 rfl) ?_
    refine gf_X6_33 C0 hH dX6_isWrong_6 ?_
    refine gf_X6_205 C0 hH dX6_isWrong_9 ?_
    refine bq_lt (tgt := 25) zx zb dX6_isWrong_12 (by decide) ⟨by omega, by omega⟩ ⟨by omega, by omega⟩ (fun zq12 => ?_) (fun zq12 => ?_)
    · refine lv_aload_n zx zb dX6_isWrong_25 rfl (lv_at hl 0 rfl) ?_
      refine lv_iload_n zx zb dX6_isWrong_26 rfl (lv_at hl 1 rfl) ?_
      refine cvI (rest := []) (As := [.int (iI i)]) (b := g.1 0) C0 hH (c_X6_showIsWrong l g S i (by omega) (hN) (hE) (hO) (hC) (hG) (hP)) kw_X6_215 ky_X6_showIsWrong ⟨Nat.le_of_ble_eq_true rfl, Nat.le_of_ble_eq_true rfl⟩ ⟨Nat.zero_le _, Nat.zero_le _⟩ 0 rfl rfl rfl hl.1 rfl (Nat.le_of_ble_eq_true rfl) dX6_isWrong_27 (fun H locs hH => ?_)
      exact retZ C0 hret hlk hH (by rfl) (by exact bI_b _) (rfl) dX6_isWrong_30
    · exact absurd zq12 (by omega)
set_option maxRecDepth 100000 in
set_option maxHeartbeats 4000000 in
theorem x1_X6_isWrong (l : Launch) (g : gT) (S : gSt) (i : Int) (hsc : 0 ≤ S 12 0 ∧ S 12 0 ≤ 12) (hr_i : -2147483648 ≤ i ∧ i < 2147483648) (hbad : ¬(0 ≤ i ∧ i < S 12 0)) (hfl : l.stackTraces = false) : ThrG l g yX6_isWrong cX6_isWrong 2 (some .boolean) 6 85 [.ref (g.1 0), .int (iI i)] S "java/lang/IndexOutOfBoundsException" S := by
  refine bodyX (by decide +kernel) (Nat.le_of_ble_eq_true rfl) ?_
  intro p e s m args below meth c ls C0 htab hlk hl hH
  have zx := C0.1
  have zb := C0.2.1
  have hl : lv_has ls 2 [(0, .ref (g.1 0)), (1, .int (iI i))] := hl
  obtain ⟨H, hHe⟩ : ∃ H : Heap, H = s.heap := ⟨_, rfl⟩
  rw [show (Hp g S s s.heap []) = Hp g S s H [] by rw [hHe]] at hH
  rw [← hHe]
  refine lv_iload_n zx zb dX6_isWrong_0 rfl (lv_at hl 1 rfl) ?_
  refine bz_lt (tgt := 15) zx zb dX6_isWrong_1 (by decide) ⟨by omega, by omega⟩ (fun zq1 => ?_) (fun zq1 => ?_)
  · exact thG (text := "no such show") (names := ["java/lang/RuntimeException", "java/lang/Exception"]) hfl C0 htab hlk hH rfl (by decide +kernel) (by decide +kernel) (gm 291 (by decide +kernel) rfl) (gm 31 (by decide +kernel) rfl) (List.mem_of_getElem? (i := 495) (by decide +kernel)) (atS_IOE C0.2.2.2.2.1) gdS_IOE hl.1 dX6_isWrong_15 dX6_isWrong_18 dX6_isWrong_19 dX6_isWrong_21 dX6_isWrong_24 (by decide) (Nat.le_of_ble_eq_true rfl) (by decide) (by decide)
  · refine lv_iload_n zx zb dX6_isWrong_4 rfl (lv_at hl 1 rfl) ?_
    refine lv_aload_n zx zb dX6_isWrong_5 rfl (lv_at hl 0 rfl) ?_
    refine gf_X6_33 C0 hH dX6_isWrong_6 ?_
    refine gf_X6_205 C0 hH dX6_isWrong_9 ?_
    refine bq_lt (tgt := 25) zx zb dX6_isWrong_12 (by decide) ⟨by omega, by omega⟩ ⟨by omega, by omega⟩ (fun zq12 => ?_) (fun zq12 => ?_)
    · exact absurd zq12 (by omega)
    · exact thG (text := "no such show") (names := ["java/lang/RuntimeException", "java/lang/Exception"]) hfl C0 htab hlk hH rfl (by decide +kernel) (by decide +kernel) (gm 291 (by decide +kernel) rfl) (gm 31 (by decide +kernel) rfl) (List.mem_of_getElem? (i := 495) (by decide +kernel)) (atS_IOE C0.2.2.2.2.1) gdS_IOE hl.1 dX6_isWrong_15 dX6_isWrong_18 dX6_isWrong_19 dX6_isWrong_21 dX6_isWrong_24 (by decide) (Nat.le_of_ble_eq_true rfl) (by decide) (by decide)
set_option maxRecDepth 100000 in
set_option maxHeartbeats 4000000 in
theorem c_X6_wrong (l : Launch) (g : gT) (S : gSt) (hN : okN (S 5)) (hE : okE (S 5) (S 6)) (hO : okE (S 5) (S 7)) (hC : okC (S 2) (S 3)) (hG : okG (S 11)) (hP : okP (S 13) (S 14) (S 15) (S 16)) (hsc : 0 ≤ S 12 0 ∧ S 12 0 ≤ 12) : MetG l g yX6_wrong cX6_wrong 1 (some .int) 7 164 [.ref (g.1 0)] S (some (.int (iI (wrI S)))) S := by
  refine bodyG (by decide +kernel) (Nat.le_of_ble_eq_true rfl) ?_
  intro p e s m args below meth c ls C0 hret hlk hl hH
  have zx := C0.1
  have zb := C0.2.1
  have hl : lv_has ls 1 [(0, .ref (g.1 0))] := hl
  obtain ⟨H, hHe⟩ : ∃ H : Heap, H = s.heap := ⟨_, rfl⟩
  rw [show (Hp g S s s.heap []) = Hp g S s H [] by rw [hHe]] at hH
  rw [← hHe]
  refine lv_aload_n zx zb dX6_wrong_0 rfl (lv_at hl 0 rfl) ?_
  refine cvI (rest := []) (As := []) (b := g.1 0) C0 hH (c_X6_countWrongShows l g S (hN) (hE) (hO) (hC) (hG) (hP) (by omega)) kw_X6_82 ky_X6_countWrongShows ⟨Nat.le_of_ble_eq_true rfl, Nat.le_of_ble_eq_true rfl⟩ ⟨Nat.zero_le _, Nat.zero_le _⟩ 0 rfl rfl rfl hl.1 rfl (Nat.le_of_ble_eq_true rfl) dX6_wrong_1 (fun H locs hH => ?_)
  exact retI C0 hret hlk hH (by rfl) (rfl) dX6_wrong_4
