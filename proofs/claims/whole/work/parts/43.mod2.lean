set_option maxRecDepth 100000 in
set_option maxHeartbeats 4000000 in
theorem c_X7_side (l : Launch) (g : gT) (S : gSt) (a b y : Int) (ha : 0 ≤ a ∧ a < 24) (hb9 : 0 ≤ b ∧ b < 24) (hc9 : 0 ≤ y ∧ y < 24) (hC : okC (S 24) (S 25)) : MetG l g yX7_side cX7_side 5 (some .int) 0 0 [.ref (g.1 23), .int (iI a), .int (iI b), .int (iI y)] S (some (.int (iI (siI (S 24) (S 25) a b y)))) S := by
  refine bodyG (by decide +kernel) (Nat.le_of_ble_eq_true rfl) ?_
  intro p e s m args below meth c ls C0 hret hlk hl hH
  have zx := C0.1
  have zb := C0.2.1
  have hl : lv_has ls 5 [(0, .ref (g.1 23)), (1, .int (iI a)), (2, .int (iI b)), (3, .int (iI y))] := hl
  obtain ⟨H, hHe⟩ : ∃ H : Heap, H = s.heap := ⟨_, rfl⟩
  rw [show (Hp g S s s.heap []) = Hp g S s H [] by rw [hHe]] at hH
  rw [← hHe]
  have ca := hC a ha.1 ha.2
  have cb := hC b hb9.1 hb9.2
  have cc1 := hC y hc9.1 hc9.2
  have m1 := mul_b (a := S 24 b - S 24 a) (b := S 25 y - S 25 a) (A := 360) (B := 180) (by omega) (by omega) (by decide) (by decide)
  have m2 := mul_b (a := S 25 b - S 25 a) (b := S 24 y - S 24 a) (A := 180) (B := 360) (by omega) (by omega) (by decide) (by decide)
  refine lv_aload_n zx zb dX7_side_0 rfl (lv_at hl 0 rfl) ?_
  refine gf_X7_7 C0 hH dX7_side_1 ?_
  refine lv_iload_n zx zb dX7_side_4 rfl (lv_at hl 2 rfl) ?_
  refine al_24 C0 hH (by omega) (by omega) dX7_side_5 ?_
  refine lv_aload_n zx zb dX7_side_6 rfl (lv_at hl 0 rfl) ?_
  refine gf_X7_7 C0 hH dX7_side_7 ?_
  refine lv_iload_n zx zb dX7_side_10 rfl (lv_at hl 1 rfl) ?_
  refine al_24 C0 hH (by omega) (by omega) dX7_side_11 ?_
  refine bi_sub zx zb dX7_side_12 ?_
  refine lv_aload_n zx zb dX7_side_13 rfl (lv_at hl 0 rfl) ?_
  refine gf_X7_13 C0 hH dX7_side_14 ?_
  refine lv_iload_n zx zb dX7_side_17 rfl (lv_at hl 3 rfl) ?_
  refine al_25 C0 hH (by omega) (by omega) dX7_side_18 ?_
  refine lv_aload_n zx zb dX7_side_19 rfl (lv_at hl 0 rfl) ?_
  refine gf_X7_13 C0 hH dX7_side_20 ?_
  refine lv_iload_n zx zb dX7_side_23 rfl (lv_at hl 1 rfl) ?_
  refine al_25 C0 hH (by omega) (by omega) dX7_side_24 ?_
  refine bi_sub zx zb dX7_side_25 ?_
  refine bi_mul zx zb dX7_side_26 ?_
  refine lv_aload_n zx zb dX7_side_27 rfl (lv_at hl 0 rfl) ?_
  refine gf_X7_13 C0 hH dX7_side_28 ?_
  refine lv_iload_n zx zb dX7_side_31 rfl (lv_at hl 2 rfl) ?_
  refine al_25 C0 hH (by omega) (by omega) dX7_side_32 ?_
  refine lv_aload_n zx zb dX7_side_33 rfl (lv_at hl 0 rfl) ?_
  refine gf_X7_13 C0 hH dX7_side_34 ?_
  refine lv_iload_n zx zb dX7_side_37 rfl (lv_at hl 1 rfl) ?_
  refine al_25 C0 hH (by omega) (by omega) dX7_side_38 ?_
  refine bi_sub zx zb dX7_side_39 ?_
  refine lv_aload_n zx zb dX7_side_40 rfl (lv_at hl 0 rfl) ?_
  refine gf_X7_7 C0 hH dX7_side_41 ?_
  refine lv_iload_n zx zb dX7_side_44 rfl (lv_at hl 3 rfl) ?_
  refine al_24 C0 hH (by omega) (by omega) dX7_side_45 ?_
  refine lv_aload_n zx zb dX7_side_46 rfl (lv_at hl 0 rfl) ?_
  refine gf_X7_7 C0 hH dX7_side_47 ?_
  refine lv_iload_n zx zb dX7_side_50 rfl (lv_at hl 1 rfl) ?_
  refine al_24 C0 hH (by omega) (by omega) dX7_side_51 ?_
  refine bi_sub zx zb dX7_side_52 ?_
  refine bi_mul zx zb dX7_side_53 ?_
  refine bi_sub zx zb dX7_side_54 ?_
  refine lv_istore (lv' := [(4, .int (iI ((((S 24 b) - (S 24 a)) * ((S 25 y) - (S 25 a))) - (((S 25 b) - (S 25 a)) * ((S 24 y) - (S 24 a)))))), (0, .ref (g.1 23)), (1, .int (iI a)), (2, .int (iI b)), (3, .int (iI y))]) zx zb dX7_side_55 hl (by decide) rfl (fun ls hl => ?_)
  refine lv_iload zx zb dX7_side_57 (lv_at hl 0 rfl) ?_
  refine bz_le (tgt := 66) zx zb dX7_side_59 (by decide) ⟨by omega, by omega⟩ (fun zq59 => ?_) (fun zq59 => ?_)
  · refine lv_iload zx zb dX7_side_66 (lv_at hl 0 rfl) ?_
    refine bz_ge (tgt := 75) zx zb dX7_side_68 (by decide) ⟨by omega, by omega⟩ (fun zq68 => ?_) (fun zq68 => ?_)
    · refine bi_const (n := 0) zx zb dX7_side_75 ?_
      exact retI C0 hret hlk hH (by unfold siI; first | (rw [if_pos (by omega)]; done) | (rw [if_neg (by omega), if_pos (by omega)]; done) | (rw [if_neg (by omega), if_neg (by omega)]; done)) (rfl) dX7_side_76
    · refine bi_const (n := (-1)) zx zb dX7_side_71 ?_
      refine lv_goto (tgt := 76) zx zb dX7_side_72 (by decide) ?_
      exact retI C0 hret hlk hH (by unfold siI; first | (rw [if_pos (by omega)]; done) | (rw [if_neg (by omega), if_pos (by omega)]; done) | (rw [if_neg (by omega), if_neg (by omega)]; done)) (rfl) dX7_side_76
  · refine bi_const (n := 1) zx zb dX7_side_62 ?_
    refine lv_goto (tgt := 76) zx zb dX7_side_63 (by decide) ?_
    exact retI C0 hret hlk hH (by unfold siI; first | (rw [if_pos (by omega)]; done) | (rw [if_neg (by omega), if_pos (by omega)]; done) | (rw [if_neg (by omega), if_neg (by omega)]; done)) (rfl) dX7_side_76
set_option maxRecDepth 100000 in
set_option maxHeartbeats 4000000 in
theorem c_X7_meet (l : Launch) (g : gT) (S : gSt) (a b y t : Int) (ha : -400 ≤ a ∧ a < 400) (hb9 : -400 ≤ b ∧ b < 400) (hc9 : -400 ≤ y ∧ y < 400) (hd : -400 ≤ t ∧ t < 400) : MetG l g yX7_meet cX7_meet 6 (some .boolean) 0 0 [.int (iI a), .int (iI b), .int (iI y), .int (iI t)] S (some (.int (iI (if spB a b y t = true then 1 else 0)))) S := by
  refine bodyG (by decide +kernel) (Nat.le_of_ble_eq_true rfl) ?_
  intro p e s m args below meth c ls C0 hret hlk hl hH
  have zx := C0.1
  have zb := C0.2.1
  have hl : lv_has ls 6 [(0, .int (iI a)), (1, .int (iI b)), (2, .int (iI y)), (3, .int (iI t))] := hl
  obtain ⟨H, hHe⟩ : ∃ H : Heap, H = s.heap := ⟨_, rfl⟩
  rw [show (Hp g S s s.heap []) = Hp g S s H [] by rw [hHe]] at hH
  rw [← hHe]
  refine lv_iload_n zx zb dX7_meet_0 rfl (lv_at hl 0 rfl) ?_
  refine lv_iload_n zx zb dX7_meet_1 rfl (lv_at hl 1 rfl) ?_
  refine bq_ge (tgt := 9) zx zb dX7_meet_2 (by decide) ⟨by omega, by omega⟩ ⟨by omega, by omega⟩ (fun zq2 => ?_) (fun zq2 => ?_)
  · refine lv_iload_n zx zb dX7_meet_9 rfl (lv_at hl 1 rfl) ?_
    refine lv_istore (lv' := [(4, .int (iI b)), (0, .int (iI a)), (1, .int (iI b)), (2, .int (iI y)), (3, .int (iI t))]) zx zb dX7_meet_10 hl (by decide) rfl (fun ls hl => ?_)
    refine lv_iload_n zx zb dX7_meet_12 rfl (lv_at hl 1 rfl) ?_
    refine lv_iload_n zx zb dX7_meet_13 rfl (lv_at hl 2 rfl) ?_
    refine bq_ge (tgt := 21) zx zb dX7_meet_14 (by decide) ⟨by omega, by omega⟩ ⟨by omega, by omega⟩ (fun zq14 => ?_) (fun zq14 => ?_)
    · refine lv_iload_n zx zb dX7_meet_21 rfl (lv_at hl 1 rfl) ?_
      refine lv_istore (lv' := [(5, .int (iI a)), (4, .int (iI b)), (0, .int (iI a)), (1, .int (iI b)), (2, .int (iI y)), (3, .int (iI t))]) zx zb dX7_meet_22 hl (by decide) rfl (fun ls hl => ?_)
      refine lv_iload_n zx zb dX7_meet_24 rfl (lv_at hl 4 rfl) ?_
      refine lv_iload zx zb dX7_meet_25 (lv_at hl 1 rfl) ?_
      refine bq_ge (tgt := 36) zx zb dX7_meet_27 (by decide) ⟨by omega, by omega⟩ ⟨by omega, by omega⟩ (fun zq27 => ?_) (fun zq27 => ?_)
      · refine lv_iload_n zx zb dX7_meet_36 rfl (lv_at hl 4 rfl) ?_
        refine lv_iload zx zb dX7_meet_37 (lv_at hl 0 rfl) ?_
        refine bq_le (tgt := 48) zx zb dX7_meet_39 (by decide) ⟨by omega, by omega⟩ ⟨by omega, by omega⟩ (fun zq39 => ?_) (fun zq39 => ?_)
        · refine bi_const (n := 1) zx zb dX7_meet_48 ?_
          refine lv_goto (tgt := 53) zx zb dX7_meet_49 (by decide) ?_
          exact retZ C0 hret hlk hH (by unfold spB; first | (rw [if_pos (by simp; omega)]; done) | (rw [if_neg (by simp; omega)]; done)) (by omega) (rfl) dX7_meet_53
        · refine lv_iload_n zx zb dX7_meet_42 rfl (lv_at hl 5 rfl) ?_
          refine lv_iload zx zb dX7_meet_43 (lv_at hl 0 rfl) ?_
          refine bq_gt (tgt := 52) zx zb dX7_meet_45 (by decide) ⟨by omega, by omega⟩ ⟨by omega, by omega⟩ (fun zq45 => ?_) (fun zq45 => ?_)
          · refine bi_const (n := 0) zx zb dX7_meet_52 ?_
            exact retZ C0 hret hlk hH (by unfold spB; first | (rw [if_pos (by simp; omega)]; done) | (rw [if_neg (by simp; omega)]; done)) (by omega) (rfl) dX7_meet_53
          · refine bi_const (n := 1) zx zb dX7_meet_48 ?_
            refine lv_goto (tgt := 53) zx zb dX7_meet_49 (by decide) ?_
            exact retZ C0 hret hlk hH (by unfold spB; first | (rw [if_pos (by simp; omega)]; done) | (rw [if_neg (by simp; omega)]; done)) (by omega) (rfl) dX7_meet_53
      · refine lv_iload_n zx zb dX7_meet_30 rfl (lv_at hl 5 rfl) ?_
        refine lv_iload zx zb dX7_meet_31 (lv_at hl 1 rfl) ?_
        refine bq_lt (tgt := 52) zx zb dX7_meet_33 (by decide) ⟨by omega, by omega⟩ ⟨by omega, by omega⟩ (fun zq33 => ?_) (fun zq33 => ?_)
        · refine bi_const (n := 0) zx zb dX7_meet_52 ?_
          exact retZ C0 hret hlk hH (by unfold spB; first | (rw [if_pos (by simp; omega)]; done) | (rw [if_neg (by simp; omega)]; done)) (by omega) (rfl) dX7_meet_53
        · refine lv_iload_n zx zb dX7_meet_36 rfl (lv_at hl 4 rfl) ?_
          refine lv_iload zx zb dX7_meet_37 (lv_at hl 0 rfl) ?_
          refine bq_le (tgt := 48) zx zb dX7_meet_39 (by decide) ⟨by omega, by omega⟩ ⟨by omega, by omega⟩ (fun zq39 => ?_) (fun zq39 => ?_)
          · refine bi_const (n := 1) zx zb dX7_meet_48 ?_
            refine lv_goto (tgt := 53) zx zb dX7_meet_49 (by decide) ?_
            exact retZ C0 hret hlk hH (by unfold spB; first | (rw [if_pos (by simp; omega)]; done) | (rw [if_neg (by simp; omega)]; done)) (by omega) (rfl) dX7_meet_53
          · refine lv_iload_n zx zb dX7_meet_42 rfl (lv_at hl 5 rfl) ?_
            refine lv_iload zx zb dX7_meet_43 (lv_at hl 0 rfl) ?_
            refine bq_gt (tgt := 52) zx zb dX7_meet_45 (by decide) ⟨by omega, by omega⟩ ⟨by omega, by omega⟩ (fun zq45 => ?_) (fun zq45 => ?_)
            · refine bi_const (n := 0) zx zb dX7_meet_52 ?_
              exact retZ C0 hret hlk hH (by unfold spB; first | (rw [if_pos (by simp; omega)]; done) | (rw [if_neg (by simp; omega)]; done)) (by omega) (rfl) dX7_meet_53
            · refine bi_const (n := 1) zx zb dX7_meet_48 ?_
              refine lv_goto (tgt := 53) zx zb dX7_meet_49 (by decide) ?_
              exact retZ C0 hret hlk hH (by unfold spB; first | (rw [if_pos (by simp; omega)]; done) | (rw [if_neg (by simp; omega)]; done)) (by omega) (rfl) dX7_meet_53
    · refine lv_iload_n zx zb dX7_meet_17 rfl (lv_at hl 2 rfl) ?_
      refine lv_goto (tgt := 22) zx zb dX7_meet_18 (by decide) ?_
      refine lv_istore (lv' := [(5, .int (iI b)), (4, .int (iI b)), (0, .int (iI a)), (1, .int (iI b)), (2, .int (iI y)), (3, .int (iI t))]) zx zb dX7_meet_22 hl (by decide) rfl (fun ls hl => ?_)
      refine lv_iload_n zx zb dX7_meet_24 rfl (lv_at hl 4 rfl) ?_
      refine lv_iload zx zb dX7_meet_25 (lv_at hl 1 rfl) ?_
      refine bq_ge (tgt := 36) zx zb dX7_meet_27 (by decide) ⟨by omega, by omega⟩ ⟨by omega, by omega⟩ (fun zq27 => ?_) (fun zq27 => ?_)
      · refine lv_iload_n zx zb dX7_meet_36 rfl (lv_at hl 4 rfl) ?_
        refine lv_iload zx zb dX7_meet_37 (lv_at hl 0 rfl) ?_
        refine bq_le (tgt := 48) zx zb dX7_meet_39 (by decide) ⟨by omega, by omega⟩ ⟨by omega, by omega⟩ (fun zq39 => ?_) (fun zq39 => ?_)
        · refine bi_const (n := 1) zx zb dX7_meet_48 ?_
          refine lv_goto (tgt := 53) zx zb dX7_meet_49 (by decide) ?_
          exact retZ C0 hret hlk hH (by unfold spB; first | (rw [if_pos (by simp; omega)]; done) | (rw [if_neg (by simp; omega)]; done)) (by omega) (rfl) dX7_meet_53
        · refine lv_iload_n zx zb dX7_meet_42 rfl (lv_at hl 5 rfl) ?_
          refine lv_iload zx zb dX7_meet_43 (lv_at hl 0 rfl) ?_
          refine bq_gt (tgt := 52) zx zb dX7_meet_45 (by decide) ⟨by omega, by omega⟩ ⟨by omega, by omega⟩ (fun zq45 => ?_) (fun zq45 => ?_)
          · refine bi_const (n := 0) zx zb dX7_meet_52 ?_
            exact retZ C0 hret hlk hH (by unfold spB; first | (rw [if_pos (by simp; omega)]; done) | (rw [if_neg (by simp; omega)]; done)) (by omega) (rfl) dX7_meet_53
          · refine bi_const (n := 1) zx zb dX7_meet_48 ?_
            refine lv_goto (tgt := 53) zx zb dX7_meet_49 (by decide) ?_
            exact retZ C0 hret hlk hH (by unfold spB; first | (rw [if_pos (by simp; omega)]; done) | (rw [if_neg (by simp; omega)]; done)) (by omega) (rfl) dX7_meet_53
      · refine lv_iload_n zx zb dX7_meet_30 rfl (lv_at hl 5 rfl) ?_
        refine lv_iload zx zb dX7_meet_31 (lv_at hl 1 rfl) ?_
        refine bq_lt (tgt := 52) zx zb dX7_meet_33 (by decide) ⟨by omega, by omega⟩ ⟨by omega, by omega⟩ (fun zq33 => ?_) (fun zq33 => ?_)
        · refine bi_const (n := 0) zx zb dX7_meet_52 ?_
          exact retZ C0 hret hlk hH (by unfold spB; first | (rw [if_pos (by simp; omega)]; done) | (rw [if_neg (by simp; omega)]; done)) (by omega) (rfl) dX7_meet_53
        · refine lv_iload_n zx zb dX7_meet_36 rfl (lv_at hl 4 rfl) ?_
          refine lv_iload zx zb dX7_meet_37 (lv_at hl 0 rfl) ?_
          refine bq_le (tgt := 48) zx zb dX7_meet_39 (by decide) ⟨by omega, by omega⟩ ⟨by omega, by omega⟩ (fun zq39 => ?_) (fun zq39 => ?_)
          · refine bi_const (n := 1) zx zb dX7_meet_48 ?_
            refine lv_goto (tgt := 53) zx zb dX7_meet_49 (by decide) ?_
            exact retZ C0 hret hlk hH (by unfold spB; first | (rw [if_pos (by simp; omega)]; done) | (rw [if_neg (by simp; omega)]; done)) (by omega) (rfl) dX7_meet_53
          · refine lv_iload_n zx zb dX7_meet_42 rfl (lv_at hl 5 rfl) ?_
            refine lv_iload zx zb dX7_meet_43 (lv_at hl 0 rfl) ?_
            refine bq_gt (tgt := 52) zx zb dX7_meet_45 (by decide) ⟨by omega, by omega⟩ ⟨by omega, by omega⟩ (fun zq45 => ?_) (fun zq45 => ?_)
            · refine bi_const (n := 0) zx zb dX7_meet_52 ?_
              exact retZ C0 hret hlk hH (by unfold spB; first | (rw [if_pos (by simp; omega)]; done) | (rw [if_neg (by simp; omega)]; done)) (by omega) (rfl) dX7_meet_53
            · refine bi_const (n := 1) zx zb dX7_meet_48 ?_
              refine lv_goto (tgt := 53) zx zb dX7_meet_49 (by decide) ?_
              exact retZ C0 hret hlk hH (by unfold spB; first | (rw [if_pos (by simp; omega)]; done) | (rw [if_neg (by simp; omega)]; done)) (by omega) (rfl) dX7_meet_53
  · refine lv_iload_n zx zb dX7_meet_5 rfl (lv_at hl 0 rfl) ?_
    refine lv_goto (tgt := 10) zx zb dX7_meet_6 (by decide) ?_
    refine lv_istore (lv' := [(4, .int (iI a)), (0, .int (iI a)), (1, .int (iI b)), (2, .int (iI y)), (3, .int (iI t))]) zx zb dX7_meet_10 hl (by decide) rfl (fun ls hl => ?_)
    refine lv_iload_n zx zb dX7_meet_12 rfl (lv_at hl 1 rfl) ?_
    refine lv_iload_n zx zb dX7_meet_13 rfl (lv_at hl 2 rfl) ?_
    refine bq_ge (tgt := 21) zx zb dX7_meet_14 (by decide) ⟨by omega, by omega⟩ ⟨by omega, by omega⟩ (fun zq14 => ?_) (fun zq14 => ?_)
    · refine lv_iload_n zx zb dX7_meet_21 rfl (lv_at hl 1 rfl) ?_
      refine lv_istore (lv' := [(5, .int (iI a)), (4, .int (iI a)), (0, .int (iI a)), (1, .int (iI b)), (2, .int (iI y)), (3, .int (iI t))]) zx zb dX7_meet_22 hl (by decide) rfl (fun ls hl => ?_)
      refine lv_iload_n zx zb dX7_meet_24 rfl (lv_at hl 4 rfl) ?_
      refine lv_iload zx zb dX7_meet_25 (lv_at hl 1 rfl) ?_
      refine bq_ge (tgt := 36) zx zb dX7_meet_27 (by decide) ⟨by omega, by omega⟩ ⟨by omega, by omega⟩ (fun zq27 => ?_) (fun zq27 => ?_)
      · refine lv_iload_n zx zb dX7_meet_36 rfl (lv_at hl 4 rfl) ?_
        refine lv_iload zx zb dX7_meet_37 (lv_at hl 0 rfl) ?_
        refine bq_le (tgt := 48) zx zb dX7_meet_39 (by decide) ⟨by omega, by omega⟩ ⟨by omega, by omega⟩ (fun zq39 => ?_) (fun zq39 => ?_)
        · refine bi_const (n := 1) zx zb dX7_meet_48 ?_
          refine lv_goto (tgt := 53) zx zb dX7_meet_49 (by decide) ?_
          exact retZ C0 hret hlk hH (by unfold spB; first | (rw [if_pos (by simp; omega)]; done) | (rw [if_neg (by simp; omega)]; done)) (by omega) (rfl) dX7_meet_53
        · refine lv_iload_n zx zb dX7_meet_42 rfl (lv_at hl 5 rfl) ?_
          refine lv_iload zx zb dX7_meet_43 (lv_at hl 0 rfl) ?_
          refine bq_gt (tgt := 52) zx zb dX7_meet_45 (by decide) ⟨by omega, by omega⟩ ⟨by omega, by omega⟩ (fun zq45 => ?_) (fun zq45 => ?_)
          · refine bi_const (n := 0) zx zb dX7_meet_52 ?_
            exact retZ C0 hret hlk hH (by unfold spB; first | (rw [if_pos (by simp; omega)]; done) | (rw [if_neg (by simp; omega)]; done)) (by omega) (rfl) dX7_meet_53
          · refine bi_const (n := 1) zx zb dX7_meet_48 ?_
            refine lv_goto (tgt := 53) zx zb dX7_meet_49 (by decide) ?_
            exact retZ C0 hret hlk hH (by unfold spB; first | (rw [if_pos (by simp; omega)]; done) | (rw [if_neg (by simp; omega)]; done)) (by omega) (rfl) dX7_meet_53
      · refine lv_iload_n zx zb dX7_meet_30 rfl (lv_at hl 5 rfl) ?_
        refine lv_iload zx zb dX7_meet_31 (lv_at hl 1 rfl) ?_
        refine bq_lt (tgt := 52) zx zb dX7_meet_33 (by decide) ⟨by omega, by omega⟩ ⟨by omega, by omega⟩ (fun zq33 => ?_) (fun zq33 => ?_)
        · refine bi_const (n := 0) zx zb dX7_meet_52 ?_
          exact retZ C0 hret hlk hH (by unfold spB; first | (rw [if_pos (by simp; omega)]; done) | (rw [if_neg (by simp; omega)]; done)) (by omega) (rfl) dX7_meet_53
        · refine lv_iload_n zx zb dX7_meet_36 rfl (lv_at hl 4 rfl) ?_
          refine lv_iload zx zb dX7_meet_37 (lv_at hl 0 rfl) ?_
          refine bq_le (tgt := 48) zx zb dX7_meet_39 (by decide) ⟨by omega, by omega⟩ ⟨by omega, by omega⟩ (fun zq39 => ?_) (fun zq39 => ?_)
          · refine bi_const (n := 1) zx zb dX7_meet_48 ?_
            refine lv_goto (tgt := 53) zx zb dX7_meet_49 (by decide) ?_
            exact retZ C0 hret hlk hH (by unfold spB; first | (rw [if_pos (by simp; omega)]; done) | (rw [if_neg (by simp; omega)]; done)) (by omega) (rfl) dX7_meet_53
          · refine lv_iload_n zx zb dX7_meet_42 rfl (lv_at hl 5 rfl) ?_
            refine lv_iload zx zb dX7_meet_43 (lv_at hl 0 rfl) ?_
            refine bq_gt (tgt := 52) zx zb dX7_meet_45 (by decide) ⟨by omega, by omega⟩ ⟨by omega, by omega⟩ (fun zq45 => ?_) (fun zq45 => ?_)
            · refine bi_const (n := 0) zx zb dX7_meet_52 ?_
              exact retZ C0 hret hlk hH (by unfold spB; first | (rw [if_pos (by simp; omega)]; done) | (rw [if_neg (by simp; omega)]; done)) (by omega) (rfl) dX7_meet_53
            · refine bi_const (n := 1) zx zb dX7_meet_48 ?_
              refine lv_goto (tgt := 53) zx zb dX7_meet_49 (by decide) ?_
              exact retZ C0 hret hlk hH (by unfold spB; first | (rw [if_pos (by simp; omega)]; done) | (rw [if_neg (by simp; omega)]; done)) (by omega) (rfl) dX7_meet_53
    · refine lv_iload_n zx zb dX7_meet_17 rfl (lv_at hl 2 rfl) ?_
      refine lv_goto (tgt := 22) zx zb dX7_meet_18 (by decide) ?_
      refine lv_istore (lv' := [(5, .int (iI b)), (4, .int (iI a)), (0, .int (iI a)), (1, .int (iI b)), (2, .int (iI y)), (3, .int (iI t))]) zx zb dX7_meet_22 hl (by decide) rfl (fun ls hl => ?_)
      refine lv_iload_n zx zb dX7_meet_24 rfl (lv_at hl 4 rfl) ?_
      refine lv_iload zx zb dX7_meet_25 (lv_at hl 1 rfl) ?_
      refine bq_ge (tgt := 36) zx zb dX7_meet_27 (by decide) ⟨by omega, by omega⟩ ⟨by omega, by omega⟩ (fun zq27 => ?_) (fun zq27 => ?_)
      · refine lv_iload_n zx zb dX7_meet_36 rfl (lv_at hl 4 rfl) ?_
        refine lv_iload zx zb dX7_meet_37 (lv_at hl 0 rfl) ?_
        refine bq_le (tgt := 48) zx zb dX7_meet_39 (by decide) ⟨by omega, by omega⟩ ⟨by omega, by omega⟩ (fun zq39 => ?_) (fun zq39 => ?_)
        · refine bi_const (n := 1) zx zb dX7_meet_48 ?_
          refine lv_goto (tgt := 53) zx zb dX7_meet_49 (by decide) ?_
          exact retZ C0 hret hlk hH (by unfold spB; first | (rw [if_pos (by simp; omega)]; done) | (rw [if_neg (by simp; omega)]; done)) (by omega) (rfl) dX7_meet_53
        · refine lv_iload_n zx zb dX7_meet_42 rfl (lv_at hl 5 rfl) ?_
          refine lv_iload zx zb dX7_meet_43 (lv_at hl 0 rfl) ?_
          refine bq_gt (tgt := 52) zx zb dX7_meet_45 (by decide) ⟨by omega, by omega⟩ ⟨by omega, by omega⟩ (fun zq45 => ?_) (fun zq45 => ?_)
          · refine bi_const (n := 0) zx zb dX7_meet_52 ?_
            exact retZ C0 hret hlk hH (by unfold spB; first | (rw [if_pos (by simp; omega)]; done) | (rw [if_neg (by simp; omega)]; done)) (by omega) (rfl) dX7_meet_53
          · refine bi_const (n := 1) zx zb dX7_meet_48 ?_
            refine lv_goto (tgt := 53) zx zb dX7_meet_49 (by decide) ?_
            exact retZ C0 hret hlk hH (by unfold spB; first | (rw [if_pos (by simp; omega)]; done) | (rw [if_neg (by simp; omega)]; done)) (by omega) (rfl) dX7_meet_53
      · refine lv_iload_n zx zb dX7_meet_30 rfl (lv_at hl 5 rfl) ?_
        refine lv_iload zx zb dX7_meet_31 (lv_at hl 1 rfl) ?_
        refine bq_lt (tgt := 52) zx zb dX7_meet_33 (by decide) ⟨by omega, by omega⟩ ⟨by omega, by omega⟩ (fun zq33 => ?_) (fun zq33 => ?_)
        · refine bi_const (n := 0) zx zb dX7_meet_52 ?_
          exact retZ C0 hret hlk hH (by unfold spB; first | (rw [if_pos (by simp; omega)]; done) | (rw [if_neg (by simp; omega)]; done)) (by omega) (rfl) dX7_meet_53
        · refine lv_iload_n zx zb dX7_meet_36 rfl (lv_at hl 4 rfl) ?_
          refine lv_iload zx zb dX7_meet_37 (lv_at hl 0 rfl) ?_
          refine bq_le (tgt := 48) zx zb dX7_meet_39 (by decide) ⟨by omega, by omega⟩ ⟨by omega, by omega⟩ (fun zq39 => ?_) (fun zq39 => ?_)
          · refine bi_const (n := 1) zx zb dX7_meet_48 ?_
            refine lv_goto (tgt := 53) zx zb dX7_meet_49 (by decide) ?_
            exact retZ C0 hret hlk hH (by unfold spB; first | (rw [if_pos (by simp; omega)]; done) | (rw [if_neg (by simp; omega)]; done)) (by omega) (rfl) dX7_meet_53
          · refine lv_iload_n zx zb dX7_meet_42 rfl (lv_at hl 5 rfl) ?_
            refine lv_iload zx zb dX7_meet_43 (lv_at hl 0 rfl) ?_
            refine bq_gt (tgt := 52) zx zb dX7_meet_45 (by decide) ⟨by omega, by omega⟩ ⟨by omega, by omega⟩ (fun zq45 => ?_) (fun zq45 => ?_)
            · refine bi_const (n := 0) zx zb dX7_meet_52 ?_
              exact retZ C0 hret hlk hH (by unfold spB; first | (rw [if_pos (by simp; omega)]; done) | (rw [if_neg (by simp; omega)]; done)) (by omega) (rfl) dX7_meet_53
            · refine bi_const (n := 1) zx zb dX7_meet_48 ?_
              refine lv_goto (tgt := 53) zx zb dX7_meet_49 (by decide) ?_
              exact retZ C0 hret hlk hH (by unfold spB; first | (rw [if_pos (by simp; omega)]; done) | (rw [if_neg (by simp; omega)]; done)) (by omega) (rfl) dX7_meet_53
set_option maxRecDepth 100000 in
set_option maxHeartbeats 4000000 in
theorem c_X7_cross (l : Launch) (g : gT) (S : gSt) (p1 p2 : Int) (hp : 0 ≤ p1 ∧ p1 < 80) (hq : 0 ≤ p2 ∧ p2 < 80) (he1 : 0 ≤ S 26 p1 ∧ S 26 p1 < 24) (ho1 : 0 ≤ S 27 p1 ∧ S 27 p1 < 24) (he2 : 0 ≤ S 26 p2 ∧ S 26 p2 < 24) (ho2 : 0 ≤ S 27 p2 ∧ S 27 p2 < 24) (hC : okC (S 24) (S 25)) : MetG l g yX7_cross cX7_cross 8 (some .boolean) 1 25 [.ref (g.1 23), .int (iI p1), .int (iI p2)] S (some (.int (iI (if crM (S 24) (S 25) (S 26) (S 27) p1 p2 = true then 1 else 0)))) S := by
  refine bodyG (by decide +kernel) (Nat.le_of_ble_eq_true rfl) ?_
  intro p e s m args below meth c ls C0 hret hlk hl hH
  have zx := C0.1
  have zb := C0.2.1
  have hl : lv_has ls 8 [(0, .ref (g.1 23)), (1, .int (iI p1)), (2, .int (iI p2))] := hl
  obtain ⟨H, hHe⟩ : ∃ H : Heap, H = s.heap := ⟨_, rfl⟩
  rw [show (Hp g S s s.heap []) = Hp g S s H [] by rw [hHe]] at hH
  rw [← hHe]
  refine lv_aload_n zx zb dX7_cross_0 rfl (lv_at hl 0 rfl) ?_
  refine gf_X7_16 C0 hH dX7_cross_1 ?_
  refine lv_iload_n zx zb dX7_cross_4 rfl (lv_at hl 1 rfl) ?_
  refine al_26 C0 hH (by omega) (by omega) dX7_cross_5 ?_
  refine lv_istore_n (lv' := [(3, .int (iI (S 26 p1))), (0, .ref (g.1 23)), (1, .int (iI p1)), (2, .int (iI p2))]) zx zb dX7_cross_6 rfl hl (by decide) rfl (fun ls hl => ?_)
  refine lv_aload_n zx zb dX7_cross_7 rfl (lv_at hl 1 rfl) ?_
  refine gf_X7_19 C0 hH dX7_cross_8 ?_
  refine lv_iload_n zx zb dX7_cross_11 rfl (lv_at hl 2 rfl) ?_
  refine al_27 C0 hH (by omega) (by omega) dX7_cross_12 ?_
  refine lv_istore (lv' := [(4, .int (iI (S 27 p1))), (3, .int (iI (S 26 p1))), (0, .ref (g.1 23)), (1, .int (iI p1)), (2, .int (iI p2))]) zx zb dX7_cross_13 hl (by decide) rfl (fun ls hl => ?_)
  refine lv_aload_n zx zb dX7_cross_15 rfl (lv_at hl 2 rfl) ?_
  refine gf_X7_16 C0 hH dX7_cross_16 ?_
  refine lv_iload_n zx zb dX7_cross_19 rfl (lv_at hl 4 rfl) ?_
  refine al_26 C0 hH (by omega) (by omega) dX7_cross_20 ?_
  refine lv_istore (lv' := [(5, .int (iI (S 26 p2))), (4, .int (iI (S 27 p1))), (3, .int (iI (S 26 p1))), (0, .ref (g.1 23)), (1, .int (iI p1)), (2, .int (iI p2))]) zx zb dX7_cross_21 hl (by decide) rfl (fun ls hl => ?_)
  refine lv_aload_n zx zb dX7_cross_23 rfl (lv_at hl 3 rfl) ?_
  refine gf_X7_19 C0 hH dX7_cross_24 ?_
  refine lv_iload_n zx zb dX7_cross_27 rfl (lv_at hl 5 rfl) ?_
  refine al_27 C0 hH (by omega) (by omega) dX7_cross_28 ?_
  refine lv_istore (lv' := [(6, .int (iI (S 27 p2))), (5, .int (iI (S 26 p2))), (4, .int (iI (S 27 p1))), (3, .int (iI (S 26 p1))), (0, .ref (g.1 23)), (1, .int (iI p1)), (2, .int (iI p2))]) zx zb dX7_cross_29 hl (by decide) rfl (fun ls hl => ?_)
  refine lv_iload_n zx zb dX7_cross_31 rfl (lv_at hl 3 rfl) ?_
  refine lv_iload zx zb dX7_cross_32 (lv_at hl 1 rfl) ?_
  refine bq_eq (tgt := 57) zx zb dX7_cross_34 (by decide) ⟨by omega, by omega⟩ ⟨by omega, by omega⟩ (fun zq34 => ?_) (fun zq34 => ?_)
  · refine bi_const (n := 0) zx zb dX7_cross_57 ?_
    exact retZ C0 hret hlk hH (by unfold crM; first | (rw [decide_eq_true zq34]; rfl) | (rw [decide_eq_false zq34, decide_eq_true zq40]; rfl) | (rw [decide_eq_false zq34, decide_eq_false zq40, decide_eq_true zq47]; rfl) | (rw [decide_eq_false zq34, decide_eq_false zq40, decide_eq_false zq47, decide_eq_true zq54]; rfl)) (by omega) (rfl) dX7_cross_58
  · refine lv_iload_n zx zb dX7_cross_37 rfl (lv_at hl 3 rfl) ?_
    refine lv_iload zx zb dX7_cross_38 (lv_at hl 0 rfl) ?_
    refine bq_eq (tgt := 57) zx zb dX7_cross_40 (by decide) ⟨by omega, by omega⟩ ⟨by omega, by omega⟩ (fun zq40 => ?_) (fun zq40 => ?_)
    · refine bi_const (n := 0) zx zb dX7_cross_57 ?_
      exact retZ C0 hret hlk hH (by unfold crM; first | (rw [decide_eq_true zq34]; rfl) | (rw [decide_eq_false zq34, decide_eq_true zq40]; rfl) | (rw [decide_eq_false zq34, decide_eq_false zq40, decide_eq_true zq47]; rfl) | (rw [decide_eq_false zq34, decide_eq_false zq40, decide_eq_false zq47, decide_eq_true zq54]; rfl)) (by omega) (rfl) dX7_cross_58
    · refine lv_iload zx zb dX7_cross_43 (lv_at hl 2 rfl) ?_
      refine lv_iload zx zb dX7_cross_45 (lv_at hl 1 rfl) ?_
      refine bq_eq (tgt := 57) zx zb dX7_cross_47 (by decide) ⟨by omega, by omega⟩ ⟨by omega, by omega⟩ (fun zq47 => ?_) (fun zq47 => ?_)
      · refine bi_const (n := 0) zx zb dX7_cross_57 ?_
        exact retZ C0 hret hlk hH (by unfold crM; first | (rw [decide_eq_true zq34]; rfl) | (rw [decide_eq_false zq34, decide_eq_true zq40]; rfl) | (rw [decide_eq_false zq34, decide_eq_false zq40, decide_eq_true zq47]; rfl) | (rw [decide_eq_false zq34, decide_eq_false zq40, decide_eq_false zq47, decide_eq_true zq54]; rfl)) (by omega) (rfl) dX7_cross_58
      · refine lv_iload zx zb dX7_cross_50 (lv_at hl 2 rfl) ?_
        refine lv_iload zx zb dX7_cross_52 (lv_at hl 0 rfl) ?_
        refine bq_ne (tgt := 59) zx zb dX7_cross_54 (by decide) ⟨by omega, by omega⟩ ⟨by omega, by omega⟩ (fun zq54 => ?_) (fun zq54 => ?_)
        · have k1 := hC (S 26 p1) he1.1 he1.2
          have k2 := hC (S 27 p1) ho1.1 ho1.2
          have k3 := hC (S 26 p2) he2.1 he2.2
          have k4 := hC (S 27 p2) ho2.1 ho2.2
          refine lv_aload_n zx zb dX7_cross_59 rfl (lv_at hl 4 rfl) ?_
          refine gf_X7_7 C0 hH dX7_cross_60 ?_
          refine lv_iload_n zx zb dX7_cross_63 rfl (lv_at hl 3 rfl) ?_
          refine al_24 C0 hH (by omega) (by omega) dX7_cross_64 ?_
          refine lv_aload_n zx zb dX7_cross_65 rfl (lv_at hl 4 rfl) ?_
          refine gf_X7_7 C0 hH dX7_cross_66 ?_
          refine lv_iload zx zb dX7_cross_69 (lv_at hl 2 rfl) ?_
          refine al_24 C0 hH (by omega) (by omega) dX7_cross_71 ?_
          refine lv_aload_n zx zb dX7_cross_72 rfl (lv_at hl 4 rfl) ?_
          refine gf_X7_7 C0 hH dX7_cross_73 ?_
          refine lv_iload zx zb dX7_cross_76 (lv_at hl 1 rfl) ?_
          refine al_24 C0 hH (by omega) (by omega) dX7_cross_78 ?_
          refine lv_aload_n zx zb dX7_cross_79 rfl (lv_at hl 4 rfl) ?_
          refine gf_X7_7 C0 hH dX7_cross_80 ?_
          refine lv_iload zx zb dX7_cross_83 (lv_at hl 0 rfl) ?_
          refine al_24 C0 hH (by omega) (by omega) dX7_cross_85 ?_
          refine csI (rest := []) (As := [.int (iI (S 24 (S 26 p1))), .int (iI (S 24 (S 27 p1))), .int (iI (S 24 (S 26 p2))), .int (iI (S 24 (S 27 p2)))]) C0 hH (c_X7_meet l g S (S 24 (S 26 p1)) (S 24 (S 27 p1)) (S 24 (S 26 p2)) (S 24 (S 27 p2)) (by omega) (by omega) (by omega) (by omega)) kw_X7_97 ky_X7_meet ⟨Nat.le_of_ble_eq_true rfl, Nat.le_of_ble_eq_true rfl⟩ ⟨Nat.zero_le _, Nat.zero_le _⟩ rfl hl.1 rfl (Nat.le_of_ble_eq_true rfl) dX7_cross_86 (fun H locs hH => ?_)
          have hb89 := brg (spB (S 24 (S 26 p1)) (S 24 (S 27 p1)) (S 24 (S 26 p2)) (S 24 (S 27 p2)))
          refine bz_eq (tgt := 129) zx zb dX7_cross_89 (by decide) ⟨by omega, by omega⟩ (fun zq89 => ?_) (fun zq89 => ?_)
          · refine bi_const (n := 0) zx zb dX7_cross_129 ?_
            refine lv_istore (lv' := [(7, .int (iI 0)), (6, .int (iI (S 27 p2))), (5, .int (iI (S 26 p2))), (4, .int (iI (S 27 p1))), (3, .int (iI (S 26 p1))), (0, .ref (g.1 23)), (1, .int (iI p1)), (2, .int (iI p2))]) zx zb dX7_cross_130 hl (by decide) rfl (fun ls hl => ?_)
            refine lv_iload zx zb dX7_cross_132 (lv_at hl 0 rfl) ?_
            refine bz_eq (tgt := 186) zx zb dX7_cross_134 (by decide) ⟨by omega, by omega⟩ (fun zq134 => ?_) (fun zq134 => ?_)
            · refine bi_const (n := 0) zx zb dX7_cross_186 ?_
              exact retZ C0 hret hlk hH (by unfold crM; rw [decide_eq_false zq34, decide_eq_false zq40, decide_eq_false zq47, decide_eq_false zq54]; first | (rw [b0 zq89]; rfl) | (rw [b1 zq89, b0 zq122]; rfl) | (rw [b1 zq89, b1 zq122, decide_eq_false (Int.not_le.mpr zq156)]; rfl) | (rw [b1 zq89, b1 zq122, decide_eq_true zq156, decide_eq_false (Int.not_le.mpr zq179)]; rfl) | (rw [b1 zq89, b1 zq122, decide_eq_true zq156, decide_eq_true zq179]; rfl)) (by omega) (rfl) dX7_cross_187
            · exact absurd zq134 (by decide)
          · refine lv_aload_n zx zb dX7_cross_92 rfl (lv_at hl 4 rfl) ?_
            refine gf_X7_13 C0 hH dX7_cross_93 ?_
            refine lv_iload_n zx zb dX7_cross_96 rfl (lv_at hl 3 rfl) ?_
            refine al_25 C0 hH (by omega) (by omega) dX7_cross_97 ?_
            refine lv_aload_n zx zb dX7_cross_98 rfl (lv_at hl 4 rfl) ?_
            refine gf_X7_13 C0 hH dX7_cross_99 ?_
            refine lv_iload zx zb dX7_cross_102 (lv_at hl 2 rfl) ?_
            refine al_25 C0 hH (by omega) (by omega) dX7_cross_104 ?_
            refine lv_aload_n zx zb dX7_cross_105 rfl (lv_at hl 4 rfl) ?_
            refine gf_X7_13 C0 hH dX7_cross_106 ?_
            refine lv_iload zx zb dX7_cross_109 (lv_at hl 1 rfl) ?_
            refine al_25 C0 hH (by omega) (by omega) dX7_cross_111 ?_
            refine lv_aload_n zx zb dX7_cross_112 rfl (lv_at hl 4 rfl) ?_
            refine gf_X7_13 C0 hH dX7_cross_113 ?_
            refine lv_iload zx zb dX7_cross_116 (lv_at hl 0 rfl) ?_
            refine al_25 C0 hH (by omega) (by omega) dX7_cross_118 ?_
            refine csI (rest := []) (As := [.int (iI (S 25 (S 26 p1))), .int (iI (S 25 (S 27 p1))), .int (iI (S 25 (S 26 p2))), .int (iI (S 25 (S 27 p2)))]) C0 hH (c_X7_meet l g S (S 25 (S 26 p1)) (S 25 (S 27 p1)) (S 25 (S 26 p2)) (S 25 (S 27 p2)) (by omega) (by omega) (by omega) (by omega)) kw_X7_97 ky_X7_meet ⟨Nat.le_of_ble_eq_true rfl, Nat.le_of_ble_eq_true rfl⟩ ⟨Nat.zero_le _, Nat.zero_le _⟩ rfl hl.1 rfl (Nat.le_of_ble_eq_true rfl) dX7_cross_119 (fun H locs hH => ?_)
            have hb122 := brg (spB (S 25 (S 26 p1)) (S 25 (S 27 p1)) (S 25 (S 26 p2)) (S 25 (S 27 p2)))
            refine bz_eq (tgt := 129) zx zb dX7_cross_122 (by decide) ⟨by omega, by omega⟩ (fun zq122 => ?_) (fun zq122 => ?_)
            · refine bi_const (n := 0) zx zb dX7_cross_129 ?_
              refine lv_istore (lv' := [(7, .int (iI 0)), (6, .int (iI (S 27 p2))), (5, .int (iI (S 26 p2))), (4, .int (iI (S 27 p1))), (3, .int (iI (S 26 p1))), (0, .ref (g.1 23)), (1, .int (iI p1)), (2, .int (iI p2))]) zx zb dX7_cross_130 hl (by decide) rfl (fun ls hl => ?_)
              refine lv_iload zx zb dX7_cross_132 (lv_at hl 0 rfl) ?_
              refine bz_eq (tgt := 186) zx zb dX7_cross_134 (by decide) ⟨by omega, by omega⟩ (fun zq134 => ?_) (fun zq134 => ?_)
              · refine bi_const (n := 0) zx zb dX7_cross_186 ?_
                exact retZ C0 hret hlk hH (by unfold crM; rw [decide_eq_false zq34, decide_eq_false zq40, decide_eq_false zq47, decide_eq_false zq54]; first | (rw [b0 zq89]; rfl) | (rw [b1 zq89, b0 zq122]; rfl) | (rw [b1 zq89, b1 zq122, decide_eq_false (Int.not_le.mpr zq156)]; rfl) | (rw [b1 zq89, b1 zq122, decide_eq_true zq156, decide_eq_false (Int.not_le.mpr zq179)]; rfl) | (rw [b1 zq89, b1 zq122, decide_eq_true zq156, decide_eq_true zq179]; rfl)) (by omega) (rfl) dX7_cross_187
              · exact absurd zq134 (by decide)
            · refine bi_const (n := 1) zx zb dX7_cross_125 ?_
              refine lv_goto (tgt := 130) zx zb dX7_cross_126 (by decide) ?_
              refine lv_istore (lv' := [(7, .int (iI 1)), (6, .int (iI (S 27 p2))), (5, .int (iI (S 26 p2))), (4, .int (iI (S 27 p1))), (3, .int (iI (S 26 p1))), (0, .ref (g.1 23)), (1, .int (iI p1)), (2, .int (iI p2))]) zx zb dX7_cross_130 hl (by decide) rfl (fun ls hl => ?_)
              refine lv_iload zx zb dX7_cross_132 (lv_at hl 0 rfl) ?_
              refine bz_eq (tgt := 186) zx zb dX7_cross_134 (by decide) ⟨by omega, by omega⟩ (fun zq134 => ?_) (fun zq134 => ?_)
              · exact absurd zq134 (by decide)
              · have m1 := mul_b (siI_b (S 24) (S 25) (S 26 p1) (S 27 p1) (S 26 p2)) (siI_b (S 24) (S 25) (S 26 p1) (S 27 p1) (S 27 p2)) (by decide) (by decide)
                have m2 := mul_b (siI_b (S 24) (S 25) (S 26 p2) (S 27 p2) (S 26 p1)) (siI_b (S 24) (S 25) (S 26 p2) (S 27 p2) (S 27 p1)) (by decide) (by decide)
                refine lv_aload_n zx zb dX7_cross_137 rfl (lv_at hl 5 rfl) ?_
                refine lv_iload_n zx zb dX7_cross_138 rfl (lv_at hl 4 rfl) ?_
                refine lv_iload zx zb dX7_cross_139 (lv_at hl 3 rfl) ?_
                refine lv_iload zx zb dX7_cross_141 (lv_at hl 2 rfl) ?_
                refine cvI (rest := []) (As := [.int (iI (S 26 p1)), .int (iI (S 27 p1)), .int (iI (S 26 p2))]) (b := g.1 23) C0 hH (c_X7_side l g S (S 26 p1) (S 27 p1) (S 26 p2) (by omega) (by omega) (by omega) (hC)) kw_X7_101 ky_X7_side ⟨Nat.le_of_ble_eq_true rfl, Nat.le_of_ble_eq_true rfl⟩ ⟨Nat.zero_le _, Nat.zero_le _⟩ 23 rfl rfl rfl hl.1 rfl (Nat.le_of_ble_eq_true rfl) dX7_cross_143 (fun H locs hH => ?_)
                refine lv_aload_n zx zb dX7_cross_146 rfl (lv_at hl 5 rfl) ?_
                refine lv_iload_n zx zb dX7_cross_147 rfl (lv_at hl 4 rfl) ?_
                refine lv_iload zx zb dX7_cross_148 (lv_at hl 3 rfl) ?_
                refine lv_iload zx zb dX7_cross_150 (lv_at hl 1 rfl) ?_
                refine cvI (rest := [.int (iI (siI (S 24) (S 25) (S 26 p1) (S 27 p1) (S 26 p2)))]) (As := [.int (iI (S 26 p1)), .int (iI (S 27 p1)), .int (iI (S 27 p2))]) (b := g.1 23) C0 hH (c_X7_side l g S (S 26 p1) (S 27 p1) (S 27 p2) (by omega) (by omega) (by omega) (hC)) kw_X7_101 ky_X7_side ⟨Nat.le_of_ble_eq_true rfl, Nat.le_of_ble_eq_true rfl⟩ ⟨Nat.zero_le _, Nat.zero_le _⟩ 23 rfl rfl rfl hl.1 rfl (Nat.le_of_ble_eq_true rfl) dX7_cross_152 (fun H locs hH => ?_)
                refine bi_mul zx zb dX7_cross_155 ?_
                refine bz_gt (tgt := 186) zx zb dX7_cross_156 (by decide) ⟨by omega, by omega⟩ (fun zq156 => ?_) (fun zq156 => ?_)
                · refine bi_const (n := 0) zx zb dX7_cross_186 ?_
                  exact retZ C0 hret hlk hH (by unfold crM; rw [decide_eq_false zq34, decide_eq_false zq40, decide_eq_false zq47, decide_eq_false zq54]; first | (rw [b0 zq89]; rfl) | (rw [b1 zq89, b0 zq122]; rfl) | (rw [b1 zq89, b1 zq122, decide_eq_false (Int.not_le.mpr zq156)]; rfl) | (rw [b1 zq89, b1 zq122, decide_eq_true zq156, decide_eq_false (Int.not_le.mpr zq179)]; rfl) | (rw [b1 zq89, b1 zq122, decide_eq_true zq156, decide_eq_true zq179]; rfl)) (by omega) (rfl) dX7_cross_187
                · refine lv_aload_n zx zb dX7_cross_159 rfl (lv_at hl 5 rfl) ?_
                  refine lv_iload zx zb dX7_cross_160 (lv_at hl 2 rfl) ?_
                  refine lv_iload zx zb dX7_cross_162 (lv_at hl 1 rfl) ?_
                  refine lv_iload_n zx zb dX7_cross_164 rfl (lv_at hl 4 rfl) ?_
                  refine cvI (rest := []) (As := [.int (iI (S 26 p2)), .int (iI (S 27 p2)), .int (iI (S 26 p1))]) (b := g.1 23) C0 hH (c_X7_side l g S (S 26 p2) (S 27 p2) (S 26 p1) (by omega) (by omega) (by omega) (hC)) kw_X7_101 ky_X7_side ⟨Nat.le_of_ble_eq_true rfl, Nat.le_of_ble_eq_true rfl⟩ ⟨Nat.zero_le _, Nat.zero_le _⟩ 23 rfl rfl rfl hl.1 rfl (Nat.le_of_ble_eq_true rfl) dX7_cross_165 (fun H locs hH => ?_)
                  refine lv_aload_n zx zb dX7_cross_168 rfl (lv_at hl 5 rfl) ?_
                  refine lv_iload zx zb dX7_cross_169 (lv_at hl 2 rfl) ?_
                  refine lv_iload zx zb dX7_cross_171 (lv_at hl 1 rfl) ?_
                  refine lv_iload zx zb dX7_cross_173 (lv_at hl 3 rfl) ?_
                  refine cvI (rest := [.int (iI (siI (S 24) (S 25) (S 26 p2) (S 27 p2) (S 26 p1)))]) (As := [.int (iI (S 26 p2)), .int (iI (S 27 p2)), .int (iI (S 27 p1))]) (b := g.1 23) C0 hH (c_X7_side l g S (S 26 p2) (S 27 p2) (S 27 p1) (by omega) (by omega) (by omega) (hC)) kw_X7_101 ky_X7_side ⟨Nat.le_of_ble_eq_true rfl, Nat.le_of_ble_eq_true rfl⟩ ⟨Nat.zero_le _, Nat.zero_le _⟩ 23 rfl rfl rfl hl.1 rfl (Nat.le_of_ble_eq_true rfl) dX7_cross_175 (fun H locs hH => ?_)
                  refine bi_mul zx zb dX7_cross_178 ?_
                  refine bz_gt (tgt := 186) zx zb dX7_cross_179 (by decide) ⟨by omega, by omega⟩ (fun zq179 => ?_) (fun zq179 => ?_)
                  · refine bi_const (n := 0) zx zb dX7_cross_186 ?_
                    exact retZ C0 hret hlk hH (by unfold crM; rw [decide_eq_false zq34, decide_eq_false zq40, decide_eq_false zq47, decide_eq_false zq54]; first | (rw [b0 zq89]; rfl) | (rw [b1 zq89, b0 zq122]; rfl) | (rw [b1 zq89, b1 zq122, decide_eq_false (Int.not_le.mpr zq156)]; rfl) | (rw [b1 zq89, b1 zq122, decide_eq_true zq156, decide_eq_false (Int.not_le.mpr zq179)]; rfl) | (rw [b1 zq89, b1 zq122, decide_eq_true zq156, decide_eq_true zq179]; rfl)) (by omega) (rfl) dX7_cross_187
                  · refine bi_const (n := 1) zx zb dX7_cross_182 ?_
                    refine lv_goto (tgt := 187) zx zb dX7_cross_183 (by decide) ?_
                    exact retZ C0 hret hlk hH (by unfold crM; rw [decide_eq_false zq34, decide_eq_false zq40, decide_eq_false zq47, decide_eq_false zq54]; first | (rw [b0 zq89]; rfl) | (rw [b1 zq89, b0 zq122]; rfl) | (rw [b1 zq89, b1 zq122, decide_eq_false (Int.not_le.mpr zq156)]; rfl) | (rw [b1 zq89, b1 zq122, decide_eq_true zq156, decide_eq_false (Int.not_le.mpr zq179)]; rfl) | (rw [b1 zq89, b1 zq122, decide_eq_true zq156, decide_eq_true zq179]; rfl)) (by omega) (rfl) dX7_cross_187
        · refine bi_const (n := 0) zx zb dX7_cross_57 ?_
          exact retZ C0 hret hlk hH (by unfold crM; first | (rw [decide_eq_true zq34]; rfl) | (rw [decide_eq_false zq34, decide_eq_true zq40]; rfl) | (rw [decide_eq_false zq34, decide_eq_false zq40, decide_eq_true zq47]; rfl) | (rw [decide_eq_false zq34, decide_eq_false zq40, decide_eq_false zq47, decide_eq_true zq54]; rfl)) (by omega) (rfl) dX7_cross_58
set_option maxRecDepth 100000 in
set_option maxHeartbeats 4000000 in
theorem c_X7_votesNow (l : Launch) (g : gT) (S : gSt) (f n : Int) (hf : 0 ≤ f ∧ f < 8) (hn : -1 ≤ n ∧ n < 10) (hV : okV (S 29)) : MetG l g yX7_votesNow cX7_votesNow 5 (some .int) 0 0 [.ref (g.1 23), .int (iI f), .int (iI n)] S (some (.int (iI (vtI (S 29) f n)))) S := by
  refine bodyG (by decide +kernel) (Nat.le_of_ble_eq_true rfl) ?_
  intro p e s m args below meth c ls C0 hret hlk hl hH
  have zx := C0.1
  have zb := C0.2.1
  have hl : lv_has ls 5 [(0, .ref (g.1 23)), (1, .int (iI f)), (2, .int (iI n))] := hl
  have L5 : ∀ (μ : Nat) (i : Int) (a : Int), (6 - i).toNat = μ → (0 ≤ i ∧ i ≤ 6) → (vtI (S 29) f n = lpF (cnQ (fun v => decide (S 29 (6 * f + v) = n + 1))) (6 - i).toNat i a) → ∀ (H : Heap) (locs : List Loc), Hp g S s H locs → ∀ ls : Array Slot, lv_has ls 5 [(0, .ref (g.1 23)), (1, .int (iI f)), (2, .int (iI n)), (3, .int (iI a)), (4, .int (iI i))] → W p l e { frames := 0, cells := 0, slots := 0, locals := 0 } s m args below meth c H locs 0 0 (MQ below (RetG g (some (.int (iI (vtI (S 29) f n)))) S) args s 0 0 (oA g)) (F0 m 5 ls []) := by
    refine lpN (fun μ5 ih5 => ?_)
    intro i a hμ5 hi hR H locs hH ls hl
    refine lv_iload zx zb dX7_votesNow_5 (lv_at hl 4 rfl) ?_
    refine bi_bip (n := 6) zx zb dX7_votesNow_7 (by decide) ?_
    refine bq_ge (tgt := 44) zx zb dX7_votesNow_9 (by decide) ⟨by omega, by omega⟩ ⟨by omega, by omega⟩ (fun zq9 => ?_) (fun zq9 => ?_)
    · refine lv_iload_n zx zb dX7_votesNow_44 rfl (lv_at hl 3 rfl) ?_
      exact retI C0 hret hlk hH (by rw [hR, lpF_e zq9]) (rfl) dX7_votesNow_45
    · have hv := hV (6 * f + i) (by omega) (by omega)
      refine lv_iload_n zx zb dX7_votesNow_12 rfl (lv_at hl 3 rfl) ?_
      refine lv_aload_n zx zb dX7_votesNow_13 rfl (lv_at hl 0 rfl) ?_
      refine gf_X7_25 C0 hH dX7_votesNow_14 ?_
      refine bi_bip (n := 6) zx zb dX7_votesNow_17 (by decide) ?_
      refine lv_iload_n zx zb dX7_votesNow_19 rfl (lv_at hl 1 rfl) ?_
      refine bi_mul zx zb dX7_votesNow_20 ?_
      refine lv_iload zx zb dX7_votesNow_21 (lv_at hl 4 rfl) ?_
      refine bi_add zx zb dX7_votesNow_23 ?_
      refine al_29 C0 hH (by omega) (by omega) dX7_votesNow_24 ?_
      refine lv_iload_n zx zb dX7_votesNow_25 rfl (lv_at hl 2 rfl) ?_
      refine bi_const (n := 1) zx zb dX7_votesNow_26 ?_
      refine bi_add zx zb dX7_votesNow_27 ?_
      refine bq_ne (tgt := 35) zx zb dX7_votesNow_28 (by decide) ⟨by omega, by omega⟩ ⟨by omega, by omega⟩ (fun zq28 => ?_) (fun zq28 => ?_)
      · refine bi_const (n := 0) zx zb dX7_votesNow_35 ?_
        refine bi_add zx zb dX7_votesNow_36 ?_
        refine lv_istore_n (lv' := [(3, .int (iI (a + 0))), (0, .ref (g.1 23)), (1, .int (iI f)), (2, .int (iI n)), (4, .int (iI i))]) zx zb dX7_votesNow_37 rfl hl (by decide) rfl (fun ls hl => ?_)
        refine bi_inc (k0 := 4) (n := 1) (lv' := [(4, .int (iI (i + 1))), (3, .int (iI (a + 0))), (0, .ref (g.1 23)), (1, .int (iI f)), (2, .int (iI n))]) zx zb dX7_votesNow_38 hl rfl (by decide) rfl (fun ls hl => ?_)
        refine lv_goto (tgt := 5) zx zb dX7_votesNow_41 (by decide) ?_
        exact ih5 ((6 - (i + 1)).toNat) (by omega) (i + 1) (a + 0) rfl (by omega) (by rw [hR, lpF_s zq9, show cnQ (fun v => decide (S 29 (6 * f + v) = n + 1)) i a = (a + 0) from (by first | exact (cnQ_0 (decide_eq_false zq28)).trans (Int.add_zero a).symm | exact cnQ_1 (decide_eq_true zq28))]) _ _ hH ls (lv_sub hl [2, 3, 4, 1, 0] rfl)
      · refine bi_const (n := 1) zx zb dX7_votesNow_31 ?_
        refine lv_goto (tgt := 36) zx zb dX7_votesNow_32 (by decide) ?_
        refine bi_add zx zb dX7_votesNow_36 ?_
        refine lv_istore_n (lv' := [(3, .int (iI (a + 1))), (0, .ref (g.1 23)), (1, .int (iI f)), (2, .int (iI n)), (4, .int (iI i))]) zx zb dX7_votesNow_37 rfl hl (by decide) rfl (fun ls hl => ?_)
        refine bi_inc (k0 := 4) (n := 1) (lv' := [(4, .int (iI (i + 1))), (3, .int (iI (a + 1))), (0, .ref (g.1 23)), (1, .int (iI f)), (2, .int (iI n))]) zx zb dX7_votesNow_38 hl rfl (by decide) rfl (fun ls hl => ?_)
        refine lv_goto (tgt := 5) zx zb dX7_votesNow_41 (by decide) ?_
        exact ih5 ((6 - (i + 1)).toNat) (by omega) (i + 1) (a + 1) rfl (by omega) (by rw [hR, lpF_s zq9, show cnQ (fun v => decide (S 29 (6 * f + v) = n + 1)) i a = (a + 1) from (by first | exact (cnQ_0 (decide_eq_false zq28)).trans (Int.add_zero a).symm | exact cnQ_1 (decide_eq_true zq28))]) _ _ hH ls (lv_sub hl [2, 3, 4, 1, 0] rfl)
  obtain ⟨H, hHe⟩ : ∃ H : Heap, H = s.heap := ⟨_, rfl⟩
  rw [show (Hp g S s s.heap []) = Hp g S s H [] by rw [hHe]] at hH
  rw [← hHe]
  refine bi_const (n := 0) zx zb dX7_votesNow_0 ?_
  refine lv_istore_n (lv' := [(3, .int (iI 0)), (0, .ref (g.1 23)), (1, .int (iI f)), (2, .int (iI n))]) zx zb dX7_votesNow_1 rfl hl (by decide) rfl (fun ls hl => ?_)
  refine bi_const (n := 0) zx zb dX7_votesNow_2 ?_
  refine lv_istore (lv' := [(4, .int (iI 0)), (3, .int (iI 0)), (0, .ref (g.1 23)), (1, .int (iI f)), (2, .int (iI n))]) zx zb dX7_votesNow_3 hl (by decide) rfl (fun ls hl => ?_)
  exact L5 _ 0 0 rfl (by omega) (by unfold vtI; rw [Int.sub_zero]) _ _ hH ls (lv_sub hl [2, 3, 4, 1, 0] rfl)
set_option maxRecDepth 100000 in
set_option maxHeartbeats 4000000 in
theorem c_X7_gives (l : Launch) (g : gT) (S : gSt) (hnf : 0 ≤ S 23 7 ∧ S 23 7 ≤ 8) (hV : okV (S 29)) : MetG l g yX7_gives cX7_gives 5 none 1 24 [.ref (g.1 23)] S none (gvM S) := by
  refine bodyG (by decide +kernel) (Nat.le_of_ble_eq_true rfl) ?_
  intro p e s m args below meth c ls C0 hret hlk hl hH
  have zx := C0.1
  have zb := C0.2.1
  have hl : lv_has ls 5 [(0, .ref (g.1 23))] := hl
  have L26 : ∀ (μ : Nat) (k : Nat) (v : Int) (G : Int → Int), v.toNat = μ → (k < 1024) → (0 ≤ v ∧ v ≤ 6) → (∀ j : Int, 0 ≤ j → j < 8 → -1 ≤ G j ∧ G j < 10) → (nmM (vtI (S 29)) (S 23 7) (S 30) = (lpF (giB (vtI (S 29)) (S 23 7)) v.toNat (6 - v) (G, k)).1) → ∀ (H : Heap) (locs : List Loc), Hp g (sA S 30 G) s H locs → ∀ ls : Array Slot, lv_has ls 5 [(0, .ref (g.1 23)), (1, .int (iI ((k : Nat) : Int))), (2, .int (iI v))] → W p l e { frames := 1, cells := 0, slots := 0, locals := 24 } s m args below meth c H locs 0 0 (MQ below (RetG g none (gvM S)) args s 0 0 (oA g)) (F0 m 26 ls []) := by
    refine lpN (fun μ26 ih26 => ?_)
    intro k v G hμ26 hk hv hG hR H locs hH ls hl
    have L32 : ∀ (μ : Nat) (k : Nat) (f : Int) (G : Int → Int), (S 23 7 - f).toNat = μ → (k < 1024) → (1 ≤ v ∧ v ≤ 6) → (0 ≤ f ∧ f ≤ S 23 7) → (∀ j : Int, 0 ≤ j → j < 8 → -1 ≤ G j ∧ G j < 10) → (nmM (vtI (S 29)) (S 23 7) (S 30) = (lpF (giB (vtI (S 29)) (S 23 7)) (v - 1).toNat (7 - v) (lpF (giA (vtI (S 29)) v) (S 23 7 - f).toNat f (G, k))).1) → ∀ (H : Heap) (locs : List Loc), Hp g (sA S 30 G) s H locs → ∀ ls : Array Slot, lv_has ls 5 [(0, .ref (g.1 23)), (1, .int (iI ((k : Nat) : Int))), (2, .int (iI v)), (3, .int (iI f))] → W p l e { frames := 1, cells := 0, slots := 0, locals := 24 } s m args below meth c H locs 0 0 (MQ below (RetG g none (gvM S)) args s 0 0 (oA g)) (F0 m 32 ls []) := by
      refine lpN (fun μ32 ih32 => ?_)
      intro k f G hμ32 hk hv2 hf hG hR H locs hH ls hl
      have L43 : ∀ (μ : Nat) (k : Nat) (n : Int) (G : Int → Int), (10 - n).toNat = μ → (k < 1024) → (1 ≤ v ∧ v ≤ 6) → (f < S 23 7) → (0 ≤ n ∧ n ≤ 10) → (∀ j : Int, 0 ≤ j → j < 8 → -1 ≤ G j ∧ G j < 10) → (nmM (vtI (S 29)) (S 23 7) (S 30) = (lpF (giB (vtI (S 29)) (S 23 7)) (v - 1).toNat (7 - v) (lpF (giA (vtI (S 29)) v) (S 23 7 - (f + 1)).toNat (f + 1) (lpF (giS (vtI (S 29)) v f) (10 - n).toNat n (G, k)))).1) → ∀ (H : Heap) (locs : List Loc), Hp g (sA S 30 G) s H locs → ∀ ls : Array Slot, lv_has ls 5 [(0, .ref (g.1 23)), (1, .int (iI ((k : Nat) : Int))), (2, .int (iI v)), (3, .int (iI f)), (4, .int (iI n))] → W p l e { frames := 1, cells := 0, slots := 0, locals := 24 } s m args below meth c H locs 0 0 (MQ below (RetG g none (gvM S)) args s 0 0 (oA g)) (F0 m 43 ls []) := by
        refine lpN (fun μ43 ih43 => ?_)
        intro k n G hμ43 hk hv3 hf2 hn hG hR H locs hH ls hl
        refine lv_iload zx zb dX7_gives_43 (lv_at hl 4 rfl) ?_
        refine bi_bip (n := 10) zx zb dX7_gives_45 (by decide) ?_
        refine bq_ge (tgt := 101) zx zb dX7_gives_47 (by decide) ⟨by omega, by omega⟩ ⟨by omega, by omega⟩ (fun zq47 => ?_) (fun zq47 => ?_)
        · refine bi_inc (k0 := 3) (n := 1) (lv' := [(3, .int (iI (f + 1))), (0, .ref (g.1 23)), (1, .int (iI ((k : Nat) : Int))), (2, .int (iI v)), (4, .int (iI n))]) zx zb dX7_gives_101 hl rfl (by decide) rfl (fun ls hl => ?_)
          refine lv_goto (tgt := 32) zx zb dX7_gives_104 (by decide) ?_
          exact ih32 ((S 23 7 - (f + 1)).toNat) (by omega) k (f + 1) G rfl (by omega) (by omega) (by omega) (by exact hG) (by rw [hR, lpF_e (n := 10) zq47]) _ _ hH ls (lv_sub hl [1, 2, 3, 0] rfl)
        · have hg := hG f (by omega) (by omega)
          refine lv_aload_n zx zb dX7_gives_50 rfl (lv_at hl 0 rfl) ?_
          refine gf_X7_28 C0 hH dX7_gives_51 ?_
          refine lv_iload_n zx zb dX7_gives_54 rfl (lv_at hl 3 rfl) ?_
          refine al_30 C0 hH (by omega) (by omega) dX7_gives_55 ?_
          show W p l e _ s m args below meth c H _ _ _ _ (F0 m 56 ls [.int (iI ((sA S 30 G) 30 f))])
          rw [show sA S 30 G 30 = G from sA_s _ _ _]
          refine bi_const (n := (-1)) zx zb dX7_gives_56 ?_
          refine bq_ne (tgt := 95) zx zb dX7_gives_57 (by decide) ⟨by omega, by omega⟩ ⟨by omega, by omega⟩ (fun zq57 => ?_) (fun zq57 => ?_)
          · refine bi_inc (k0 := 4) (n := 1) (lv' := [(4, .int (iI (n + 1))), (0, .ref (g.1 23)), (1, .int (iI ((k : Nat) : Int))), (2, .int (iI v)), (3, .int (iI f))]) zx zb dX7_gives_95 hl rfl (by decide) rfl (fun ls hl => ?_)
            refine lv_goto (tgt := 43) zx zb dX7_gives_98 (by decide) ?_
            exact ih43 ((10 - (n + 1)).toNat) (by omega) k (n + 1) G rfl (by omega) (by omega) (by omega) (by omega) (by exact hG) (by first | (rw [hR, lpF_s (n := 10) zq47, giS_0a zq57]; done) | (rw [hR, lpF_s (n := 10) zq47, giS_0b zq66]; done) | (rw [hR, lpF_s (n := 10) zq47, giS_0c (T := vtI (S 29)) (f := f) (n := n) (v := v) zq77]; done)) _ _ hH ls (lv_sub hl [1, 2, 3, 4, 0] rfl)
          · refine lv_iload_n zx zb dX7_gives_60 rfl (lv_at hl 1 rfl) ?_
            refine lv_iload zx zb dX7_gives_61 (lv_at hl 4 rfl) ?_
            refine bi_shr (a := k) zx zb dX7_gives_63 (by omega) (by omega) (by omega) ?_
            refine bi_const (n := 1) zx zb dX7_gives_64 ?_
            refine bi_and (a := k / 2 ^ n.toNat) (b := 1) zx zb dX7_gives_65 ?_
            have hz66 : (k / 2 ^ n.toNat &&& 1 : Nat) ≤ 1 := Nat.and_le_right
            refine bz_ne (tgt := 95) zx zb dX7_gives_66 (by decide) ⟨by omega, by omega⟩ (fun zq66 => ?_) (fun zq66 => ?_)
            · refine bi_inc (k0 := 4) (n := 1) (lv' := [(4, .int (iI (n + 1))), (0, .ref (g.1 23)), (1, .int (iI ((k : Nat) : Int))), (2, .int (iI v)), (3, .int (iI f))]) zx zb dX7_gives_95 hl rfl (by decide) rfl (fun ls hl => ?_)
              refine lv_goto (tgt := 43) zx zb dX7_gives_98 (by decide) ?_
              exact ih43 ((10 - (n + 1)).toNat) (by omega) k (n + 1) G rfl (by omega) (by omega) (by omega) (by omega) (by exact hG) (by first | (rw [hR, lpF_s (n := 10) zq47, giS_0a zq57]; done) | (rw [hR, lpF_s (n := 10) zq47, giS_0b zq66]; done) | (rw [hR, lpF_s (n := 10) zq47, giS_0c (T := vtI (S 29)) (f := f) (n := n) (v := v) zq77]; done)) _ _ hH ls (lv_sub hl [1, 2, 3, 4, 0] rfl)
            · refine lv_aload_n zx zb dX7_gives_69 rfl (lv_at hl 0 rfl) ?_
              refine lv_iload_n zx zb dX7_gives_70 rfl (lv_at hl 3 rfl) ?_
              refine lv_iload zx zb dX7_gives_71 (lv_at hl 4 rfl) ?_
              refine cvI (rest := []) (As := [.int (iI f), .int (iI n)]) (b := g.1 23) C0 hH (c_X7_votesNow l g (sA S 30 G) f n (by omega) (by omega) (hV)) kw_X7_108 ky_X7_votesNow ⟨Nat.le_of_ble_eq_true rfl, Nat.le_of_ble_eq_true rfl⟩ ⟨Nat.zero_le _, Nat.zero_le _⟩ 23 rfl rfl rfl hl.1 rfl (Nat.le_of_ble_eq_true rfl) dX7_gives_73 (fun H locs hH => ?_)
              show W p l e _ s m args below meth c H _ _ _ _ (F0 m 76 ls [.int (iI (vtI (S 29) f n))])
              refine lv_iload_n zx zb dX7_gives_76 rfl (lv_at hl 2 rfl) ?_
              have hvb := vtI_b (S 29) f n
              refine bq_ne (tgt := 95) zx zb dX7_gives_77 (by decide) ⟨by (first | omega | exact Int.le_trans (by decide) hvb.1 | exact Int.lt_of_le_of_lt hvb.2 (by decide)), by (first | omega | exact Int.le_trans (by decide) hvb.1 | exact Int.lt_of_le_of_lt hvb.2 (by decide))⟩ ⟨by omega, by omega⟩ (fun zq77 => ?_) (fun zq77 => ?_)
              · refine bi_inc (k0 := 4) (n := 1) (lv' := [(4, .int (iI (n + 1))), (0, .ref (g.1 23)), (1, .int (iI ((k : Nat) : Int))), (2, .int (iI v)), (3, .int (iI f))]) zx zb dX7_gives_95 hl rfl (by decide) rfl (fun ls hl => ?_)
                refine lv_goto (tgt := 43) zx zb dX7_gives_98 (by decide) ?_
                exact ih43 ((10 - (n + 1)).toNat) (by omega) k (n + 1) G rfl (by omega) (by omega) (by omega) (by omega) (by exact hG) (by first | (rw [hR, lpF_s (n := 10) zq47, giS_0a zq57]; done) | (rw [hR, lpF_s (n := 10) zq47, giS_0b zq66]; done) | (rw [hR, lpF_s (n := 10) zq47, giS_0c (T := vtI (S 29)) (f := f) (n := n) (v := v) zq77]; done)) _ _ hH ls (lv_sub hl [1, 2, 3, 4, 0] rfl)
              · refine lv_aload_n zx zb dX7_gives_80 rfl (lv_at hl 0 rfl) ?_
                refine gf_X7_28 C0 hH dX7_gives_81 ?_
                refine lv_iload_n zx zb dX7_gives_84 rfl (lv_at hl 3 rfl) ?_
                refine lv_iload zx zb dX7_gives_85 (lv_at hl 4 rfl) ?_
                refine as_30 C0 hH (by omega) (by omega) dX7_gives_87 (fun H locs hH => ?_)
                refine lv_iload_n zx zb dX7_gives_88 rfl (lv_at hl 1 rfl) ?_
                refine bi_const (n := 1) zx zb dX7_gives_89 ?_
                refine lv_iload zx zb dX7_gives_90 (lv_at hl 4 rfl) ?_
                refine bi_shl zx zb dX7_gives_92 (by omega) (by omega) ?_
                refine bi_or (a := k) (b := 2 ^ n.toNat) zx zb dX7_gives_93 ?_
                refine lv_istore_n (lv' := [(1, .int (iI ((k ||| (2 ^ n.toNat) : Nat) : Int))), (0, .ref (g.1 23)), (2, .int (iI v)), (3, .int (iI f)), (4, .int (iI n))]) zx zb dX7_gives_94 rfl hl (by decide) rfl (fun ls hl => ?_)
                refine bi_inc (k0 := 4) (n := 1) (lv' := [(4, .int (iI (n + 1))), (1, .int (iI ((k ||| (2 ^ n.toNat) : Nat) : Int))), (0, .ref (g.1 23)), (2, .int (iI v)), (3, .int (iI f))]) zx zb dX7_gives_95 hl rfl (by decide) rfl (fun ls hl => ?_)
                refine lv_goto (tgt := 43) zx zb dX7_gives_98 (by decide) ?_
                exact ih43 ((10 - (n + 1)).toNat) (by omega) (k ||| (2 ^ n.toNat)) (n + 1) (ud G f n) rfl (by exact or_1024 hk (Nat.lt_of_lt_of_le (Nat.pow_lt_pow_right (by decide) (show n.toNat < 10 by omega)) (by decide))) (by omega) (by omega) (by omega) (by intro j h0 h1; unfold ud; split; exact ⟨by omega, by omega⟩; exact hG j h0 h1) (by rw [hR, lpF_s (n := 10) zq47, giS_1 (T := vtI (S 29)) (f := f) (n := n) (v := v) zq57 zq66 zq77]) _ _ (hp_eq (by rw [st_sA, sA_sA, sA_s]) hH) ls (lv_sub hl [2, 1, 3, 4, 0] rfl)
      refine lv_iload_n zx zb dX7_gives_32 rfl (lv_at hl 3 rfl) ?_
      refine lv_aload_n zx zb dX7_gives_33 rfl (lv_at hl 0 rfl) ?_
      refine gf_X7_48 C0 hH dX7_gives_34 ?_
      show W p l e _ s m args below meth c H _ _ _ _ (F0 m 37 ls [.int (iI (S 23 7)), .int (iI f)])
      refine bq_ge (tgt := 107) zx zb dX7_gives_37 (by decide) ⟨by omega, by omega⟩ ⟨by omega, by omega⟩ (fun zq37 => ?_) (fun zq37 => ?_)
      · refine bi_inc (k0 := 2) (n := (-1)) (lv' := [(2, .int (iI (v + (-1)))), (0, .ref (g.1 23)), (1, .int (iI ((k : Nat) : Int))), (3, .int (iI f))]) zx zb dX7_gives_107 hl rfl (by decide) rfl (fun ls hl => ?_)
        refine lv_goto (tgt := 26) zx zb dX7_gives_110 (by decide) ?_
        exact ih26 ((v + (-1)).toNat) (by omega) k (v + (-1)) G rfl (by omega) (by omega) (by exact hG) (by rw [hR, lpF_e (n := S 23 7) zq37, show v + -1 = v - 1 by omega, show 6 - (v - 1) = 7 - v by omega]) _ _ hH ls (lv_sub hl [1, 2, 0] rfl)
      · refine bi_const (n := 0) zx zb dX7_gives_40 ?_
        refine lv_istore (lv' := [(4, .int (iI 0)), (0, .ref (g.1 23)), (1, .int (iI ((k : Nat) : Int))), (2, .int (iI v)), (3, .int (iI f))]) zx zb dX7_gives_41 hl (by decide) rfl (fun ls hl => ?_)
        exact L43 _ k 0 G rfl (by omega) (by omega) (by omega) (by omega) (by exact hG) (by rw [hR, lpF_s zq37]; rfl) _ _ hH ls (lv_sub hl [1, 2, 3, 4, 0] rfl)
    refine lv_iload_n zx zb dX7_gives_26 rfl (lv_at hl 2 rfl) ?_
    refine bz_le (tgt := 113) zx zb dX7_gives_27 (by decide) ⟨by omega, by omega⟩ (fun zq27 => ?_) (fun zq27 => ?_)
    · exact retV C0 hret hlk hH (by unfold gvM; rw [hR, show v = 0 by omega]; rfl) dX7_gives_113
    · refine bi_const (n := 0) zx zb dX7_gives_30 ?_
      refine lv_istore_n (lv' := [(3, .int (iI 0)), (0, .ref (g.1 23)), (1, .int (iI ((k : Nat) : Int))), (2, .int (iI v))]) zx zb dX7_gives_31 rfl hl (by decide) rfl (fun ls hl => ?_)
      exact L32 _ k 0 G rfl (by omega) (by omega) (by omega) (by exact hG) (by rw [hR, gi_in (by omega)]) _ _ hH ls (lv_sub hl [1, 2, 3, 0] rfl)
  have L4 : ∀ (μ : Nat) (i : Int), (8 - i).toNat = μ → (0 ≤ i ∧ i ≤ 8) → ∀ (H : Heap) (locs : List Loc), Hp g (sA S 30 (fillA i (-1) (S 30))) s H locs → ∀ ls : Array Slot, lv_has ls 5 [(0, .ref (g.1 23)), (1, .int (iI 0)), (2, .int (iI i))] → W p l e { frames := 1, cells := 0, slots := 0, locals := 24 } s m args below meth c H locs 0 0 (MQ below (RetG g none (gvM S)) args s 0 0 (oA g)) (F0 m 4 ls []) := by
    refine lpN (fun μ4 ih4 => ?_)
    intro i hμ4 hi H locs hH ls hl
    refine lv_iload_n zx zb dX7_gives_4 rfl (lv_at hl 2 rfl) ?_
    refine bi_bip (n := 8) zx zb dX7_gives_5 (by decide) ?_
    refine bq_ge (tgt := 23) zx zb dX7_gives_7 (by decide) ⟨by omega, by omega⟩ ⟨by omega, by omega⟩ (fun zq7 => ?_) (fun zq7 => ?_)
    · refine bi_bip (n := 6) zx zb dX7_gives_23 (by decide) ?_
      refine lv_istore_n (lv' := [(2, .int (iI 6)), (0, .ref (g.1 23)), (1, .int (iI 0))]) zx zb dX7_gives_25 rfl hl (by decide) rfl (fun ls hl => ?_)
      exact L26 _ 0 6 (fillA 8 (-1) (S 30)) rfl (by omega) (by omega) (by intro j h0 h1; unfold fillA; rw [if_pos ⟨h0, h1⟩]; omega) (by rfl) _ _ (hp_eq (by rw [show i = 8 by omega]) hH) ls (lv_sub hl [1, 2, 0] rfl)
    · refine lv_aload_n zx zb dX7_gives_10 rfl (lv_at hl 0 rfl) ?_
      refine gf_X7_28 C0 hH dX7_gives_11 ?_
      refine lv_iload_n zx zb dX7_gives_14 rfl (lv_at hl 2 rfl) ?_
      refine bi_const (n := (-1)) zx zb dX7_gives_15 ?_
      refine as_30 C0 hH (by omega) (by omega) dX7_gives_16 (fun H locs hH => ?_)
      refine bi_inc (k0 := 2) (n := 1) (lv' := [(2, .int (iI (i + 1))), (0, .ref (g.1 23)), (1, .int (iI 0))]) zx zb dX7_gives_17 hl rfl (by decide) rfl (fun ls hl => ?_)
      refine lv_goto (tgt := 4) zx zb dX7_gives_20 (by decide) ?_
      exact ih4 ((8 - (i + 1)).toNat) (by omega) (i + 1) rfl (by omega) _ _ (hp_eq (by rw [st_sA, sA_sA, sA_s, fillA_s _ _ hi.1]) hH) ls (lv_sub hl [1, 2, 0] rfl)
  obtain ⟨H, hHe⟩ : ∃ H : Heap, H = s.heap := ⟨_, rfl⟩
  rw [show (Hp g S s s.heap []) = Hp g S s H [] by rw [hHe]] at hH
  rw [← hHe]
  refine bi_const (n := 0) zx zb dX7_gives_0 ?_
  refine lv_istore_n (lv' := [(1, .int (iI 0)), (0, .ref (g.1 23))]) zx zb dX7_gives_1 rfl hl (by decide) rfl (fun ls hl => ?_)
  refine bi_const (n := 0) zx zb dX7_gives_2 ?_
  refine lv_istore_n (lv' := [(2, .int (iI 0)), (1, .int (iI 0)), (0, .ref (g.1 23))]) zx zb dX7_gives_3 rfl hl (by decide) rfl (fun ls hl => ?_)
  exact L4 _ 0 rfl (by omega) _ _ (hp_eq (by rw [fillA_0, sA_id]) hH) ls (lv_sub hl [2, 1, 0] rfl)
set_option maxRecDepth 100000 in
set_option maxHeartbeats 4000000 in
theorem c_X7_nameNow (l : Launch) (g : gT) (S : gSt) (f : Int) (hf : 0 ≤ f ∧ f < 8) (hnf : 0 ≤ S 23 7 ∧ S 23 7 ≤ 8) (hV : okV (S 29)) : MetG l g yX7_nameNow cX7_nameNow 2 (some .int) 2 48 [.ref (g.1 23), .int (iI f)] S (some (.int (iI (nmM (vtI (S 29)) (S 23 7) (S 30) f)))) (gvM S) := by
  refine bodyG (by decide +kernel) (Nat.le_of_ble_eq_true rfl) ?_
  intro p e s m args below meth c ls C0 hret hlk hl hH
  have zx := C0.1
  have zb := C0.2.1
  have hl : lv_has ls 2 [(0, .ref (g.1 23)), (1, .int (iI f))] := hl
  obtain ⟨H, hHe⟩ : ∃ H : Heap, H = s.heap := ⟨_, rfl⟩
  rw [show (Hp g S s s.heap []) = Hp g S s H [] by rw [hHe]] at hH
  rw [← hHe]
  refine lv_aload_n zx zb dX7_nameNow_0 rfl (lv_at hl 0 rfl) ?_
  refine cvN (rest := []) (As := []) (b := g.1 23) C0 hH (c_X7_gives l g S (by omega) (hV)) kw_X7_112 ky_X7_gives ⟨Nat.le_of_ble_eq_true rfl, Nat.le_of_ble_eq_true rfl⟩ ⟨Nat.zero_le _, Nat.zero_le _⟩ 23 rfl rfl rfl hl.1 rfl (Nat.le_of_ble_eq_true rfl) dX7_nameNow_1 (fun H locs hH => ?_)
  refine lv_aload_n zx zb dX7_nameNow_4 rfl (lv_at hl 0 rfl) ?_
  refine gf_X7_28 C0 hH dX7_nameNow_5 ?_
  refine lv_iload_n zx zb dX7_nameNow_8 rfl (lv_at hl 1 rfl) ?_
  refine al_30 C0 hH (by omega) (by omega) dX7_nameNow_9 ?_
  show W p l e _ s m args below meth c H _ _ _ _ (F0 m 10 ls [.int (iI ((gvM S) 30 f))])
  exact retI C0 hret hlk hH (by rfl) (rfl) dX7_nameNow_10
set_option maxRecDepth 100000 in
set_option maxHeartbeats 4000000 in
theorem c_X7_quotient (l : Launch) (g : gT) (S : gSt) (x : Int) (hr_x : -2147483648 ≤ x ∧ x < 2147483648) : MetG l g yX7_quotient cX7_quotient 2 (some .int) 0 0 [.int (iI x), .int (iI 1000)] S (some (.int (iI (x / 1000)))) S := by
  refine bodyG (by decide +kernel) (Nat.le_of_ble_eq_true rfl) ?_
  intro p e s m args below meth c ls C0 hret hlk hl hH
  have zx := C0.1
  have zb := C0.2.1
  have hl : lv_has ls 2 [(0, .int (iI x)), (1, .int (iI 1000))] := hl
  obtain ⟨H, hHe⟩ : ∃ H : Heap, H = s.heap := ⟨_, rfl⟩
  rw [show (Hp g S s s.heap []) = Hp g S s H [] by rw [hHe]] at hH
  rw [← hHe]
  refine lv_iload_n zx zb dX7_quotient_0 rfl (lv_at hl 0 rfl) ?_
  refine lv_iload_n zx zb dX7_quotient_1 rfl (lv_at hl 1 rfl) ?_
  refine bi_div zx zb dX7_quotient_2 ⟨by omega, by omega⟩ ⟨by omega, by omega⟩ (by omega) ?_
  have e4 : (0 ≤ x ∧ x.tdiv 1000 = x / 1000 ∧ x.tmod 1000 = x % 1000) ∨ (x < 0 ∧ x.tdiv 1000 = -((-x) / 1000) ∧ x.tmod 1000 = -((-x) % 1000)) := by by_cases h : 0 ≤ x; (exact Or.inl ⟨h, td_p h, tm_p h⟩); (exact Or.inr ⟨by omega, td_n (by omega), tm_n (by omega)⟩)
  refine lv_iload_n zx zb dX7_quotient_3 rfl (lv_at hl 0 rfl) ?_
  refine lv_iload_n zx zb dX7_quotient_4 rfl (lv_at hl 1 rfl) ?_
  refine bi_rem zx zb dX7_quotient_5 ⟨by omega, by omega⟩ ⟨by omega, by omega⟩ (by omega) ?_
  refine bz_ge (tgt := 13) zx zb dX7_quotient_6 (by decide) ⟨by omega, by omega⟩ (fun zq6 => ?_) (fun zq6 => ?_)
  · refine bi_const (n := 0) zx zb dX7_quotient_13 ?_
    refine bi_sub zx zb dX7_quotient_14 ?_
    exact retI C0 hret hlk hH (by omega) (rfl) dX7_quotient_15
  · refine bi_const (n := 1) zx zb dX7_quotient_9 ?_
    refine lv_goto (tgt := 14) zx zb dX7_quotient_10 (by decide) ?_
    refine bi_sub zx zb dX7_quotient_14 ?_
    exact retI C0 hret hlk hH (by omega) (rfl) dX7_quotient_15
set_option maxRecDepth 100000 in
set_option maxHeartbeats 4000000 in
theorem c_X7_sine (l : Launch) (g : gT) (S : gSt) (a : Int) (hr_a : -2147483648 ≤ a ∧ a < 2147483648) : MetG l g yX7_sine cX7_sine 4 (some .int) 0 0 [.int (iI a)] S (some (.int (iI (sn a)))) S := by
  refine bodyG (by decide +kernel) (Nat.le_of_ble_eq_true rfl) ?_
  intro p e s m args below meth c ls C0 hret hlk hl hH
  have zx := C0.1
  have zb := C0.2.1
  have hl : lv_has ls 4 [(0, .int (iI a))] := hl
  obtain ⟨H, hHe⟩ : ∃ H : Heap, H = s.heap := ⟨_, rfl⟩
  rw [show (Hp g S s s.heap []) = Hp g S s H [] by rw [hHe]] at hH
  rw [← hHe]
  refine lv_iload_n zx zb dX7_sine_0 rfl (lv_at hl 0 rfl) ?_
  refine bi_sip (n := 360) zx zb dX7_sine_1 (by decide) ?_
  refine bi_rem zx zb dX7_sine_4 ⟨by omega, by omega⟩ ⟨by omega, by omega⟩ (by omega) ?_
  have e4 : (0 ≤ a ∧ a.tmod 360 = a % 360) ∨ (a < 0 ∧ a.tmod 360 = -((-a) % 360)) := by by_cases h : 0 ≤ a; (exact Or.inl ⟨h, tm_p h⟩); (exact Or.inr ⟨by omega, tm_n (by omega)⟩)
  refine bi_sip (n := 360) zx zb dX7_sine_5 (by decide) ?_
  refine bi_add zx zb dX7_sine_8 ?_
  refine bi_sip (n := 360) zx zb dX7_sine_9 (by decide) ?_
  refine bi_rem zx zb dX7_sine_12 ⟨by omega, by omega⟩ ⟨by omega, by omega⟩ (by omega) ?_
  rw [tm_p (show 0 ≤ a.tmod 360 + 360 by omega), show (a.tmod 360 + 360) % 360 = a % 360 by omega]
  refine lv_istore_n (lv' := [(1, .int (iI (a % 360))), (0, .int (iI a))]) zx zb dX7_sine_13 rfl hl (by decide) rfl (fun ls hl => ?_)
  refine lv_iload_n zx zb dX7_sine_14 rfl (lv_at hl 0 rfl) ?_
  refine bi_sip (n := 180) zx zb dX7_sine_15 (by decide) ?_
  refine bi_rem zx zb dX7_sine_18 ⟨by omega, by omega⟩ ⟨by omega, by omega⟩ (by omega) ?_
  rw [tm_p (show 0 ≤ a % 360 by omega)]
  refine lv_istore_n (lv' := [(2, .int (iI (a % 360 % 180))), (1, .int (iI (a % 360))), (0, .int (iI a))]) zx zb dX7_sine_19 rfl hl (by decide) rfl (fun ls hl => ?_)
  refine bi_sip (n := 4000) zx zb dX7_sine_20 (by decide) ?_
  refine lv_iload_n zx zb dX7_sine_23 rfl (lv_at hl 0 rfl) ?_
  refine bi_mul zx zb dX7_sine_24 ?_
  refine bi_sip (n := 180) zx zb dX7_sine_25 (by decide) ?_
  refine lv_iload_n zx zb dX7_sine_28 rfl (lv_at hl 0 rfl) ?_
  refine bi_sub zx zb dX7_sine_29 ?_
  refine bi_mul zx zb dX7_sine_30 ?_
  have hpb := prod_b (h := a % 360 % 180) (by omega) (by omega)
  obtain ⟨P, hP⟩ : ∃ P : Int, P = a % 360 % 180 * (180 - a % 360 % 180) := ⟨_, rfl⟩
  rw [Int.mul_assoc, ← hP]
  rw [← hP] at hpb
  refine bi_ldc (n := 40500) zx zb C0.2.2.2.1 (C0.2.2.2.2.1.w (gm 759 (by decide +kernel) rfl)) dX7_sine_31 ?_
  refine lv_iload_n zx zb dX7_sine_33 rfl (lv_at hl 0 rfl) ?_
  refine bi_sip (n := 180) zx zb dX7_sine_34 (by decide) ?_
  refine lv_iload_n zx zb dX7_sine_37 rfl (lv_at hl 0 rfl) ?_
  refine bi_sub zx zb dX7_sine_38 ?_
  refine bi_mul zx zb dX7_sine_39 ?_
  rw [← hP]
  refine bi_sub zx zb dX7_sine_40 ?_
  refine bi_div zx zb dX7_sine_41 ⟨by omega, by omega⟩ ⟨by omega, by omega⟩ (by omega) ?_
  rw [td_p (show 0 ≤ 4000 * P by omega)]
  refine lv_istore_n (lv' := [(3, .int (iI ((4000 * P) / (40500 - P)))), (2, .int (iI (a % 360 % 180))), (1, .int (iI (a % 360))), (0, .int (iI a))]) zx zb dX7_sine_42 rfl hl (by decide) rfl (fun ls hl => ?_)
  refine lv_iload_n zx zb dX7_sine_43 rfl (lv_at hl 2 rfl) ?_
  refine bi_sip (n := 180) zx zb dX7_sine_44 (by decide) ?_
  refine bq_ge (tgt := 54) zx zb dX7_sine_47 (by decide) ⟨by omega, by omega⟩ ⟨by omega, by omega⟩ (fun zq47 => ?_) (fun zq47 => ?_)
  · refine lv_iload_n zx zb dX7_sine_54 rfl (lv_at hl 0 rfl) ?_
    refine bi_neg zx zb dX7_sine_55 ?_
    exact retI C0 hret hlk hH (by simp only [sn, sh, ← hP]; split <;> first | rfl | omega) (rfl) dX7_sine_56
  · refine lv_iload_n zx zb dX7_sine_50 rfl (lv_at hl 0 rfl) ?_
    refine lv_goto (tgt := 56) zx zb dX7_sine_51 (by decide) ?_
    exact retI C0 hret hlk hH (by simp only [sn, sh, ← hP]; split <;> first | rfl | omega) (rfl) dX7_sine_56
set_option maxRecDepth 100000 in
set_option maxHeartbeats 4000000 in
theorem c_X7_cosine (l : Launch) (g : gT) (S : gSt) (a : Int) (h0 : -2147483648 ≤ a ∧ a < 2147483000) : MetG l g yX7_cosine cX7_cosine 1 (some .int) 1 23 [.int (iI a)] S (some (.int (iI (cs a)))) S := by
  refine bodyG (by decide +kernel) (Nat.le_of_ble_eq_true rfl) ?_
  intro p e s m args below meth c ls C0 hret hlk hl hH
  have zx := C0.1
  have zb := C0.2.1
  have hl : lv_has ls 1 [(0, .int (iI a))] := hl
  obtain ⟨H, hHe⟩ : ∃ H : Heap, H = s.heap := ⟨_, rfl⟩
  rw [show (Hp g S s s.heap []) = Hp g S s H [] by rw [hHe]] at hH
  rw [← hHe]
  refine lv_iload_n zx zb dX7_cosine_0 rfl (lv_at hl 0 rfl) ?_
  refine bi_bip (n := 90) zx zb dX7_cosine_1 (by decide) ?_
  refine bi_add zx zb dX7_cosine_3 ?_
  refine csI (rest := []) (As := [.int (iI (a + 90))]) C0 hH (c_X7_sine l g S (a + 90) (by omega)) kw_X7_119 ky_X7_sine ⟨Nat.le_of_ble_eq_true rfl, Nat.le_of_ble_eq_true rfl⟩ ⟨Nat.zero_le _, Nat.zero_le _⟩ rfl hl.1 rfl (Nat.le_of_ble_eq_true rfl) dX7_cosine_4 (fun H locs hH => ?_)
  exact retI C0 hret hlk hH (by rfl) (rfl) dX7_cosine_7
set_option maxRecDepth 100000 in
set_option maxHeartbeats 4000000 in
theorem c_X7_heightNow (l : Launch) (g : gT) (S : gSt) (z lat d h : Int) (hz : 0 ≤ z ∧ z < 24) (hlat : -90 ≤ lat ∧ lat ≤ 90) (hd : 0 ≤ d ∧ d < 365) (hh : 0 ≤ h ∧ h < 24) (hC : okC (S 24) (S 25)) : MetG l g yX7_heightNow cX7_heightNow 7 (some .int) 2 43 [.ref (g.1 23), .int (iI z), .int (iI lat), .int (iI d), .int (iI h)] S (some (.int (iI (hg lat (S 25 z) (15 * h + d - S 24 z))))) S := by
  refine bodyG (by decide +kernel) (Nat.le_of_ble_eq_true rfl) ?_
  intro p e s m args below meth c ls C0 hret hlk hl hH
  have zx := C0.1
  have zb := C0.2.1
  have hl : lv_has ls 7 [(0, .ref (g.1 23)), (1, .int (iI z)), (2, .int (iI lat)), (3, .int (iI d)), (4, .int (iI h))] := hl
  obtain ⟨H, hHe⟩ : ∃ H : Heap, H = s.heap := ⟨_, rfl⟩
  rw [show (Hp g S s s.heap []) = Hp g S s H [] by rw [hHe]] at hH
  rw [← hHe]
  have hc := hC z hz.1 hz.2
  have b1 := mul_b (sn_b lat) (sn_b (S 25 z)) (by decide) (by decide)
  have b2 := mul_b (cs_b lat) (cs_b (S 25 z)) (by decide) (by decide)
  have b3 := mul_b b2 (cs_b (15 * h + d - S 24 z)) (by decide) (by decide)
  refine bi_bip (n := 15) zx zb dX7_heightNow_0 (by decide) ?_
  refine lv_iload zx zb dX7_heightNow_2 (lv_at hl 4 rfl) ?_
  refine bi_mul zx zb dX7_heightNow_4 ?_
  refine lv_iload_n zx zb dX7_heightNow_5 rfl (lv_at hl 3 rfl) ?_
  refine bi_add zx zb dX7_heightNow_6 ?_
  refine lv_aload_n zx zb dX7_heightNow_7 rfl (lv_at hl 0 rfl) ?_
  refine gf_X7_7 C0 hH dX7_heightNow_8 ?_
  refine lv_iload_n zx zb dX7_heightNow_11 rfl (lv_at hl 1 rfl) ?_
  refine al_24 C0 hH (by omega) (by omega) dX7_heightNow_12 ?_
  refine bi_sub zx zb dX7_heightNow_13 ?_
  refine lv_istore (lv' := [(5, .int (iI (((15 * h) + d) - (S 24 z)))), (0, .ref (g.1 23)), (1, .int (iI z)), (2, .int (iI lat)), (3, .int (iI d)), (4, .int (iI h))]) zx zb dX7_heightNow_14 hl (by decide) rfl (fun ls hl => ?_)
  refine lv_iload_n zx zb dX7_heightNow_16 rfl (lv_at hl 3 rfl) ?_
  refine csI (rest := []) (As := [.int (iI lat)]) C0 hH (c_X7_cosine l g S lat (by omega)) kw_X7_122 ky_X7_cosine ⟨Nat.le_of_ble_eq_true rfl, Nat.le_of_ble_eq_true rfl⟩ ⟨Nat.zero_le _, Nat.zero_le _⟩ rfl hl.1 rfl (Nat.le_of_ble_eq_true rfl) dX7_heightNow_17 (fun H locs hH => ?_)
  refine lv_aload_n zx zb dX7_heightNow_20 rfl (lv_at hl 1 rfl) ?_
  refine gf_X7_13 C0 hH dX7_heightNow_21 ?_
  refine lv_iload_n zx zb dX7_heightNow_24 rfl (lv_at hl 2 rfl) ?_
  refine al_25 C0 hH (by omega) (by omega) dX7_heightNow_25 ?_
  refine csI (rest := [.int (iI (cs lat))]) (As := [.int (iI (S 25 z))]) C0 hH (c_X7_cosine l g S (S 25 z) (by omega)) kw_X7_122 ky_X7_cosine ⟨Nat.le_of_ble_eq_true rfl, Nat.le_of_ble_eq_true rfl⟩ ⟨Nat.zero_le _, Nat.zero_le _⟩ rfl hl.1 rfl (Nat.le_of_ble_eq_true rfl) dX7_heightNow_26 (fun H locs hH => ?_)
  refine bi_mul zx zb dX7_heightNow_29 ?_
  refine lv_iload zx zb dX7_heightNow_30 (lv_at hl 0 rfl) ?_
  refine csI (rest := [.int (iI ((cs lat) * (cs (S 25 z))))]) (As := [.int (iI (((15 * h) + d) - (S 24 z)))]) C0 hH (c_X7_cosine l g S (((15 * h) + d) - (S 24 z)) (by omega)) kw_X7_122 ky_X7_cosine ⟨Nat.le_of_ble_eq_true rfl, Nat.le_of_ble_eq_true rfl⟩ ⟨Nat.zero_le _, Nat.zero_le _⟩ rfl hl.1 rfl (Nat.le_of_ble_eq_true rfl) dX7_heightNow_32 (fun H locs hH => ?_)
  refine bi_mul zx zb dX7_heightNow_35 ?_
  refine bi_sip (n := 1000) zx zb dX7_heightNow_36 (by decide) ?_
  refine csI (rest := []) (As := [.int (iI (((cs lat) * (cs (S 25 z))) * (cs (((15 * h) + d) - (S 24 z))))), .int (iI 1000)]) C0 hH (c_X7_quotient l g S (((cs lat) * (cs (S 25 z))) * (cs (((15 * h) + d) - (S 24 z)))) (by omega)) kw_X7_125 ky_X7_quotient ⟨Nat.le_of_ble_eq_true rfl, Nat.le_of_ble_eq_true rfl⟩ ⟨Nat.zero_le _, Nat.zero_le _⟩ rfl hl.1 rfl (Nat.le_of_ble_eq_true rfl) dX7_heightNow_39 (fun H locs hH => ?_)
  refine lv_istore (lv' := [(6, .int (iI ((((cs lat) * (cs (S 25 z))) * (cs (((15 * h) + d) - (S 24 z)))) / 1000))), (5, .int (iI (((15 * h) + d) - (S 24 z)))), (0, .ref (g.1 23)), (1, .int (iI z)), (2, .int (iI lat)), (3, .int (iI d)), (4, .int (iI h))]) zx zb dX7_heightNow_42 hl (by decide) rfl (fun ls hl => ?_)
  refine lv_iload_n zx zb dX7_heightNow_44 rfl (lv_at hl 4 rfl) ?_
  refine csI (rest := []) (As := [.int (iI lat)]) C0 hH (c_X7_sine l g S lat (by omega)) kw_X7_119 ky_X7_sine ⟨Nat.le_of_ble_eq_true rfl, Nat.le_of_ble_eq_true rfl⟩ ⟨Nat.zero_le _, Nat.zero_le _⟩ rfl hl.1 rfl (Nat.le_of_ble_eq_true rfl) dX7_heightNow_45 (fun H locs hH => ?_)
  refine lv_aload_n zx zb dX7_heightNow_48 rfl (lv_at hl 2 rfl) ?_
  refine gf_X7_13 C0 hH dX7_heightNow_49 ?_
  refine lv_iload_n zx zb dX7_heightNow_52 rfl (lv_at hl 3 rfl) ?_
  refine al_25 C0 hH (by omega) (by omega) dX7_heightNow_53 ?_
  refine csI (rest := [.int (iI (sn lat))]) (As := [.int (iI (S 25 z))]) C0 hH (c_X7_sine l g S (S 25 z) (by omega)) kw_X7_119 ky_X7_sine ⟨Nat.le_of_ble_eq_true rfl, Nat.le_of_ble_eq_true rfl⟩ ⟨Nat.zero_le _, Nat.zero_le _⟩ rfl hl.1 rfl (Nat.le_of_ble_eq_true rfl) dX7_heightNow_54 (fun H locs hH => ?_)
  refine bi_mul zx zb dX7_heightNow_57 ?_
  refine lv_iload zx zb dX7_heightNow_58 (lv_at hl 0 rfl) ?_
  refine bi_add zx zb dX7_heightNow_60 ?_
  refine bi_sip (n := 1000) zx zb dX7_heightNow_61 (by decide) ?_
  refine csI (rest := []) (As := [.int (iI (((sn lat) * (sn (S 25 z))) + ((((cs lat) * (cs (S 25 z))) * (cs (((15 * h) + d) - (S 24 z)))) / 1000))), .int (iI 1000)]) C0 hH (c_X7_quotient l g S (((sn lat) * (sn (S 25 z))) + ((((cs lat) * (cs (S 25 z))) * (cs (((15 * h) + d) - (S 24 z)))) / 1000)) (by omega)) kw_X7_125 ky_X7_quotient ⟨Nat.le_of_ble_eq_true rfl, Nat.le_of_ble_eq_true rfl⟩ ⟨Nat.zero_le _, Nat.zero_le _⟩ rfl hl.1 rfl (Nat.le_of_ble_eq_true rfl) dX7_heightNow_64 (fun H locs hH => ?_)
  exact retI C0 hret hlk hH (by rfl) (rfl) dX7_heightNow_67
set_option maxRecDepth 100000 in
set_option maxHeartbeats 4000000 in
theorem c_X7_lowest (l : Launch) (g : gT) (S : gSt) (f lat d h : Int) (hf : 0 ≤ f ∧ f < 8) (hlat : -90 ≤ lat ∧ lat ≤ 90) (hd : 0 ≤ d ∧ d < 365) (hh : 0 ≤ h ∧ h < 24) (hN : okN (S 28)) (hE : okE (S 28) (S 26)) (hO : okE (S 28) (S 27)) (hC : okC (S 24) (S 25)) : MetG l g yX7_lowest cX7_lowest 9 (some .int) 3 69 [.ref (g.1 23), .int (iI f), .int (iI lat), .int (iI d), .int (iI h)] S (some (.int (iI (lwM (S 28) (S 26) (S 27) (S 24) (S 25) f lat (15 * h + d))))) S := by
  refine bodyG (by decide +kernel) (Nat.le_of_ble_eq_true rfl) ?_
  intro p e s m args below meth c ls C0 hret hlk hl hH
  have zx := C0.1
  have zb := C0.2.1
  have hl : lv_has ls 9 [(0, .ref (g.1 23)), (1, .int (iI f)), (2, .int (iI lat)), (3, .int (iI d)), (4, .int (iI h))] := hl
  have L26 : ∀ (μ : Nat) (j : Int) (w : Int), (10 * f + S 28 f - j).toNat = μ → (10 * f ≤ j ∧ j ≤ 10 * f + S 28 f) → (-3000 ≤ w ∧ w ≤ 3000) → (lwM (S 28) (S 26) (S 27) (S 24) (S 25) f lat (15 * h + d) = lpF (loQ (hgA (S 24) (S 25) lat (15 * h + d)) (S 26) (S 27)) (10 * f + S 28 f - j).toNat j w) → ∀ (H : Heap) (locs : List Loc), Hp g S s H locs → ∀ ls : Array Slot, lv_has ls 9 [(0, .ref (g.1 23)), (1, .int (iI f)), (2, .int (iI lat)), (3, .int (iI d)), (4, .int (iI h)), (5, .int (iI w)), (6, .int (iI j))] → W p l e { frames := 3, cells := 0, slots := 0, locals := 69 } s m args below meth c H locs 0 0 (MQ below (RetG g (some (.int (iI (lwM (S 28) (S 26) (S 27) (S 24) (S 25) f lat (15 * h + d))))) S) args s 0 0 (oA g)) (F0 m 26 ls []) := by
    refine lpN (fun μ26 ih26 => ?_)
    intro j w hμ26 hj hw hR H locs hH ls hl
    have hn := hN f hf.1 hf.2
    refine lv_iload zx zb dX7_lowest_26 (lv_at hl 6 rfl) ?_
    refine bi_bip (n := 10) zx zb dX7_lowest_28 (by decide) ?_
    refine lv_iload_n zx zb dX7_lowest_30 rfl (lv_at hl 1 rfl) ?_
    refine bi_mul zx zb dX7_lowest_31 ?_
    refine lv_aload_n zx zb dX7_lowest_32 rfl (lv_at hl 0 rfl) ?_
    refine gf_X7_22 C0 hH dX7_lowest_33 ?_
    refine lv_iload_n zx zb dX7_lowest_36 rfl (lv_at hl 1 rfl) ?_
    refine al_28 C0 hH (by omega) (by omega) dX7_lowest_37 ?_
    refine bi_add zx zb dX7_lowest_38 ?_
    refine bq_ge (tgt := 114) zx zb dX7_lowest_39 (by decide) ⟨by omega, by omega⟩ ⟨by omega, by omega⟩ (fun zq39 => ?_) (fun zq39 => ?_)
    · refine lv_iload zx zb dX7_lowest_114 (lv_at hl 5 rfl) ?_
      exact retI C0 hret hlk hH (by rw [hR, lpF_e2 zq39]) (rfl) dX7_lowest_116
    · have he := hE f (j - 10 * f) hf.1 hf.2 (by omega) (by omega)
      have ho := hO f (j - 10 * f) hf.1 hf.2 (by omega) (by omega)
      rw [show 10 * f + (j - 10 * f) = j by omega] at he ho
      have hb1 := hg_b lat (S 25 (S 26 j)) (15 * h + d - S 24 (S 26 j))
      have hb2 := hg_b lat (S 25 (S 27 j)) (15 * h + d - S 24 (S 27 j))
      refine lv_aload_n zx zb dX7_lowest_42 rfl (lv_at hl 0 rfl) ?_
      refine lv_aload_n zx zb dX7_lowest_43 rfl (lv_at hl 0 rfl) ?_
      refine gf_X7_16 C0 hH dX7_lowest_44 ?_
      refine lv_iload zx zb dX7_lowest_47 (lv_at hl 6 rfl) ?_
      refine al_26 C0 hH (by omega) (by omega) dX7_lowest_49 ?_
      refine lv_iload_n zx zb dX7_lowest_50 rfl (lv_at hl 2 rfl) ?_
      refine lv_iload_n zx zb dX7_lowest_51 rfl (lv_at hl 3 rfl) ?_
      refine lv_iload zx zb dX7_lowest_52 (lv_at hl 4 rfl) ?_
      refine cvI (rest := []) (As := [.int (iI (S 26 j)), .int (iI lat), .int (iI d), .int (iI h)]) (b := g.1 23) C0 hH (c_X7_heightNow l g S (S 26 j) lat d h (by omega) (by omega) (by omega) (by omega) (hC)) kw_X7_131 ky_X7_heightNow ⟨Nat.le_of_ble_eq_true rfl, Nat.le_of_ble_eq_true rfl⟩ ⟨Nat.zero_le _, Nat.zero_le _⟩ 23 rfl rfl rfl hl.1 rfl (Nat.le_of_ble_eq_true rfl) dX7_lowest_54 (fun H locs hH => ?_)
      refine lv_istore (lv' := [(7, .int (iI (hg lat (S 25 (S 26 j)) (15 * h + d - S 24 (S 26 j))))), (0, .ref (g.1 23)), (1, .int (iI f)), (2, .int (iI lat)), (3, .int (iI d)), (4, .int (iI h)), (5, .int (iI w)), (6, .int (iI j))]) zx zb dX7_lowest_57 hl (by decide) rfl (fun ls hl => ?_)
      refine lv_aload_n zx zb dX7_lowest_59 rfl (lv_at hl 1 rfl) ?_
      refine lv_aload_n zx zb dX7_lowest_60 rfl (lv_at hl 1 rfl) ?_
      refine gf_X7_19 C0 hH dX7_lowest_61 ?_
      refine lv_iload zx zb dX7_lowest_64 (lv_at hl 7 rfl) ?_
      refine al_27 C0 hH (by omega) (by omega) dX7_lowest_66 ?_
      refine lv_iload_n zx zb dX7_lowest_67 rfl (lv_at hl 3 rfl) ?_
      refine lv_iload_n zx zb dX7_lowest_68 rfl (lv_at hl 4 rfl) ?_
      refine lv_iload zx zb dX7_lowest_69 (lv_at hl 5 rfl) ?_
      refine cvI (rest := []) (As := [.int (iI (S 27 j)), .int (iI lat), .int (iI d), .int (iI h)]) (b := g.1 23) C0 hH (c_X7_heightNow l g S (S 27 j) lat d h (by omega) (by omega) (by omega) (by omega) (hC)) kw_X7_131 ky_X7_heightNow ⟨Nat.le_of_ble_eq_true rfl, Nat.le_of_ble_eq_true rfl⟩ ⟨Nat.zero_le _, Nat.zero_le _⟩ 23 rfl rfl rfl hl.1 rfl (Nat.le_of_ble_eq_true rfl) dX7_lowest_71 (fun H locs hH => ?_)
      refine lv_istore (lv' := [(8, .int (iI (hg lat (S 25 (S 27 j)) (15 * h + d - S 24 (S 27 j))))), (7, .int (iI (hg lat (S 25 (S 26 j)) (15 * h + d - S 24 (S 26 j))))), (0, .ref (g.1 23)), (1, .int (iI f)), (2, .int (iI lat)), (3, .int (iI d)), (4, .int (iI h)), (5, .int (iI w)), (6, .int (iI j))]) zx zb dX7_lowest_74 hl (by decide) rfl (fun ls hl => ?_)
      refine lv_iload zx zb dX7_lowest_76 (lv_at hl 1 rfl) ?_
      refine lv_iload zx zb dX7_lowest_78 (lv_at hl 7 rfl) ?_
      refine bq_ge (tgt := 88) zx zb dX7_lowest_80 (by decide) ⟨by omega, by omega⟩ ⟨by omega, by omega⟩ (fun zq80 => ?_) (fun zq80 => ?_)
      · refine lv_iload zx zb dX7_lowest_88 (lv_at hl 7 rfl) ?_
        refine lv_istore (lv' := [(5, .int (iI w)), (8, .int (iI (hg lat (S 25 (S 27 j)) (15 * h + d - S 24 (S 27 j))))), (7, .int (iI (hg lat (S 25 (S 26 j)) (15 * h + d - S 24 (S 26 j))))), (0, .ref (g.1 23)), (1, .int (iI f)), (2, .int (iI lat)), (3, .int (iI d)), (4, .int (iI h)), (6, .int (iI j))]) zx zb dX7_lowest_90 hl (by decide) rfl (fun ls hl => ?_)
        refine lv_iload zx zb dX7_lowest_92 (lv_at hl 1 rfl) ?_
        refine lv_iload zx zb dX7_lowest_94 (lv_at hl 0 rfl) ?_
        refine bq_ge (tgt := 104) zx zb dX7_lowest_96 (by decide) ⟨by omega, by omega⟩ ⟨by omega, by omega⟩ (fun zq96 => ?_) (fun zq96 => ?_)
        · refine lv_iload zx zb dX7_lowest_104 (lv_at hl 0 rfl) ?_
          refine lv_istore (lv' := [(5, .int (iI w)), (8, .int (iI (hg lat (S 25 (S 27 j)) (15 * h + d - S 24 (S 27 j))))), (7, .int (iI (hg lat (S 25 (S 26 j)) (15 * h + d - S 24 (S 26 j))))), (0, .ref (g.1 23)), (1, .int (iI f)), (2, .int (iI lat)), (3, .int (iI d)), (4, .int (iI h)), (6, .int (iI j))]) zx zb dX7_lowest_106 hl (by decide) rfl (fun ls hl => ?_)
          refine bi_inc (k0 := 8) (n := 1) (lv' := [(6, .int (iI (j + 1))), (5, .int (iI w)), (8, .int (iI (hg lat (S 25 (S 27 j)) (15 * h + d - S 24 (S 27 j))))), (7, .int (iI (hg lat (S 25 (S 26 j)) (15 * h + d - S 24 (S 26 j))))), (0, .ref (g.1 23)), (1, .int (iI f)), (2, .int (iI lat)), (3, .int (iI d)), (4, .int (iI h))]) zx zb dX7_lowest_108 hl rfl (by decide) rfl (fun ls hl => ?_)
          refine lv_goto (tgt := 26) zx zb dX7_lowest_111 (by decide) ?_
          exact ih26 ((10 * f + S 28 f - (j + 1)).toNat) (by omega) (j + 1) w rfl (by omega) (by omega) (by rw [hR, lpF_s2 zq39, show loQ (hgA (S 24) (S 25) lat (15 * h + d)) (S 26) (S 27) j w = w from (by show min (min w (hg lat (S 25 (S 26 j)) (15 * h + d - S 24 (S 26 j)))) (hg lat (S 25 (S 27 j)) (15 * h + d - S 24 (S 27 j))) = _; omega)]) _ _ hH ls (lv_sub hl [4, 5, 6, 7, 8, 1, 0] rfl)
        · refine lv_iload zx zb dX7_lowest_99 (lv_at hl 1 rfl) ?_
          refine lv_goto (tgt := 106) zx zb dX7_lowest_101 (by decide) ?_
          refine lv_istore (lv' := [(5, .int (iI (hg lat (S 25 (S 27 j)) (15 * h + d - S 24 (S 27 j))))), (8, .int (iI (hg lat (S 25 (S 27 j)) (15 * h + d - S 24 (S 27 j))))), (7, .int (iI (hg lat (S 25 (S 26 j)) (15 * h + d - S 24 (S 26 j))))), (0, .ref (g.1 23)), (1, .int (iI f)), (2, .int (iI lat)), (3, .int (iI d)), (4, .int (iI h)), (6, .int (iI j))]) zx zb dX7_lowest_106 hl (by decide) rfl (fun ls hl => ?_)
          refine bi_inc (k0 := 8) (n := 1) (lv' := [(6, .int (iI (j + 1))), (5, .int (iI (hg lat (S 25 (S 27 j)) (15 * h + d - S 24 (S 27 j))))), (8, .int (iI (hg lat (S 25 (S 27 j)) (15 * h + d - S 24 (S 27 j))))), (7, .int (iI (hg lat (S 25 (S 26 j)) (15 * h + d - S 24 (S 26 j))))), (0, .ref (g.1 23)), (1, .int (iI f)), (2, .int (iI lat)), (3, .int (iI d)), (4, .int (iI h))]) zx zb dX7_lowest_108 hl rfl (by decide) rfl (fun ls hl => ?_)
          refine lv_goto (tgt := 26) zx zb dX7_lowest_111 (by decide) ?_
          exact ih26 ((10 * f + S 28 f - (j + 1)).toNat) (by omega) (j + 1) (hg lat (S 25 (S 27 j)) (15 * h + d - S 24 (S 27 j))) rfl (by omega) (by omega) (by rw [hR, lpF_s2 zq39, show loQ (hgA (S 24) (S 25) lat (15 * h + d)) (S 26) (S 27) j w = (hg lat (S 25 (S 27 j)) (15 * h + d - S 24 (S 27 j))) from (by show min (min w (hg lat (S 25 (S 26 j)) (15 * h + d - S 24 (S 26 j)))) (hg lat (S 25 (S 27 j)) (15 * h + d - S 24 (S 27 j))) = _; omega)]) _ _ hH ls (lv_sub hl [4, 5, 6, 7, 8, 1, 0] rfl)
      · refine lv_iload zx zb dX7_lowest_83 (lv_at hl 1 rfl) ?_
        refine lv_goto (tgt := 90) zx zb dX7_lowest_85 (by decide) ?_
        refine lv_istore (lv' := [(5, .int (iI (hg lat (S 25 (S 26 j)) (15 * h + d - S 24 (S 26 j))))), (8, .int (iI (hg lat (S 25 (S 27 j)) (15 * h + d - S 24 (S 27 j))))), (7, .int (iI (hg lat (S 25 (S 26 j)) (15 * h + d - S 24 (S 26 j))))), (0, .ref (g.1 23)), (1, .int (iI f)), (2, .int (iI lat)), (3, .int (iI d)), (4, .int (iI h)), (6, .int (iI j))]) zx zb dX7_lowest_90 hl (by decide) rfl (fun ls hl => ?_)
        refine lv_iload zx zb dX7_lowest_92 (lv_at hl 1 rfl) ?_
        refine lv_iload zx zb dX7_lowest_94 (lv_at hl 0 rfl) ?_
        refine bq_ge (tgt := 104) zx zb dX7_lowest_96 (by decide) ⟨by omega, by omega⟩ ⟨by omega, by omega⟩ (fun zq96 => ?_) (fun zq96 => ?_)
        · refine lv_iload zx zb dX7_lowest_104 (lv_at hl 0 rfl) ?_
          refine lv_istore (lv' := [(5, .int (iI (hg lat (S 25 (S 26 j)) (15 * h + d - S 24 (S 26 j))))), (8, .int (iI (hg lat (S 25 (S 27 j)) (15 * h + d - S 24 (S 27 j))))), (7, .int (iI (hg lat (S 25 (S 26 j)) (15 * h + d - S 24 (S 26 j))))), (0, .ref (g.1 23)), (1, .int (iI f)), (2, .int (iI lat)), (3, .int (iI d)), (4, .int (iI h)), (6, .int (iI j))]) zx zb dX7_lowest_106 hl (by decide) rfl (fun ls hl => ?_)
          refine bi_inc (k0 := 8) (n := 1) (lv' := [(6, .int (iI (j + 1))), (5, .int (iI (hg lat (S 25 (S 26 j)) (15 * h + d - S 24 (S 26 j))))), (8, .int (iI (hg lat (S 25 (S 27 j)) (15 * h + d - S 24 (S 27 j))))), (7, .int (iI (hg lat (S 25 (S 26 j)) (15 * h + d - S 24 (S 26 j))))), (0, .ref (g.1 23)), (1, .int (iI f)), (2, .int (iI lat)), (3, .int (iI d)), (4, .int (iI h))]) zx zb dX7_lowest_108 hl rfl (by decide) rfl (fun ls hl => ?_)
          refine lv_goto (tgt := 26) zx zb dX7_lowest_111 (by decide) ?_
          exact ih26 ((10 * f + S 28 f - (j + 1)).toNat) (by omega) (j + 1) (hg lat (S 25 (S 26 j)) (15 * h + d - S 24 (S 26 j))) rfl (by omega) (by omega) (by rw [hR, lpF_s2 zq39, show loQ (hgA (S 24) (S 25) lat (15 * h + d)) (S 26) (S 27) j w = (hg lat (S 25 (S 26 j)) (15 * h + d - S 24 (S 26 j))) from (by show min (min w (hg lat (S 25 (S 26 j)) (15 * h + d - S 24 (S 26 j)))) (hg lat (S 25 (S 27 j)) (15 * h + d - S 24 (S 27 j))) = _; omega)]) _ _ hH ls (lv_sub hl [4, 5, 6, 7, 8, 1, 0] rfl)
        · refine lv_iload zx zb dX7_lowest_99 (lv_at hl 1 rfl) ?_
          refine lv_goto (tgt := 106) zx zb dX7_lowest_101 (by decide) ?_
          refine lv_istore (lv' := [(5, .int (iI (hg lat (S 25 (S 27 j)) (15 * h + d - S 24 (S 27 j))))), (8, .int (iI (hg lat (S 25 (S 27 j)) (15 * h + d - S 24 (S 27 j))))), (7, .int (iI (hg lat (S 25 (S 26 j)) (15 * h + d - S 24 (S 26 j))))), (0, .ref (g.1 23)), (1, .int (iI f)), (2, .int (iI lat)), (3, .int (iI d)), (4, .int (iI h)), (6, .int (iI j))]) zx zb dX7_lowest_106 hl (by decide) rfl (fun ls hl => ?_)
          refine bi_inc (k0 := 8) (n := 1) (lv' := [(6, .int (iI (j + 1))), (5, .int (iI (hg lat (S 25 (S 27 j)) (15 * h + d - S 24 (S 27 j))))), (8, .int (iI (hg lat (S 25 (S 27 j)) (15 * h + d - S 24 (S 27 j))))), (7, .int (iI (hg lat (S 25 (S 26 j)) (15 * h + d - S 24 (S 26 j))))), (0, .ref (g.1 23)), (1, .int (iI f)), (2, .int (iI lat)), (3, .int (iI d)), (4, .int (iI h))]) zx zb dX7_lowest_108 hl rfl (by decide) rfl (fun ls hl => ?_)
          refine lv_goto (tgt := 26) zx zb dX7_lowest_111 (by decide) ?_
          exact ih26 ((10 * f + S 28 f - (j + 1)).toNat) (by omega) (j + 1) (hg lat (S 25 (S 27 j)) (15 * h + d - S 24 (S 27 j))) rfl (by omega) (by omega) (by rw [hR, lpF_s2 zq39, show loQ (hgA (S 24) (S 25) lat (15 * h + d)) (S 26) (S 27) j w = (hg lat (S 25 (S 27 j)) (15 * h + d - S 24 (S 27 j))) from (by show min (min w (hg lat (S 25 (S 26 j)) (15 * h + d - S 24 (S 26 j)))) (hg lat (S 25 (S 27 j)) (15 * h + d - S 24 (S 27 j))) = _; omega)]) _ _ hH ls (lv_sub hl [4, 5, 6, 7, 8, 1, 0] rfl)
  obtain ⟨H, hHe⟩ : ∃ H : Heap, H = s.heap := ⟨_, rfl⟩
  rw [show (Hp g S s s.heap []) = Hp g S s H [] by rw [hHe]] at hH
  rw [← hHe]
  have hn := hN f hf.1 hf.2
  refine lv_aload_n zx zb dX7_lowest_0 rfl (lv_at hl 0 rfl) ?_
  refine gf_X7_22 C0 hH dX7_lowest_1 ?_
  refine lv_iload_n zx zb dX7_lowest_4 rfl (lv_at hl 1 rfl) ?_
  refine al_28 C0 hH (by omega) (by omega) dX7_lowest_5 ?_
  refine bz_ne (tgt := 15) zx zb dX7_lowest_6 (by decide) ⟨by omega, by omega⟩ (fun zq6 => ?_) (fun zq6 => ?_)
  · refine bi_sip (n := 2000) zx zb dX7_lowest_15 (by decide) ?_
    refine lv_istore (lv' := [(5, .int (iI 2000)), (0, .ref (g.1 23)), (1, .int (iI f)), (2, .int (iI lat)), (3, .int (iI d)), (4, .int (iI h))]) zx zb dX7_lowest_18 hl (by decide) rfl (fun ls hl => ?_)
    refine bi_bip (n := 10) zx zb dX7_lowest_20 (by decide) ?_
    refine lv_iload_n zx zb dX7_lowest_22 rfl (lv_at hl 2 rfl) ?_
    refine bi_mul zx zb dX7_lowest_23 ?_
    refine lv_istore (lv' := [(6, .int (iI (10 * f))), (5, .int (iI 2000)), (0, .ref (g.1 23)), (1, .int (iI f)), (2, .int (iI lat)), (3, .int (iI d)), (4, .int (iI h))]) zx zb dX7_lowest_24 hl (by decide) rfl (fun ls hl => ?_)
    exact L26 _ (10 * f) 2000 rfl (by omega) (by omega) (by unfold lwM; rw [show 10 * f + S 28 f - 10 * f = S 28 f by omega]; first | (rw [if_pos zq6]; done) | (rw [if_neg zq6]; done)) _ _ hH ls (lv_sub hl [2, 3, 4, 5, 6, 1, 0] rfl)
  · refine bi_sip (n := (-2000)) zx zb dX7_lowest_9 (by decide) ?_
    refine lv_goto (tgt := 18) zx zb dX7_lowest_12 (by decide) ?_
    refine lv_istore (lv' := [(5, .int (iI (-2000))), (0, .ref (g.1 23)), (1, .int (iI f)), (2, .int (iI lat)), (3, .int (iI d)), (4, .int (iI h))]) zx zb dX7_lowest_18 hl (by decide) rfl (fun ls hl => ?_)
    refine bi_bip (n := 10) zx zb dX7_lowest_20 (by decide) ?_
    refine lv_iload_n zx zb dX7_lowest_22 rfl (lv_at hl 2 rfl) ?_
    refine bi_mul zx zb dX7_lowest_23 ?_
    refine lv_istore (lv' := [(6, .int (iI (10 * f))), (5, .int (iI (-2000))), (0, .ref (g.1 23)), (1, .int (iI f)), (2, .int (iI lat)), (3, .int (iI d)), (4, .int (iI h))]) zx zb dX7_lowest_24 hl (by decide) rfl (fun ls hl => ?_)
    exact L26 _ (10 * f) (-2000) rfl (by omega) (by omega) (by unfold lwM; rw [show 10 * f + S 28 f - 10 * f = S 28 f by omega]; first | (rw [if_pos zq6]; done) | (rw [if_neg zq6]; done)) _ _ hH ls (lv_sub hl [2, 3, 4, 5, 6, 1, 0] rfl)
set_option maxRecDepth 100000 in
set_option maxHeartbeats 4000000 in
theorem c_X7_isUpNow (l : Launch) (g : gT) (S : gSt) (f lat d h : Int) (hf : 0 ≤ f ∧ f < 8) (hlat : -90 ≤ lat ∧ lat ≤ 90) (hd : 0 ≤ d ∧ d < 365) (hh : 0 ≤ h ∧ h < 24) (hN : okN (S 28)) (hE : okE (S 28) (S 26)) (hO : okE (S 28) (S 27)) (hC : okC (S 24) (S 25)) : MetG l g yX7_isUpNow cX7_isUpNow 5 (some .boolean) 4 97 [.ref (g.1 23), .int (iI f), .int (iI lat), .int (iI d), .int (iI h)] S (some (.int (iI (if upM (S 28) (S 26) (S 27) (S 24) (S 25) f lat (15 * h + d) = true then 1 else 0)))) S := by
  refine bodyG (by decide +kernel) (Nat.le_of_ble_eq_true rfl) ?_
  intro p e s m args below meth c ls C0 hret hlk hl hH
  have zx := C0.1
  have zb := C0.2.1
  have hl : lv_has ls 5 [(0, .ref (g.1 23)), (1, .int (iI f)), (2, .int (iI lat)), (3, .int (iI d)), (4, .int (iI h))] := hl
  obtain ⟨H, hHe⟩ : ∃ H : Heap, H = s.heap := ⟨_, rfl⟩
  rw [show (Hp g S s s.heap []) = Hp g S s H [] by rw [hHe]] at hH
  rw [← hHe]
  refine lv_aload_n zx zb dX7_isUpNow_0 rfl (lv_at hl 0 rfl) ?_
  refine lv_iload_n zx zb dX7_isUpNow_1 rfl (lv_at hl 1 rfl) ?_
  refine lv_iload_n zx zb dX7_isUpNow_2 rfl (lv_at hl 2 rfl) ?_
  refine lv_iload_n zx zb dX7_isUpNow_3 rfl (lv_at hl 3 rfl) ?_
  refine lv_iload zx zb dX7_isUpNow_4 (lv_at hl 4 rfl) ?_
  refine cvI (rest := []) (As := [.int (iI f), .int (iI lat), .int (iI d), .int (iI h)]) (b := g.1 23) C0 hH (c_X7_lowest l g S f lat d h (by omega) (by omega) (by omega) (by omega) (hN) (hE) (hO) (hC)) kw_X7_135 ky_X7_lowest ⟨Nat.le_of_ble_eq_true rfl, Nat.le_of_ble_eq_true rfl⟩ ⟨Nat.zero_le _, Nat.zero_le _⟩ 23 rfl rfl rfl hl.1 rfl (Nat.le_of_ble_eq_true rfl) dX7_isUpNow_6 (fun H locs hH => ?_)
  have hb := lwM_b (S 28) (S 26) (S 27) (S 24) (S 25) f lat (15 * h + d)
  refine bz_le (tgt := 16) zx zb dX7_isUpNow_9 (by decide) ⟨by omega, by omega⟩ (fun zq9 => ?_) (fun zq9 => ?_)
  · refine bi_const (n := 0) zx zb dX7_isUpNow_16 ?_
    exact retZ C0 hret hlk hH (by unfold upM; first | (rw [if_pos (decide_eq_true zq9)]; done) | (rw [if_neg (by simp; omega)]; done)) (by omega) (rfl) dX7_isUpNow_17
  · refine bi_const (n := 1) zx zb dX7_isUpNow_12 ?_
    refine lv_goto (tgt := 17) zx zb dX7_isUpNow_13 (by decide) ?_
    exact retZ C0 hret hlk hH (by unfold upM; first | (rw [if_pos (decide_eq_true zq9)]; done) | (rw [if_neg (by simp; omega)]; done)) (by omega) (rfl) dX7_isUpNow_17
set_option maxRecDepth 100000 in
set_option maxHeartbeats 4000000 in
theorem c_X7_isWrongNow (l : Launch) (g : gT) (S : gSt) (i : Int) (hi : 0 ≤ i ∧ i < 12) (hN : okN (S 28)) (hE : okE (S 28) (S 26)) (hO : okE (S 28) (S 27)) (hC : okC (S 24) (S 25)) (hV : okV (S 29)) (hnf : 0 ≤ S 23 7 ∧ S 23 7 ≤ 8) (hsh : okSh (S 31)) : MetG l g yX7_isWrongNow cX7_isWrongNow 3 (some .boolean) 5 121 [.ref (g.1 23), .int (iI i)] S (some (.int (iI (if swM S i = true then 1 else 0)))) (gvJ S (suM S i)) := by
  refine bodyG (by decide +kernel) (Nat.le_of_ble_eq_true rfl) ?_
  intro p e s m args below meth c ls C0 hret hlk hl hH
  have zx := C0.1
  have zb := C0.2.1
  have hl : lv_has ls 3 [(0, .ref (g.1 23)), (1, .int (iI i))] := hl
  obtain ⟨H, hHe⟩ : ∃ H : Heap, H = s.heap := ⟨_, rfl⟩
  rw [show (Hp g S s s.heap []) = Hp g S s H [] by rw [hHe]] at hH
  rw [← hHe]
  have hp := hsh i hi.1 hi.2
  refine lv_aload_n zx zb dX7_isWrongNow_0 rfl (lv_at hl 0 rfl) ?_
  refine gf_X7_31 C0 hH dX7_isWrongNow_1 ?_
  refine bi_const (n := 5) zx zb dX7_isWrongNow_4 ?_
  refine lv_iload_n zx zb dX7_isWrongNow_5 rfl (lv_at hl 1 rfl) ?_
  refine bi_mul zx zb dX7_isWrongNow_6 ?_
  refine al_31 C0 hH (by omega) (by omega) dX7_isWrongNow_7 ?_
  refine lv_istore_n (lv' := [(2, .int (iI (S 31 (5 * i)))), (0, .ref (g.1 23)), (1, .int (iI i))]) zx zb dX7_isWrongNow_8 rfl hl (by decide) rfl (fun ls hl => ?_)
  refine lv_aload_n zx zb dX7_isWrongNow_9 rfl (lv_at hl 1 rfl) ?_
  refine lv_iload_n zx zb dX7_isWrongNow_10 rfl (lv_at hl 0 rfl) ?_
  refine lv_aload_n zx zb dX7_isWrongNow_11 rfl (lv_at hl 1 rfl) ?_
  refine gf_X7_31 C0 hH dX7_isWrongNow_12 ?_
  refine bi_const (n := 5) zx zb dX7_isWrongNow_15 ?_
  refine lv_iload_n zx zb dX7_isWrongNow_16 rfl (lv_at hl 2 rfl) ?_
  refine bi_mul zx zb dX7_isWrongNow_17 ?_
  refine bi_const (n := 1) zx zb dX7_isWrongNow_18 ?_
  refine bi_add zx zb dX7_isWrongNow_19 ?_
  refine al_31 C0 hH (by omega) (by omega) dX7_isWrongNow_20 ?_
  refine lv_aload_n zx zb dX7_isWrongNow_21 rfl (lv_at hl 1 rfl) ?_
  refine gf_X7_31 C0 hH dX7_isWrongNow_22 ?_
  refine bi_const (n := 5) zx zb dX7_isWrongNow_25 ?_
  refine lv_iload_n zx zb dX7_isWrongNow_26 rfl (lv_at hl 2 rfl) ?_
  refine bi_mul zx zb dX7_isWrongNow_27 ?_
  refine bi_const (n := 2) zx zb dX7_isWrongNow_28 ?_
  refine bi_add zx zb dX7_isWrongNow_29 ?_
  refine al_31 C0 hH (by omega) (by omega) dX7_isWrongNow_30 ?_
  refine lv_aload_n zx zb dX7_isWrongNow_31 rfl (lv_at hl 1 rfl) ?_
  refine gf_X7_31 C0 hH dX7_isWrongNow_32 ?_
  refine bi_const (n := 5) zx zb dX7_isWrongNow_35 ?_
  refine lv_iload_n zx zb dX7_isWrongNow_36 rfl (lv_at hl 2 rfl) ?_
  refine bi_mul zx zb dX7_isWrongNow_37 ?_
  refine bi_const (n := 3) zx zb dX7_isWrongNow_38 ?_
  refine bi_add zx zb dX7_isWrongNow_39 ?_
  refine al_31 C0 hH (by omega) (by omega) dX7_isWrongNow_40 ?_
  refine cvI (rest := []) (As := [.int (iI (S 31 (5 * i))), .int (iI (S 31 ((5 * i) + 1))), .int (iI (S 31 ((5 * i) + 2))), .int (iI (S 31 ((5 * i) + 3)))]) (b := g.1 23) C0 hH (c_X7_isUpNow l g S (S 31 (5 * i)) (S 31 ((5 * i) + 1)) (S 31 ((5 * i) + 2)) (S 31 ((5 * i) + 3)) (by omega) (by omega) (by omega) (by omega) (hN) (hE) (hO) (hC)) kw_X7_138 ky_X7_isUpNow ⟨Nat.le_of_ble_eq_true rfl, Nat.le_of_ble_eq_true rfl⟩ ⟨Nat.zero_le _, Nat.zero_le _⟩ 23 rfl rfl rfl hl.1 rfl (Nat.le_of_ble_eq_true rfl) dX7_isWrongNow_41 (fun H locs hH => ?_)
  have hb44 := brg (suM S i)
  unfold suM at hb44
  refine bz_eq (tgt := 65) zx zb dX7_isWrongNow_44 (by decide) ⟨by omega, by omega⟩ (fun zq44 => ?_) (fun zq44 => ?_)
  · refine bi_const (n := 1) zx zb dX7_isWrongNow_65 ?_
    refine lv_goto (tgt := 70) zx zb dX7_isWrongNow_66 (by decide) ?_
    exact retZ C0 hret hlk hH (by unfold swM suM; first | (rw [b0 zq44]; rfl) | (rw [b1 zq44, decide_eq_true zq62]; rfl) | (rw [b1 zq44, decide_eq_false zq62]; rfl)) (by omega) (by unfold suM; first | (rw [b0 zq44]; exact (gvJ_0 S).symm) | (rw [b1 zq44]; rfl)) dX7_isWrongNow_70
  · refine lv_aload_n zx zb dX7_isWrongNow_47 rfl (lv_at hl 1 rfl) ?_
    refine lv_iload_n zx zb dX7_isWrongNow_48 rfl (lv_at hl 0 rfl) ?_
    refine cvI (rest := []) (As := [.int (iI (S 31 (5 * i)))]) (b := g.1 23) C0 hH (c_X7_nameNow l g S (S 31 (5 * i)) (by omega) (by omega) (hV)) kw_X7_115 ky_X7_nameNow ⟨Nat.le_of_ble_eq_true rfl, Nat.le_of_ble_eq_true rfl⟩ ⟨Nat.zero_le _, Nat.zero_le _⟩ 23 rfl rfl rfl hl.1 rfl (Nat.le_of_ble_eq_true rfl) dX7_isWrongNow_49 (fun H locs hH => ?_)
    have hnb := nmM_b (T := vtI (S 29)) hnf.2 (S 30) hp.1.1 hp.1.2
    refine lv_aload_n zx zb dX7_isWrongNow_52 rfl (lv_at hl 1 rfl) ?_
    refine gf_X7_31 C0 hH dX7_isWrongNow_53 ?_
    refine bi_const (n := 5) zx zb dX7_isWrongNow_56 ?_
    refine lv_iload_n zx zb dX7_isWrongNow_57 rfl (lv_at hl 2 rfl) ?_
    refine bi_mul zx zb dX7_isWrongNow_58 ?_
    refine bi_const (n := 4) zx zb dX7_isWrongNow_59 ?_
    refine bi_add zx zb dX7_isWrongNow_60 ?_
    refine al_31 C0 hH (by omega) (by omega) dX7_isWrongNow_61 ?_
    show W p l e _ s m args below meth c H _ _ _ _ (F0 m 62 ls [.int (iI (S 31 ((5 * i) + 4))), .int (iI (nmM (vtI (S 29)) (S 23 7) (S 30) (S 31 (5 * i))))])
    refine bq_eq (tgt := 69) zx zb dX7_isWrongNow_62 (by decide) ⟨by omega, by omega⟩ ⟨by omega, by omega⟩ (fun zq62 => ?_) (fun zq62 => ?_)
    · refine bi_const (n := 0) zx zb dX7_isWrongNow_69 ?_
      exact retZ C0 hret hlk hH (by unfold swM suM; first | (rw [b0 zq44]; rfl) | (rw [b1 zq44, decide_eq_true zq62]; rfl) | (rw [b1 zq44, decide_eq_false zq62]; rfl)) (by omega) (by unfold suM; first | (rw [b0 zq44]; exact (gvJ_0 S).symm) | (rw [b1 zq44]; rfl)) dX7_isWrongNow_70
    · refine bi_const (n := 1) zx zb dX7_isWrongNow_65 ?_
      refine lv_goto (tgt := 70) zx zb dX7_isWrongNow_66 (by decide) ?_
      exact retZ C0 hret hlk hH (by unfold swM suM; first | (rw [b0 zq44]; rfl) | (rw [b1 zq44, decide_eq_true zq62]; rfl) | (rw [b1 zq44, decide_eq_false zq62]; rfl)) (by omega) (by unfold suM; first | (rw [b0 zq44]; exact (gvJ_0 S).symm) | (rw [b1 zq44]; rfl)) dX7_isWrongNow_70
theorem w_isWrongNow (l : Launch) (g : gT) (S : gSt) (b : Bool) (i : Int) (hi : 0 ≤ i ∧ i < 12) (hN : okN (S 28)) (hE : okE (S 28) (S 26)) (hO : okE (S 28) (S 27)) (hC : okC (S 24) (S 25)) (hV : okV (S 29)) (hnf : 0 ≤ S 23 7 ∧ S 23 7 ≤ 8) (hsh : okSh (S 31)) :
    MetG l g yX7_isWrongNow cX7_isWrongNow 3 (some .boolean) 5 121 [.ref (g.1 23), .int (iI i)] (gvJ S b) (some (.int (iI (if swM S i = true then 1 else 0)))) (gvJ S (b || suM S i)) := by
  have h := c_X7_isWrongNow l g (gvJ S b) i hi (by rw [gvJ_n (by decide)]; exact hN) (by rw [gvJ_n (by decide), gvJ_n (by decide)]; exact hE) (by rw [gvJ_n (by decide), gvJ_n (by decide)]; exact hO) (by rw [gvJ_n (by decide), gvJ_n (by decide)]; exact hC) (by rw [gvJ_n (by decide)]; exact hV) (by rw [gvJ_n (by decide)]; exact hnf) (by rw [gvJ_n (by decide)]; exact hsh)
  rw [swM_J hnf.2 (hsh i hi.1 hi.2).1, suM_J, gvJ_J hnf.2] at h
  exact h
set_option maxRecDepth 100000 in
set_option maxHeartbeats 4000000 in
theorem c_X7_wrongNow (l : Launch) (g : gT) (S : gSt) (hN : okN (S 28)) (hE : okE (S 28) (S 26)) (hO : okE (S 28) (S 27)) (hC : okC (S 24) (S 25)) (hV : okV (S 29)) (hnf : 0 ≤ S 23 7 ∧ S 23 7 ≤ 8) (hsh : okSh (S 31)) (hsc : 0 ≤ S 23 11 ∧ S 23 11 ≤ 12) : MetG l g yX7_wrongNow cX7_wrongNow 3 (some .int) 6 143 [.ref (g.1 23)] S (some (.int (iI (wrM S)))) (gvJ S (exF (suM S) (S 23 11).toNat 0)) := by
  refine bodyG (by decide +kernel) (Nat.le_of_ble_eq_true rfl) ?_
  intro p e s m args below meth c ls C0 hret hlk hl hH
  have zx := C0.1
  have zb := C0.2.1
  have hl : lv_has ls 3 [(0, .ref (g.1 23))] := hl
  have L4 : ∀ (μ : Nat) (i : Int) (a : Int) (b : Bool), (S 23 11 - i).toNat = μ → (0 ≤ i ∧ i ≤ S 23 11) → (wrM S = lpF (cnQ (swM S)) (S 23 11 - i).toNat i a) → (exF (suM S) (S 23 11).toNat 0 = (b || exF (suM S) (S 23 11 - i).toNat i)) → ∀ (H : Heap) (locs : List Loc), Hp g (gvJ S b) s H locs → ∀ ls : Array Slot, lv_has ls 3 [(0, .ref (g.1 23)), (1, .int (iI a)), (2, .int (iI i))] → W p l e { frames := 6, cells := 0, slots := 0, locals := 143 } s m args below meth c H locs 0 0 (MQ below (RetG g (some (.int (iI (wrM S)))) (gvJ S (exF (suM S) (S 23 11).toNat 0))) args s 0 0 (oA g)) (F0 m 4 ls []) := by
    refine lpN (fun μ4 ih4 => ?_)
    intro i a b hμ4 hi hR hB H locs hH ls hl
    refine lv_iload_n zx zb dX7_wrongNow_4 rfl (lv_at hl 2 rfl) ?_
    refine lv_aload_n zx zb dX7_wrongNow_5 rfl (lv_at hl 0 rfl) ?_
    refine gf_X7_144 C0 hH dX7_wrongNow_6 ?_
    show W p l e _ s m args below meth c H _ _ _ _ (F0 m 9 ls [.int (iI (S 23 11)), .int (iI i)])
    refine bq_ge (tgt := 34) zx zb dX7_wrongNow_9 (by decide) ⟨by omega, by omega⟩ ⟨by omega, by omega⟩ (fun zq9 => ?_) (fun zq9 => ?_)
    · refine lv_iload_n zx zb dX7_wrongNow_34 rfl (lv_at hl 1 rfl) ?_
      exact retI C0 hret hlk hH (by rw [hR, lpF_e zq9]) (by rw [hB, exF_e zq9, Bool.or_false]) dX7_wrongNow_35
    · refine lv_iload_n zx zb dX7_wrongNow_12 rfl (lv_at hl 1 rfl) ?_
      refine lv_aload_n zx zb dX7_wrongNow_13 rfl (lv_at hl 0 rfl) ?_
      refine lv_iload_n zx zb dX7_wrongNow_14 rfl (lv_at hl 2 rfl) ?_
      refine cvI (rest := [.int (iI a)]) (As := [.int (iI i)]) (b := g.1 23) C0 hH (w_isWrongNow l g S b i (by omega) hN hE hO hC hV hnf hsh) kw_X7_147 ky_X7_isWrongNow ⟨Nat.le_of_ble_eq_true rfl, Nat.le_of_ble_eq_true rfl⟩ ⟨Nat.zero_le _, Nat.zero_le _⟩ 23 rfl rfl rfl hl.1 rfl (Nat.le_of_ble_eq_true rfl) dX7_wrongNow_15 (fun H locs hH => ?_)
      have hb18 := brg (swM S i)
      refine bz_eq (tgt := 25) zx zb dX7_wrongNow_18 (by decide) ⟨by omega, by omega⟩ (fun zq18 => ?_) (fun zq18 => ?_)
      · refine bi_const (n := 0) zx zb dX7_wrongNow_25 ?_
        refine bi_add zx zb dX7_wrongNow_26 ?_
        refine lv_istore_n (lv' := [(1, .int (iI (a + 0))), (0, .ref (g.1 23)), (2, .int (iI i))]) zx zb dX7_wrongNow_27 rfl hl (by decide) rfl (fun ls hl => ?_)
        refine bi_inc (k0 := 2) (n := 1) (lv' := [(2, .int (iI (i + 1))), (1, .int (iI (a + 0))), (0, .ref (g.1 23))]) zx zb dX7_wrongNow_28 hl rfl (by decide) rfl (fun ls hl => ?_)
        refine lv_goto (tgt := 4) zx zb dX7_wrongNow_31 (by decide) ?_
        exact ih4 ((S 23 11 - (i + 1)).toNat) (by omega) (i + 1) (a + 0) (b || suM S i) rfl (by omega) (by rw [hR, lpF_s zq9, show cnQ (swM S) i a = (a + 0) from (by first | exact (cnQ_0 (b0 zq18)).trans (Int.add_zero a).symm | exact cnQ_1 (b1 zq18))]) (by rw [hB, exF_s zq9, Bool.or_assoc]) _ _ hH ls (lv_sub hl [2, 1, 0] rfl)
      · refine bi_const (n := 1) zx zb dX7_wrongNow_21 ?_
        refine lv_goto (tgt := 26) zx zb dX7_wrongNow_22 (by decide) ?_
        refine bi_add zx zb dX7_wrongNow_26 ?_
        refine lv_istore_n (lv' := [(1, .int (iI (a + 1))), (0, .ref (g.1 23)), (2, .int (iI i))]) zx zb dX7_wrongNow_27 rfl hl (by decide) rfl (fun ls hl => ?_)
        refine bi_inc (k0 := 2) (n := 1) (lv' := [(2, .int (iI (i + 1))), (1, .int (iI (a + 1))), (0, .ref (g.1 23))]) zx zb dX7_wrongNow_28 hl rfl (by decide) rfl (fun ls hl => ?_)
        refine lv_goto (tgt := 4) zx zb dX7_wrongNow_31 (by decide) ?_
        exact ih4 ((S 23 11 - (i + 1)).toNat) (by omega) (i + 1) (a + 1) (b || suM S i) rfl (by omega) (by rw [hR, lpF_s zq9, show cnQ (swM S) i a = (a + 1) from (by first | exact (cnQ_0 (b0 zq18)).trans (Int.add_zero a).symm | exact cnQ_1 (b1 zq18))]) (by rw [hB, exF_s zq9, Bool.or_assoc]) _ _ hH ls (lv_sub hl [2, 1, 0] rfl)
  obtain ⟨H, hHe⟩ : ∃ H : Heap, H = s.heap := ⟨_, rfl⟩
  rw [show (Hp g S s s.heap []) = Hp g S s H [] by rw [hHe]] at hH
  rw [← hHe]
  refine bi_const (n := 0) zx zb dX7_wrongNow_0 ?_
  refine lv_istore_n (lv' := [(1, .int (iI 0)), (0, .ref (g.1 23))]) zx zb dX7_wrongNow_1 rfl hl (by decide) rfl (fun ls hl => ?_)
  refine bi_const (n := 0) zx zb dX7_wrongNow_2 ?_
  refine lv_istore_n (lv' := [(2, .int (iI 0)), (1, .int (iI 0)), (0, .ref (g.1 23))]) zx zb dX7_wrongNow_3 rfl hl (by decide) rfl (fun ls hl => ?_)
  exact L4 _ 0 0 false rfl (by omega) (by unfold wrM; rw [Int.sub_zero]) (by rw [Int.sub_zero]; rfl) _ _ (hp_eq (by exact (gvJ_0 S).symm) hH) ls (lv_sub hl [2, 1, 0] rfl)
