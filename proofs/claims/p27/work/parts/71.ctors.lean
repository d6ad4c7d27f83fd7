section CF
variable {p : Program} {l : Launch} {e : Env} {R : Room} {s : State} {m : MethodId} {args : Array Value} {below : List Frame} {meth : Method} {c : Code} {H : Heap} {locs : List Loc} {cells slots : Nat} {Q : State → Prop}
variable {g : gT} {own : String} {cc : ByteArray} {nL : Nat} {A0 : Nat → Prop} {ws wr tl : va_W} {pc : Nat} {ls : Array Slot} {rest stk : List Value}
variable {index n maxL fr lo : Nat} {y : MethodName} {bytes : ByteArray} {b : Nat} {B : va_W → Prop} {As : List Value}
theorem ccS (C0 : Cc p s m c g own cc nL) (hH : Hc g A0 ws s H locs) (hM : MetC l g y bytes maxL fr lo 0 0 As A0 ws B) (hw : kwS own index y bytes maxL none) (hy : kyn y n) (hR : fr + 1 ≤ R.frames ∧ 8 + (maxL + 11) + lo ≤ R.locals) (hcs : cells ≤ R.cells ∧ slots ≤ R.slots)
    (hn : As.length = n) (hsz : ls.size = nL) (hst : stk = As.reverse ++ rest) (hrest : (rest.map fun v => v.category).sum ≤ 8) (hdg : decode cc pc = .ok (.invokestatic index, 3))
    (kk : ∀ (w : va_W) (H1 : Heap) (locs1 : List Loc), B w → Hc g A0 w s H1 locs1 → W p l e R s m args below meth c H1 locs1 cells slots Q (F0 m (pc + 3) ls rest)) : W p l e R s m args below meth c H locs cells slots Q (F0 m pc ls stk) := by
  subst hst
  have hr := va_runS (R := R) (args := args) (e := e) (below := below) (meth := meth) (cells := cells) (slots := slots) (Ts := GL) (As := As) (rest := rest) (H := H) (locs := locs) (g := F0 m pc ls (As.reverse ++ rest)) ⟨C0.1, C0.2.1, C0.2.2.1, C0.2.2.2.1, fun w hw => C0.2.2.2.2.w hw⟩ hM
    ⟨⟨rfl, rfl, hR.1, hR.2, fun w hw2 a' U hW => by
      rw [List.mem_singleton] at hw2
      subst hw2
      exact word_at hW (good_of_word (List.mem_filter.mp hw.2.2.1).2) (C0.2.2.2.2.w (args := #[]) hw.2.2.1), List.mem_singleton.mpr rfl, C0.2.2.2.2.w hw.2.2.1, C0.2.2.2.2.w hw.2.2.2, ⟨hy.1, hy.2.1⟩, kyn_len hy, C0.2.2.2.2.w hw.1⟩, C0.2.2.2.2.w hw.2.1⟩ ⟨PreC.blind _ _ _ _, fun U hU hW => hH.pre C0 hU hW⟩ rfl hn hsz rfl (lv_room hrest) hdg hcs
  intro T0 hT X
  obtain ⟨v', st₀, t, T', L, h0, X', hL, e1, e2, ⟨hv, ⟨w, hB, hP1, hD1⟩, hF⟩, stp⟩ := hr T0 hT X
  cases hv
  obtain ⟨t2, a1, b1⟩ := kk w t.heap (locs ++ L) hB (hH.call h0 hL hP1 hD1 hF) T' e1 X'
  exact ⟨t2, stp t2 a1, b1⟩
end CF
def flF (i : Int) (v : Int) (f : Nat → Int32) : Nat → Int32 := fun j => if (j : Int) < i then iI v else f j
theorem flF_s {i v : Int} {f : Nat → Int32} (h0 : 0 ≤ i) (h1 : i < 100000) : upd (flF i v f) (iI i).toNatClampNeg (iI v) = flF (i + 1) v f := by
  funext j
  have hc := iI_cl h0 (by omega)
  unfold flF
  show (if j = _ then _ else _) = _
  by_cases h : j = (iI i).toNatClampNeg
  · rw [if_pos h, if_pos (by omega)]
  · rw [if_neg h]
    show (if (j : Int) < i then iI v else f j) = _
    by_cases h2 : (j : Int) < i
    · rw [if_pos h2, if_pos (by omega)]
    · rw [if_neg h2, if_neg (by omega)]
set_option maxRecDepth 100000 in
set_option maxHeartbeats 4000000 in
/-- Arrays.fill -/
theorem cc_fill (l : Launch) (g : gT) (A0 : Nat → Prop) (wr tl : va_W) (a n : Nat) (hn : n ≤ 1000) (f : Nat → Int32) (v : Int) : MetC l g yJ7_fill_53178 cJ7_fill_53178 4 0 0 0 0 [.ref a, .int (iI v)] A0 (wr ++ (a, .inl (g.2.2.1, n, .inl f)) :: tl) (fun w => w = wr ++ (a, .inl (g.2.2.1, n, .inl (flF n v f))) :: tl) := by
  refine bodyC (by decide +kernel) (Nat.le_of_ble_eq_true rfl) ?_
  intro p e s m args below meth c ls C0 hret hlk hin hl hH
  have zx := C0.1
  have zb := C0.2.1
  have hl : lv_has ls 4 [(0, .ref a), (1, .int (iI v))] := hl
  have L5 : ∀ (μ : Nat) (i : Int) (H : Heap) (locs : List Loc) (ls : Array Slot), (n - i).toNat = μ → 0 ≤ i → i ≤ n → Hc g A0 (wr ++ (a, .inl (g.2.2.1, n, .inl (flF i v f))) :: tl) s H locs → lv_has ls 4 [(0, .ref a), (1, .int (iI v)), (2, .int (iI i)), (3, .int (iI n))] → W p l e { frames := 0, cells := 0, slots := 0, locals := 0 } s m args below meth c H locs 0 0 (MQ below (RetC g A0 (fun w => w = wr ++ (a, .inl (g.2.2.1, n, .inl (flF n v f))) :: tl)) args s 0 0 A0) (F0 m 5 ls []) := by
    refine lpN (fun μ ih => ?_)
    intro i H locs ls hμ i0 iN hH hl
    refine lv_iload_n zx zb dJ7_fill_53178_5 rfl (lv_at hl 2 rfl) ?_
    refine lv_iload_n zx zb dJ7_fill_53178_6 rfl (lv_at hl 3 rfl) ?_
    refine bq_ge (tgt := 20) zx zb dJ7_fill_53178_7 (by decide) ⟨by omega, by omega⟩ ⟨by omega, by omega⟩ (fun zq => ?_) (fun zq => ?_)
    · have e9 : i = n := by omega
      subst e9
      exact rtC C0 hret hlk hH rfl dJ7_fill_53178_20
    · refine lv_aload_n zx zb dJ7_fill_53178_10 rfl (lv_at hl 0 rfl) ?_
      refine lv_iload_n zx zb dJ7_fill_53178_11 rfl (lv_at hl 2 rfl) ?_
      refine lv_iload_n zx zb dJ7_fill_53178_12 rfl (lv_at hl 1 rfl) ?_
      refine va_iast zx zb C0.2.2.2.2.2.2 hH.1 hH.2.1 hH.2.2.1 wr.length 0 (len_at _ _ _) rfl (iI_in i0 (by omega) (by omega)) dJ7_fill_53178_13 (fun H1 locs1 h2 h3 h4 => ?_)
      rw [len_set, flF_s i0 (by omega)] at h2 h3
      refine bi_inc (k0 := 2) zx zb dJ7_fill_53178_14 hl rfl (by decide) rfl (fun ls hl => ?_)
      refine lv_goto (tgt := 5) zx zb dJ7_fill_53178_17 (by decide) ?_
      exact ih ((n - (i + 1)).toNat) (by omega) (i + 1) H1 locs1 ls rfl (by omega) (by omega) ⟨h2, h3, h4, hH.2.2.2⟩ (lv_sub hl [1, 2, 0, 3] rfl)
  refine bi_const (n := 0) zx zb dJ7_fill_53178_0 ?_
  refine lv_istore_n zx zb dJ7_fill_53178_1 rfl hl (by decide) rfl (fun ls hl => ?_)
  refine lv_aload_n zx zb dJ7_fill_53178_2 rfl (lv_at hl 1 rfl) ?_
  refine va_alen (v := iI (n : Int)) zx zb C0.2.2.2.2.2.2 hH.1 wr.length 0 (len_at _ _ _) rfl (iI_nat n) dJ7_fill_53178_3 ?_
  refine lv_istore_n zx zb dJ7_fill_53178_4 rfl hl (by decide) rfl (fun ls hl => ?_)
  have e0 : f = flF 0 v f := funext (fun j => (if_neg (by omega)).symm)
  have hH2 : Hc g A0 (wr ++ (a, .inl (g.2.2.1, n, .inl (flF 0 v f))) :: tl) s s.heap [] := by rw [← e0]; exact hH
  exact L5 _ 0 s.heap [] ls rfl (Int.le_refl 0) (by omega) hH2 (lv_sub hl [2, 3, 1, 0] rfl)
theorem ky_X1_init : kyn yX1_init 0 := ⟨by decide +kernel, by decide +kernel, by decide +kernel⟩
theorem ky_X2_init : kyn yX2_init 0 := ⟨by decide +kernel, by decide +kernel, by decide +kernel⟩
theorem ky_X3_init : kyn yX3_init 0 := ⟨by decide +kernel, by decide +kernel, by decide +kernel⟩
theorem ky_X4_init : kyn yX4_init 0 := ⟨by decide +kernel, by decide +kernel, by decide +kernel⟩
theorem ky_X5_init : kyn yX5_init 0 := ⟨by decide +kernel, by decide +kernel, by decide +kernel⟩
theorem ky_X6_init : kyn yX6_init 0 := ⟨by decide +kernel, by decide +kernel, by decide +kernel⟩
set_option maxRecDepth 100000 in
set_option maxHeartbeats 4000000 in
theorem cc_X2_init (l : Launch) (g : gT) (h0 : Nat) (A0 : Nat → Prop) (wr : va_W) : MetC l g yX2_init cX2_init 1 1 20 2 48 [.ref h0] A0 (wr ++ [(h0, .inr (1, [.int (iI 0), .null, .null]))]) (fun w => ∃ z0 z1 : Nat, w = wr ++ [(h0, .inr (1, [.int (iI 0), .ref z0, .ref z1])), (z0, .inl (g.2.2.1, 24, .inl (fun _ : Nat => iI 0))), (z1, .inl (g.2.2.1, 24, .inl (fun _ : Nat => iI 0)))]) := by
  refine bodyC (by decide +kernel) (Nat.le_of_ble_eq_true rfl) ?_
  intro p e s m args below meth c ls C0 hret hlk hin hl hH
  have zx := C0.1
  have zb := C0.2.1
  have hl : lv_has ls 1 [(0, .ref h0)] := hl
  obtain ⟨H, hHe⟩ : ∃ H : Heap, H = s.heap := ⟨_, rfl⟩
  obtain ⟨locs, hle⟩ : ∃ locs : List Loc, locs = [] := ⟨_, rfl⟩
  rw [← hHe, ← hle] at hH
  rw [← hHe, ← hle]
  refine lv_aload_n zx zb dX2_init_0 rfl (lv_at hl 0 rfl) ?_
  refine oiC C0 (gm 46 (by decide +kernel) rfl) hl.1 dX2_init_1 (Nat.le_of_ble_eq_true rfl) (Nat.le_of_ble_eq_true rfl) ?_
  refine lv_aload_n zx zb dX2_init_4 rfl (lv_at hl 0 rfl) ?_
  refine bi_bip (n := 24) zx zb dX2_init_5 (by decide) ?_
  refine naC (n := 24) C0 hH (Nat.le_of_ble_eq_true rfl) (Nat.le_of_ble_eq_true rfl) (Nat.le_of_ble_eq_true rfl) dX2_init_7 (fun q0 H hH => ?_)
  have hH : Hc g A0 (wr ++ (h0, .inr (1, [.int (iI 0), .null, .null])) :: [(q0, .inl (g.2.2.1, 24, .inl (fun _ : Nat => iI 0)))]) s H locs := by rw [List.append_assoc] at hH; exact hH
  refine pfC (C := RX2) (T := TX2) (N := 3) (ty := .array .int) (v := .ref q0) C0 hin hH rfl inG2 tyX2 tyX2_ok nmX2 1 (by decide) (gm 49 (by decide +kernel) rfl) rfl rfl (by decide +kernel) rfl rfl (Nat.le_of_ble_eq_true rfl) dX2_init_9 (fun H locs hH => ?_)
  have hH : Hc g A0 (wr ++ (h0, .inr (1, [.int (iI 0), .ref q0, .null])) :: [(q0, .inl (g.2.2.1, 24, .inl (fun _ : Nat => iI 0)))]) s H locs := hH
  refine lv_aload_n zx zb dX2_init_12 rfl (lv_at hl 0 rfl) ?_
  refine bi_bip (n := 24) zx zb dX2_init_13 (by decide) ?_
  refine naC (n := 24) C0 hH (Nat.le_of_ble_eq_true rfl) (Nat.le_of_ble_eq_true rfl) (Nat.le_of_ble_eq_true rfl) dX2_init_15 (fun q1 H hH => ?_)
  have hH : Hc g A0 (wr ++ (h0, .inr (1, [.int (iI 0), .ref q0, .null])) :: [(q0, .inl (g.2.2.1, 24, .inl (fun _ : Nat => iI 0))), (q1, .inl (g.2.2.1, 24, .inl (fun _ : Nat => iI 0)))]) s H locs := by rw [List.append_assoc] at hH; exact hH
  refine pfC (C := RX2) (T := TX2) (N := 3) (ty := .array .int) (v := .ref q1) C0 hin hH rfl inG2 tyX2 tyX2_ok nmX2 2 (by decide) (gm 51 (by decide +kernel) rfl) rfl rfl (by decide +kernel) rfl rfl (Nat.le_of_ble_eq_true rfl) dX2_init_17 (fun H locs hH => ?_)
  have hH : Hc g A0 (wr ++ (h0, .inr (1, [.int (iI 0), .ref q0, .ref q1])) :: [(q0, .inl (g.2.2.1, 24, .inl (fun _ : Nat => iI 0))), (q1, .inl (g.2.2.1, 24, .inl (fun _ : Nat => iI 0)))]) s H locs := hH
  exact W.widen (k := 2) (n := 48) (Nat.le_of_ble_eq_true rfl) (Nat.le_of_ble_eq_true rfl) (rtC C0 hret hlk hH ⟨q0, q1, rfl⟩ dX2_init_20)
set_option maxRecDepth 100000 in
set_option maxHeartbeats 4000000 in
theorem cc_X5_init (l : Launch) (g : gT) (h0 : Nat) (A0 : Nat → Prop) (wr : va_W) : MetC l g yX5_init cX5_init 1 1 20 3 168 [.ref h0] A0 (wr ++ [(h0, .inr (4, [.int (iI 0), .null, .null, .null]))]) (fun w => ∃ z0 z1 z2 : Nat, w = wr ++ [(h0, .inr (4, [.int (iI 0), .ref z0, .ref z1, .ref z2])), (z0, .inl (g.2.2.1, 8, .inl (fun _ : Nat => iI 0))), (z1, .inl (g.2.2.1, 80, .inl (fun _ : Nat => iI 0))), (z2, .inl (g.2.2.1, 80, .inl (fun _ : Nat => iI 0)))]) := by
  refine bodyC (by decide +kernel) (Nat.le_of_ble_eq_true rfl) ?_
  intro p e s m args below meth c ls C0 hret hlk hin hl hH
  have zx := C0.1
  have zb := C0.2.1
  have hl : lv_has ls 1 [(0, .ref h0)] := hl
  obtain ⟨H, hHe⟩ : ∃ H : Heap, H = s.heap := ⟨_, rfl⟩
  obtain ⟨locs, hle⟩ : ∃ locs : List Loc, locs = [] := ⟨_, rfl⟩
  rw [← hHe, ← hle] at hH
  rw [← hHe, ← hle]
  refine lv_aload_n zx zb dX5_init_0 rfl (lv_at hl 0 rfl) ?_
  refine oiC C0 (gm 66 (by decide +kernel) rfl) hl.1 dX5_init_1 (Nat.le_of_ble_eq_true rfl) (Nat.le_of_ble_eq_true rfl) ?_
  refine lv_aload_n zx zb dX5_init_4 rfl (lv_at hl 0 rfl) ?_
  refine bi_bip (n := 8) zx zb dX5_init_5 (by decide) ?_
  refine naC (n := 8) C0 hH (Nat.le_of_ble_eq_true rfl) (Nat.le_of_ble_eq_true rfl) (Nat.le_of_ble_eq_true rfl) dX5_init_7 (fun q0 H hH => ?_)
  have hH : Hc g A0 (wr ++ (h0, .inr (4, [.int (iI 0), .null, .null, .null])) :: [(q0, .inl (g.2.2.1, 8, .inl (fun _ : Nat => iI 0)))]) s H locs := by rw [List.append_assoc] at hH; exact hH
  refine pfC (C := RX5) (T := TX5) (N := 4) (ty := .array .int) (v := .ref q0) C0 hin hH rfl inG5 tyX5 tyX5_ok nmX5 1 (by decide) (gm 69 (by decide +kernel) rfl) rfl rfl (by decide +kernel) rfl rfl (Nat.le_of_ble_eq_true rfl) dX5_init_9 (fun H locs hH => ?_)
  have hH : Hc g A0 (wr ++ (h0, .inr (4, [.int (iI 0), .ref q0, .null, .null])) :: [(q0, .inl (g.2.2.1, 8, .inl (fun _ : Nat => iI 0)))]) s H locs := hH
  refine lv_aload_n zx zb dX5_init_12 rfl (lv_at hl 0 rfl) ?_
  refine bi_bip (n := 80) zx zb dX5_init_13 (by decide) ?_
  refine naC (n := 80) C0 hH (Nat.le_of_ble_eq_true rfl) (Nat.le_of_ble_eq_true rfl) (Nat.le_of_ble_eq_true rfl) dX5_init_15 (fun q1 H hH => ?_)
  have hH : Hc g A0 (wr ++ (h0, .inr (4, [.int (iI 0), .ref q0, .null, .null])) :: [(q0, .inl (g.2.2.1, 8, .inl (fun _ : Nat => iI 0))), (q1, .inl (g.2.2.1, 80, .inl (fun _ : Nat => iI 0)))]) s H locs := by rw [List.append_assoc] at hH; exact hH
  refine pfC (C := RX5) (T := TX5) (N := 4) (ty := .array .int) (v := .ref q1) C0 hin hH rfl inG5 tyX5 tyX5_ok nmX5 2 (by decide) (gm 71 (by decide +kernel) rfl) rfl rfl (by decide +kernel) rfl rfl (Nat.le_of_ble_eq_true rfl) dX5_init_17 (fun H locs hH => ?_)
  have hH : Hc g A0 (wr ++ (h0, .inr (4, [.int (iI 0), .ref q0, .ref q1, .null])) :: [(q0, .inl (g.2.2.1, 8, .inl (fun _ : Nat => iI 0))), (q1, .inl (g.2.2.1, 80, .inl (fun _ : Nat => iI 0)))]) s H locs := hH
  refine lv_aload_n zx zb dX5_init_20 rfl (lv_at hl 0 rfl) ?_
  refine bi_bip (n := 80) zx zb dX5_init_21 (by decide) ?_
  refine naC (n := 80) C0 hH (Nat.le_of_ble_eq_true rfl) (Nat.le_of_ble_eq_true rfl) (Nat.le_of_ble_eq_true rfl) dX5_init_23 (fun q2 H hH => ?_)
  have hH : Hc g A0 (wr ++ (h0, .inr (4, [.int (iI 0), .ref q0, .ref q1, .null])) :: [(q0, .inl (g.2.2.1, 8, .inl (fun _ : Nat => iI 0))), (q1, .inl (g.2.2.1, 80, .inl (fun _ : Nat => iI 0))), (q2, .inl (g.2.2.1, 80, .inl (fun _ : Nat => iI 0)))]) s H locs := by rw [List.append_assoc] at hH; exact hH
  refine pfC (C := RX5) (T := TX5) (N := 4) (ty := .array .int) (v := .ref q2) C0 hin hH rfl inG5 tyX5 tyX5_ok nmX5 3 (by decide) (gm 73 (by decide +kernel) rfl) rfl rfl (by decide +kernel) rfl rfl (Nat.le_of_ble_eq_true rfl) dX5_init_25 (fun H locs hH => ?_)
  have hH : Hc g A0 (wr ++ (h0, .inr (4, [.int (iI 0), .ref q0, .ref q1, .ref q2])) :: [(q0, .inl (g.2.2.1, 8, .inl (fun _ : Nat => iI 0))), (q1, .inl (g.2.2.1, 80, .inl (fun _ : Nat => iI 0))), (q2, .inl (g.2.2.1, 80, .inl (fun _ : Nat => iI 0)))]) s H locs := hH
  exact W.widen (k := 3) (n := 168) (Nat.le_of_ble_eq_true rfl) (Nat.le_of_ble_eq_true rfl) (rtC C0 hret hlk hH ⟨q0, q1, q2, rfl⟩ dX5_init_28)
set_option maxRecDepth 100000 in
set_option maxHeartbeats 4000000 in
theorem cc_X1_init (l : Launch) (g : gT) (h0 : Nat) (A0 : Nat → Prop) (wr : va_W) : MetC l g yX1_init cX1_init 1 1 23 3 136 [.ref h0] A0 (wr ++ [(h0, .inr (0, [.null, .null, .null]))]) (fun w => ∃ z0 z1 z2 : Nat, w = wr ++ [(h0, .inr (0, [.ref z0, .ref z1, .ref z2])), (z0, .inl (g.2.2.1, 48, .inl (flF 48 (-1) (fun _ : Nat => iI 0)))), (z1, .inl (g.2.2.1, 80, .inl (fun _ : Nat => iI 0))), (z2, .inl (g.2.2.1, 8, .inl (flF 8 (-1) (fun _ : Nat => iI 0))))]) := by
  refine bodyC (by decide +kernel) (Nat.le_of_ble_eq_true rfl) ?_
  intro p e s m args below meth c ls C0 hret hlk hin hl hH
  have zx := C0.1
  have zb := C0.2.1
  have hl : lv_has ls 1 [(0, .ref h0)] := hl
  obtain ⟨H, hHe⟩ : ∃ H : Heap, H = s.heap := ⟨_, rfl⟩
  obtain ⟨locs, hle⟩ : ∃ locs : List Loc, locs = [] := ⟨_, rfl⟩
  rw [← hHe, ← hle] at hH
  rw [← hHe, ← hle]
  refine lv_aload_n zx zb dX1_init_0 rfl (lv_at hl 0 rfl) ?_
  refine oiC C0 (gm 89 (by decide +kernel) rfl) hl.1 dX1_init_1 (Nat.le_of_ble_eq_true rfl) (Nat.le_of_ble_eq_true rfl) ?_
  refine lv_aload_n zx zb dX1_init_4 rfl (lv_at hl 0 rfl) ?_
  refine bi_bip (n := 48) zx zb dX1_init_5 (by decide) ?_
  refine naC (n := 48) C0 hH (Nat.le_of_ble_eq_true rfl) (Nat.le_of_ble_eq_true rfl) (Nat.le_of_ble_eq_true rfl) dX1_init_7 (fun q0 H hH => ?_)
  have hH : Hc g A0 (wr ++ (h0, .inr (0, [.null, .null, .null])) :: [(q0, .inl (g.2.2.1, 48, .inl (fun _ : Nat => iI 0)))]) s H locs := by rw [List.append_assoc] at hH; exact hH
  refine pfC (C := RX1) (T := TX1) (N := 3) (ty := .array .int) (v := .ref q0) C0 hin hH rfl inG1 tyX1 tyX1_ok nmX1 0 (by decide) (gm 93 (by decide +kernel) rfl) rfl rfl (by decide +kernel) rfl rfl (Nat.le_of_ble_eq_true rfl) dX1_init_9 (fun H locs hH => ?_)
  have hH : Hc g A0 (wr ++ (h0, .inr (0, [.ref q0, .null, .null])) :: [(q0, .inl (g.2.2.1, 48, .inl (fun _ : Nat => iI 0)))]) s H locs := hH
  refine lv_aload_n zx zb dX1_init_12 rfl (lv_at hl 0 rfl) ?_
  refine bi_bip (n := 80) zx zb dX1_init_13 (by decide) ?_
  refine naC (n := 80) C0 hH (Nat.le_of_ble_eq_true rfl) (Nat.le_of_ble_eq_true rfl) (Nat.le_of_ble_eq_true rfl) dX1_init_15 (fun q1 H hH => ?_)
  have hH : Hc g A0 (wr ++ (h0, .inr (0, [.ref q0, .null, .null])) :: [(q0, .inl (g.2.2.1, 48, .inl (fun _ : Nat => iI 0))), (q1, .inl (g.2.2.1, 80, .inl (fun _ : Nat => iI 0)))]) s H locs := by rw [List.append_assoc] at hH; exact hH
  refine pfC (C := RX1) (T := TX1) (N := 3) (ty := .array .int) (v := .ref q1) C0 hin hH rfl inG1 tyX1 tyX1_ok nmX1 1 (by decide) (gm 94 (by decide +kernel) rfl) rfl rfl (by decide +kernel) rfl rfl (Nat.le_of_ble_eq_true rfl) dX1_init_17 (fun H locs hH => ?_)
  have hH : Hc g A0 (wr ++ (h0, .inr (0, [.ref q0, .ref q1, .null])) :: [(q0, .inl (g.2.2.1, 48, .inl (fun _ : Nat => iI 0))), (q1, .inl (g.2.2.1, 80, .inl (fun _ : Nat => iI 0)))]) s H locs := hH
  refine lv_aload_n zx zb dX1_init_20 rfl (lv_at hl 0 rfl) ?_
  refine bi_bip (n := 8) zx zb dX1_init_21 (by decide) ?_
  refine naC (n := 8) C0 hH (Nat.le_of_ble_eq_true rfl) (Nat.le_of_ble_eq_true rfl) (Nat.le_of_ble_eq_true rfl) dX1_init_23 (fun q2 H hH => ?_)
  have hH : Hc g A0 (wr ++ (h0, .inr (0, [.ref q0, .ref q1, .null])) :: [(q0, .inl (g.2.2.1, 48, .inl (fun _ : Nat => iI 0))), (q1, .inl (g.2.2.1, 80, .inl (fun _ : Nat => iI 0))), (q2, .inl (g.2.2.1, 8, .inl (fun _ : Nat => iI 0)))]) s H locs := by rw [List.append_assoc] at hH; exact hH
  refine pfC (C := RX1) (T := TX1) (N := 3) (ty := .array .int) (v := .ref q2) C0 hin hH rfl inG1 tyX1 tyX1_ok nmX1 2 (by decide) (gm 96 (by decide +kernel) rfl) rfl rfl (by decide +kernel) rfl rfl (Nat.le_of_ble_eq_true rfl) dX1_init_25 (fun H locs hH => ?_)
  have hH : Hc g A0 (wr ++ (h0, .inr (0, [.ref q0, .ref q1, .ref q2])) :: [(q0, .inl (g.2.2.1, 48, .inl (fun _ : Nat => iI 0))), (q1, .inl (g.2.2.1, 80, .inl (fun _ : Nat => iI 0))), (q2, .inl (g.2.2.1, 8, .inl (fun _ : Nat => iI 0)))]) s H locs := hH
  refine lv_aload_n zx zb dX1_init_28 rfl (lv_at hl 0 rfl) ?_
  refine va_get (D := g.2.1) (ci := 0) (v := .ref q0) (C := RX1) (T := TX1) (N := 3) (Ts := GL) (own := RX1) zx zb (fun w hw => C0.2.2.2.2.w hw) inG1 C0.2.2.2.1 C0.2.2.2.2.2.2 hH.1 wr.length (len_at _ _ _) rfl 0 (by decide) (C0.2.2.2.2.w (gm 93 (by decide +kernel) rfl)) (fun _ h9 => h9) rfl dX1_init_29 ?_
  refine bi_const (n := (-1)) zx zb dX1_init_32 ?_
  refine ccS (rest := []) (As := [.ref q0, .int (iI (-1))]) C0 (ws := (wr ++ [(h0, .inr (0, [.ref q0, .ref q1, .ref q2]))]) ++ (q0, .inl (g.2.2.1, 48, .inl (fun _ : Nat => iI 0))) :: [(q1, .inl (g.2.2.1, 80, .inl (fun _ : Nat => iI 0))), (q2, .inl (g.2.2.1, 8, .inl (fun _ : Nat => iI 0)))]) (by rw [List.append_assoc]; exact hH) (cc_fill l g A0 (wr ++ [(h0, .inr (0, [.ref q0, .ref q1, .ref q2]))]) [(q1, .inl (g.2.2.1, 80, .inl (fun _ : Nat => iI 0))), (q2, .inl (g.2.2.1, 8, .inl (fun _ : Nat => iI 0)))] q0 48 (Nat.le_of_ble_eq_true rfl) (fun _ : Nat => iI 0) (-1)) kw_X1_21 ky_J7_fill_53178 ⟨Nat.le_of_ble_eq_true rfl, Nat.le_of_ble_eq_true rfl⟩ ⟨Nat.le_of_ble_eq_true rfl, Nat.le_of_ble_eq_true rfl⟩ rfl hl.1 rfl (Nat.le_of_ble_eq_true rfl) dX1_init_33 (fun w H locs hB hH => ?_)
  subst hB
  have hH : Hc g A0 (wr ++ (h0, .inr (0, [.ref q0, .ref q1, .ref q2])) :: [(q0, .inl (g.2.2.1, 48, .inl (flF 48 (-1) (fun _ : Nat => iI 0)))), (q1, .inl (g.2.2.1, 80, .inl (fun _ : Nat => iI 0))), (q2, .inl (g.2.2.1, 8, .inl (fun _ : Nat => iI 0)))]) s H locs := by rw [List.append_assoc] at hH; exact hH
  refine lv_aload_n zx zb dX1_init_36 rfl (lv_at hl 0 rfl) ?_
  refine va_get (D := g.2.1) (ci := 0) (v := .ref q2) (C := RX1) (T := TX1) (N := 3) (Ts := GL) (own := RX1) zx zb (fun w hw => C0.2.2.2.2.w hw) inG1 C0.2.2.2.1 C0.2.2.2.2.2.2 hH.1 wr.length (len_at _ _ _) rfl 2 (by decide) (C0.2.2.2.2.w (gm 96 (by decide +kernel) rfl)) (fun _ h9 => h9) rfl dX1_init_37 ?_
  refine bi_const (n := (-1)) zx zb dX1_init_40 ?_
  refine ccS (rest := []) (As := [.ref q2, .int (iI (-1))]) C0 (ws := (wr ++ [(h0, .inr (0, [.ref q0, .ref q1, .ref q2])), (q0, .inl (g.2.2.1, 48, .inl (flF 48 (-1) (fun _ : Nat => iI 0)))), (q1, .inl (g.2.2.1, 80, .inl (fun _ : Nat => iI 0)))]) ++ (q2, .inl (g.2.2.1, 8, .inl (fun _ : Nat => iI 0))) :: []) (by rw [List.append_assoc]; exact hH) (cc_fill l g A0 (wr ++ [(h0, .inr (0, [.ref q0, .ref q1, .ref q2])), (q0, .inl (g.2.2.1, 48, .inl (flF 48 (-1) (fun _ : Nat => iI 0)))), (q1, .inl (g.2.2.1, 80, .inl (fun _ : Nat => iI 0)))]) [] q2 8 (Nat.le_of_ble_eq_true rfl) (fun _ : Nat => iI 0) (-1)) kw_X1_21 ky_J7_fill_53178 ⟨Nat.le_of_ble_eq_true rfl, Nat.le_of_ble_eq_true rfl⟩ ⟨Nat.le_of_ble_eq_true rfl, Nat.le_of_ble_eq_true rfl⟩ rfl hl.1 rfl (Nat.le_of_ble_eq_true rfl) dX1_init_41 (fun w H locs hB hH => ?_)
  subst hB
  have hH : Hc g A0 (wr ++ (h0, .inr (0, [.ref q0, .ref q1, .ref q2])) :: [(q0, .inl (g.2.2.1, 48, .inl (flF 48 (-1) (fun _ : Nat => iI 0)))), (q1, .inl (g.2.2.1, 80, .inl (fun _ : Nat => iI 0))), (q2, .inl (g.2.2.1, 8, .inl (flF 8 (-1) (fun _ : Nat => iI 0))))]) s H locs := by rw [List.append_assoc] at hH; exact hH
  exact W.widen (k := 3) (n := 136) (Nat.le_of_ble_eq_true rfl) (Nat.le_of_ble_eq_true rfl) (rtC C0 hret hlk hH ⟨q0, q1, q2, rfl⟩ dX1_init_44)
set_option maxRecDepth 100000 in
set_option maxHeartbeats 4000000 in
theorem cc_X4_init (l : Launch) (g : gT) (h0 : Nat) (A0 : Nat → Prop) (wr : va_W) : MetC l g yX4_init cX4_init 1 1 20 4 48 [.ref h0] A0 (wr ++ [(h0, .inr (3, [.int (iI 0), .null, .null, .null, .null]))]) (fun w => ∃ z0 z1 z2 z3 : Nat, w = wr ++ [(h0, .inr (3, [.int (iI 0), .ref z0, .ref z1, .ref z2, .ref z3])), (z0, .inl (g.2.2.1, 12, .inl (fun _ : Nat => iI 0))), (z1, .inl (g.2.2.1, 12, .inl (fun _ : Nat => iI 0))), (z2, .inl (g.2.2.1, 12, .inl (fun _ : Nat => iI 0))), (z3, .inl (g.2.2.1, 12, .inl (fun _ : Nat => iI 0)))]) := by
  refine bodyC (by decide +kernel) (Nat.le_of_ble_eq_true rfl) ?_
  intro p e s m args below meth c ls C0 hret hlk hin hl hH
  have zx := C0.1
  have zb := C0.2.1
  have hl : lv_has ls 1 [(0, .ref h0)] := hl
  obtain ⟨H, hHe⟩ : ∃ H : Heap, H = s.heap := ⟨_, rfl⟩
  obtain ⟨locs, hle⟩ : ∃ locs : List Loc, locs = [] := ⟨_, rfl⟩
  rw [← hHe, ← hle] at hH
  rw [← hHe, ← hle]
  refine lv_aload_n zx zb dX4_init_0 rfl (lv_at hl 0 rfl) ?_
  refine oiC C0 (gm 110 (by decide +kernel) rfl) hl.1 dX4_init_1 (Nat.le_of_ble_eq_true rfl) (Nat.le_of_ble_eq_true rfl) ?_
  refine lv_aload_n zx zb dX4_init_4 rfl (lv_at hl 0 rfl) ?_
  refine bi_bip (n := 12) zx zb dX4_init_5 (by decide) ?_
  refine naC (n := 12) C0 hH (Nat.le_of_ble_eq_true rfl) (Nat.le_of_ble_eq_true rfl) (Nat.le_of_ble_eq_true rfl) dX4_init_7 (fun q0 H hH => ?_)
  have hH : Hc g A0 (wr ++ (h0, .inr (3, [.int (iI 0), .null, .null, .null, .null])) :: [(q0, .inl (g.2.2.1, 12, .inl (fun _ : Nat => iI 0)))]) s H locs := by rw [List.append_assoc] at hH; exact hH
  refine pfC (C := RX4) (T := TX4) (N := 5) (ty := .array .int) (v := .ref q0) C0 hin hH rfl inG4 tyX4 tyX4_ok nmX4 1 (by decide) (gm 113 (by decide +kernel) rfl) rfl rfl (by decide +kernel) rfl rfl (Nat.le_of_ble_eq_true rfl) dX4_init_9 (fun H locs hH => ?_)
  have hH : Hc g A0 (wr ++ (h0, .inr (3, [.int (iI 0), .ref q0, .null, .null, .null])) :: [(q0, .inl (g.2.2.1, 12, .inl (fun _ : Nat => iI 0)))]) s H locs := hH
  refine lv_aload_n zx zb dX4_init_12 rfl (lv_at hl 0 rfl) ?_
  refine bi_bip (n := 12) zx zb dX4_init_13 (by decide) ?_
  refine naC (n := 12) C0 hH (Nat.le_of_ble_eq_true rfl) (Nat.le_of_ble_eq_true rfl) (Nat.le_of_ble_eq_true rfl) dX4_init_15 (fun q1 H hH => ?_)
  have hH : Hc g A0 (wr ++ (h0, .inr (3, [.int (iI 0), .ref q0, .null, .null, .null])) :: [(q0, .inl (g.2.2.1, 12, .inl (fun _ : Nat => iI 0))), (q1, .inl (g.2.2.1, 12, .inl (fun _ : Nat => iI 0)))]) s H locs := by rw [List.append_assoc] at hH; exact hH
  refine pfC (C := RX4) (T := TX4) (N := 5) (ty := .array .int) (v := .ref q1) C0 hin hH rfl inG4 tyX4 tyX4_ok nmX4 2 (by decide) (gm 115 (by decide +kernel) rfl) rfl rfl (by decide +kernel) rfl rfl (Nat.le_of_ble_eq_true rfl) dX4_init_17 (fun H locs hH => ?_)
  have hH : Hc g A0 (wr ++ (h0, .inr (3, [.int (iI 0), .ref q0, .ref q1, .null, .null])) :: [(q0, .inl (g.2.2.1, 12, .inl (fun _ : Nat => iI 0))), (q1, .inl (g.2.2.1, 12, .inl (fun _ : Nat => iI 0)))]) s H locs := hH
  refine lv_aload_n zx zb dX4_init_20 rfl (lv_at hl 0 rfl) ?_
  refine bi_bip (n := 12) zx zb dX4_init_21 (by decide) ?_
  refine naC (n := 12) C0 hH (Nat.le_of_ble_eq_true rfl) (Nat.le_of_ble_eq_true rfl) (Nat.le_of_ble_eq_true rfl) dX4_init_23 (fun q2 H hH => ?_)
  have hH : Hc g A0 (wr ++ (h0, .inr (3, [.int (iI 0), .ref q0, .ref q1, .null, .null])) :: [(q0, .inl (g.2.2.1, 12, .inl (fun _ : Nat => iI 0))), (q1, .inl (g.2.2.1, 12, .inl (fun _ : Nat => iI 0))), (q2, .inl (g.2.2.1, 12, .inl (fun _ : Nat => iI 0)))]) s H locs := by rw [List.append_assoc] at hH; exact hH
  refine pfC (C := RX4) (T := TX4) (N := 5) (ty := .array .int) (v := .ref q2) C0 hin hH rfl inG4 tyX4 tyX4_ok nmX4 3 (by decide) (gm 117 (by decide +kernel) rfl) rfl rfl (by decide +kernel) rfl rfl (Nat.le_of_ble_eq_true rfl) dX4_init_25 (fun H locs hH => ?_)
  have hH : Hc g A0 (wr ++ (h0, .inr (3, [.int (iI 0), .ref q0, .ref q1, .ref q2, .null])) :: [(q0, .inl (g.2.2.1, 12, .inl (fun _ : Nat => iI 0))), (q1, .inl (g.2.2.1, 12, .inl (fun _ : Nat => iI 0))), (q2, .inl (g.2.2.1, 12, .inl (fun _ : Nat => iI 0)))]) s H locs := hH
  refine lv_aload_n zx zb dX4_init_28 rfl (lv_at hl 0 rfl) ?_
  refine bi_bip (n := 12) zx zb dX4_init_29 (by decide) ?_
  refine naC (n := 12) C0 hH (Nat.le_of_ble_eq_true rfl) (Nat.le_of_ble_eq_true rfl) (Nat.le_of_ble_eq_true rfl) dX4_init_31 (fun q3 H hH => ?_)
  have hH : Hc g A0 (wr ++ (h0, .inr (3, [.int (iI 0), .ref q0, .ref q1, .ref q2, .null])) :: [(q0, .inl (g.2.2.1, 12, .inl (fun _ : Nat => iI 0))), (q1, .inl (g.2.2.1, 12, .inl (fun _ : Nat => iI 0))), (q2, .inl (g.2.2.1, 12, .inl (fun _ : Nat => iI 0))), (q3, .inl (g.2.2.1, 12, .inl (fun _ : Nat => iI 0)))]) s H locs := by rw [List.append_assoc] at hH; exact hH
  refine pfC (C := RX4) (T := TX4) (N := 5) (ty := .array .int) (v := .ref q3) C0 hin hH rfl inG4 tyX4 tyX4_ok nmX4 4 (by decide) (gm 119 (by decide +kernel) rfl) rfl rfl (by decide +kernel) rfl rfl (Nat.le_of_ble_eq_true rfl) dX4_init_33 (fun H locs hH => ?_)
  have hH : Hc g A0 (wr ++ (h0, .inr (3, [.int (iI 0), .ref q0, .ref q1, .ref q2, .ref q3])) :: [(q0, .inl (g.2.2.1, 12, .inl (fun _ : Nat => iI 0))), (q1, .inl (g.2.2.1, 12, .inl (fun _ : Nat => iI 0))), (q2, .inl (g.2.2.1, 12, .inl (fun _ : Nat => iI 0))), (q3, .inl (g.2.2.1, 12, .inl (fun _ : Nat => iI 0)))]) s H locs := hH
  exact W.widen (k := 4) (n := 48) (Nat.le_of_ble_eq_true rfl) (Nat.le_of_ble_eq_true rfl) (rtC C0 hret hlk hH ⟨q0, q1, q2, q3, rfl⟩ dX4_init_36)
set_option maxRecDepth 100000 in
set_option maxHeartbeats 4000000 in
theorem cc_X3_init (l : Launch) (g : gT) (h0 : Nat) (A0 : Nat → Prop) (wr : va_W) : MetC l g yX3_init cX3_init 1 1 20 5 150 [.ref h0] A0 (wr ++ [(h0, .inr (2, [.int (iI 0), .int (iI 0), .null, .null, .null, .null, .null]))]) (fun w => ∃ z0 z1 z2 z3 z4 : Nat, w = wr ++ [(h0, .inr (2, [.int (iI 0), .int (iI 0), .ref z0, .ref z1, .ref z2, .ref z3, .ref z4])), (z0, .inl (g.2.2.1, 30, .inl (fun _ : Nat => iI 0))), (z1, .inl (g.2.2.1, 30, .inl (fun _ : Nat => iI 0))), (z2, .inl (g.2.2.1, 30, .inl (fun _ : Nat => iI 0))), (z3, .inl (g.2.2.1, 30, .inl (fun _ : Nat => iI 0))), (z4, .inl (g.2.2.1, 30, .inl (fun _ : Nat => iI 0)))]) := by
  refine bodyC (by decide +kernel) (Nat.le_of_ble_eq_true rfl) ?_
  intro p e s m args below meth c ls C0 hret hlk hin hl hH
  have zx := C0.1
  have zb := C0.2.1
  have hl : lv_has ls 1 [(0, .ref h0)] := hl
  obtain ⟨H, hHe⟩ : ∃ H : Heap, H = s.heap := ⟨_, rfl⟩
  obtain ⟨locs, hle⟩ : ∃ locs : List Loc, locs = [] := ⟨_, rfl⟩
  rw [← hHe, ← hle] at hH
  rw [← hHe, ← hle]
  refine lv_aload_n zx zb dX3_init_0 rfl (lv_at hl 0 rfl) ?_
  refine oiC C0 (gm 137 (by decide +kernel) rfl) hl.1 dX3_init_1 (Nat.le_of_ble_eq_true rfl) (Nat.le_of_ble_eq_true rfl) ?_
  refine lv_aload_n zx zb dX3_init_4 rfl (lv_at hl 0 rfl) ?_
  refine bi_bip (n := 30) zx zb dX3_init_5 (by decide) ?_
  refine naC (n := 30) C0 hH (Nat.le_of_ble_eq_true rfl) (Nat.le_of_ble_eq_true rfl) (Nat.le_of_ble_eq_true rfl) dX3_init_7 (fun q0 H hH => ?_)
  have hH : Hc g A0 (wr ++ (h0, .inr (2, [.int (iI 0), .int (iI 0), .null, .null, .null, .null, .null])) :: [(q0, .inl (g.2.2.1, 30, .inl (fun _ : Nat => iI 0)))]) s H locs := by rw [List.append_assoc] at hH; exact hH
  refine pfC (C := RX3) (T := TX3) (N := 7) (ty := .array .int) (v := .ref q0) C0 hin hH rfl inG3 tyX3 tyX3_ok nmX3 2 (by decide) (gm 142 (by decide +kernel) rfl) rfl rfl (by decide +kernel) rfl rfl (Nat.le_of_ble_eq_true rfl) dX3_init_9 (fun H locs hH => ?_)
  have hH : Hc g A0 (wr ++ (h0, .inr (2, [.int (iI 0), .int (iI 0), .ref q0, .null, .null, .null, .null])) :: [(q0, .inl (g.2.2.1, 30, .inl (fun _ : Nat => iI 0)))]) s H locs := hH
  refine lv_aload_n zx zb dX3_init_12 rfl (lv_at hl 0 rfl) ?_
  refine bi_bip (n := 30) zx zb dX3_init_13 (by decide) ?_
  refine naC (n := 30) C0 hH (Nat.le_of_ble_eq_true rfl) (Nat.le_of_ble_eq_true rfl) (Nat.le_of_ble_eq_true rfl) dX3_init_15 (fun q1 H hH => ?_)
  have hH : Hc g A0 (wr ++ (h0, .inr (2, [.int (iI 0), .int (iI 0), .ref q0, .null, .null, .null, .null])) :: [(q0, .inl (g.2.2.1, 30, .inl (fun _ : Nat => iI 0))), (q1, .inl (g.2.2.1, 30, .inl (fun _ : Nat => iI 0)))]) s H locs := by rw [List.append_assoc] at hH; exact hH
  refine pfC (C := RX3) (T := TX3) (N := 7) (ty := .array .int) (v := .ref q1) C0 hin hH rfl inG3 tyX3 tyX3_ok nmX3 3 (by decide) (gm 144 (by decide +kernel) rfl) rfl rfl (by decide +kernel) rfl rfl (Nat.le_of_ble_eq_true rfl) dX3_init_17 (fun H locs hH => ?_)
  have hH : Hc g A0 (wr ++ (h0, .inr (2, [.int (iI 0), .int (iI 0), .ref q0, .ref q1, .null, .null, .null])) :: [(q0, .inl (g.2.2.1, 30, .inl (fun _ : Nat => iI 0))), (q1, .inl (g.2.2.1, 30, .inl (fun _ : Nat => iI 0)))]) s H locs := hH
  refine lv_aload_n zx zb dX3_init_20 rfl (lv_at hl 0 rfl) ?_
  refine bi_bip (n := 30) zx zb dX3_init_21 (by decide) ?_
  refine naC (n := 30) C0 hH (Nat.le_of_ble_eq_true rfl) (Nat.le_of_ble_eq_true rfl) (Nat.le_of_ble_eq_true rfl) dX3_init_23 (fun q2 H hH => ?_)
  have hH : Hc g A0 (wr ++ (h0, .inr (2, [.int (iI 0), .int (iI 0), .ref q0, .ref q1, .null, .null, .null])) :: [(q0, .inl (g.2.2.1, 30, .inl (fun _ : Nat => iI 0))), (q1, .inl (g.2.2.1, 30, .inl (fun _ : Nat => iI 0))), (q2, .inl (g.2.2.1, 30, .inl (fun _ : Nat => iI 0)))]) s H locs := by rw [List.append_assoc] at hH; exact hH
  refine pfC (C := RX3) (T := TX3) (N := 7) (ty := .array .int) (v := .ref q2) C0 hin hH rfl inG3 tyX3 tyX3_ok nmX3 4 (by decide) (gm 146 (by decide +kernel) rfl) rfl rfl (by decide +kernel) rfl rfl (Nat.le_of_ble_eq_true rfl) dX3_init_25 (fun H locs hH => ?_)
  have hH : Hc g A0 (wr ++ (h0, .inr (2, [.int (iI 0), .int (iI 0), .ref q0, .ref q1, .ref q2, .null, .null])) :: [(q0, .inl (g.2.2.1, 30, .inl (fun _ : Nat => iI 0))), (q1, .inl (g.2.2.1, 30, .inl (fun _ : Nat => iI 0))), (q2, .inl (g.2.2.1, 30, .inl (fun _ : Nat => iI 0)))]) s H locs := hH
  refine lv_aload_n zx zb dX3_init_28 rfl (lv_at hl 0 rfl) ?_
  refine bi_bip (n := 30) zx zb dX3_init_29 (by decide) ?_
  refine naC (n := 30) C0 hH (Nat.le_of_ble_eq_true rfl) (Nat.le_of_ble_eq_true rfl) (Nat.le_of_ble_eq_true rfl) dX3_init_31 (fun q3 H hH => ?_)
  have hH : Hc g A0 (wr ++ (h0, .inr (2, [.int (iI 0), .int (iI 0), .ref q0, .ref q1, .ref q2, .null, .null])) :: [(q0, .inl (g.2.2.1, 30, .inl (fun _ : Nat => iI 0))), (q1, .inl (g.2.2.1, 30, .inl (fun _ : Nat => iI 0))), (q2, .inl (g.2.2.1, 30, .inl (fun _ : Nat => iI 0))), (q3, .inl (g.2.2.1, 30, .inl (fun _ : Nat => iI 0)))]) s H locs := by rw [List.append_assoc] at hH; exact hH
  refine pfC (C := RX3) (T := TX3) (N := 7) (ty := .array .int) (v := .ref q3) C0 hin hH rfl inG3 tyX3 tyX3_ok nmX3 5 (by decide) (gm 148 (by decide +kernel) rfl) rfl rfl (by decide +kernel) rfl rfl (Nat.le_of_ble_eq_true rfl) dX3_init_33 (fun H locs hH => ?_)
  have hH : Hc g A0 (wr ++ (h0, .inr (2, [.int (iI 0), .int (iI 0), .ref q0, .ref q1, .ref q2, .ref q3, .null])) :: [(q0, .inl (g.2.2.1, 30, .inl (fun _ : Nat => iI 0))), (q1, .inl (g.2.2.1, 30, .inl (fun _ : Nat => iI 0))), (q2, .inl (g.2.2.1, 30, .inl (fun _ : Nat => iI 0))), (q3, .inl (g.2.2.1, 30, .inl (fun _ : Nat => iI 0)))]) s H locs := hH
  refine lv_aload_n zx zb dX3_init_36 rfl (lv_at hl 0 rfl) ?_
  refine bi_bip (n := 30) zx zb dX3_init_37 (by decide) ?_
  refine naC (n := 30) C0 hH (Nat.le_of_ble_eq_true rfl) (Nat.le_of_ble_eq_true rfl) (Nat.le_of_ble_eq_true rfl) dX3_init_39 (fun q4 H hH => ?_)
  have hH : Hc g A0 (wr ++ (h0, .inr (2, [.int (iI 0), .int (iI 0), .ref q0, .ref q1, .ref q2, .ref q3, .null])) :: [(q0, .inl (g.2.2.1, 30, .inl (fun _ : Nat => iI 0))), (q1, .inl (g.2.2.1, 30, .inl (fun _ : Nat => iI 0))), (q2, .inl (g.2.2.1, 30, .inl (fun _ : Nat => iI 0))), (q3, .inl (g.2.2.1, 30, .inl (fun _ : Nat => iI 0))), (q4, .inl (g.2.2.1, 30, .inl (fun _ : Nat => iI 0)))]) s H locs := by rw [List.append_assoc] at hH; exact hH
  refine pfC (C := RX3) (T := TX3) (N := 7) (ty := .array .int) (v := .ref q4) C0 hin hH rfl inG3 tyX3 tyX3_ok nmX3 6 (by decide) (gm 150 (by decide +kernel) rfl) rfl rfl (by decide +kernel) rfl rfl (Nat.le_of_ble_eq_true rfl) dX3_init_41 (fun H locs hH => ?_)
  have hH : Hc g A0 (wr ++ (h0, .inr (2, [.int (iI 0), .int (iI 0), .ref q0, .ref q1, .ref q2, .ref q3, .ref q4])) :: [(q0, .inl (g.2.2.1, 30, .inl (fun _ : Nat => iI 0))), (q1, .inl (g.2.2.1, 30, .inl (fun _ : Nat => iI 0))), (q2, .inl (g.2.2.1, 30, .inl (fun _ : Nat => iI 0))), (q3, .inl (g.2.2.1, 30, .inl (fun _ : Nat => iI 0))), (q4, .inl (g.2.2.1, 30, .inl (fun _ : Nat => iI 0)))]) s H locs := hH
  exact W.widen (k := 5) (n := 150) (Nat.le_of_ble_eq_true rfl) (Nat.le_of_ble_eq_true rfl) (rtC C0 hret hlk hH ⟨q0, q1, q2, q3, q4, rfl⟩ dX3_init_44)
set_option maxRecDepth 100000 in
set_option maxHeartbeats 4000000 in
theorem cc_X6_init (l : Launch) (g : gT) (h0 : Nat) (A0 : Nat → Prop) (wr : va_W) : MetC l g yX6_init cX6_init 1 2 43 22 572 [.ref h0] A0 (wr ++ [(h0, .inr (5, [.null, .null, .null, .null, .null]))]) (fun w => ∃ z0 z1 z2 z3 z4 z5 z6 z7 z8 z9 z10 z11 z12 z13 z14 z15 z16 z17 z18 z19 z20 z21 : Nat, w = wr ++ [(h0, .inr (5, [.ref z0, .ref z3, .ref z7, .ref z11, .ref z16])), (z0, .inr (1, [.int (iI 0), .ref z1, .ref z2])), (z1, .inl (g.2.2.1, 24, .inl (fun _ : Nat => iI 0))), (z2, .inl (g.2.2.1, 24, .inl (fun _ : Nat => iI 0))), (z3, .inr (4, [.int (iI 0), .ref z4, .ref z5, .ref z6])), (z4, .inl (g.2.2.1, 8, .inl (fun _ : Nat => iI 0))), (z5, .inl (g.2.2.1, 80, .inl (fun _ : Nat => iI 0))), (z6, .inl (g.2.2.1, 80, .inl (fun _ : Nat => iI 0))), (z7, .inr (0, [.ref z8, .ref z9, .ref z10])), (z8, .inl (g.2.2.1, 48, .inl (flF 48 (-1) (fun _ : Nat => iI 0)))), (z9, .inl (g.2.2.1, 80, .inl (fun _ : Nat => iI 0))), (z10, .inl (g.2.2.1, 8, .inl (flF 8 (-1) (fun _ : Nat => iI 0)))), (z11, .inr (3, [.int (iI 0), .ref z12, .ref z13, .ref z14, .ref z15])), (z12, .inl (g.2.2.1, 12, .inl (fun _ : Nat => iI 0))), (z13, .inl (g.2.2.1, 12, .inl (fun _ : Nat => iI 0))), (z14, .inl (g.2.2.1, 12, .inl (fun _ : Nat => iI 0))), (z15, .inl (g.2.2.1, 12, .inl (fun _ : Nat => iI 0))), (z16, .inr (2, [.int (iI 0), .int (iI 0), .ref z17, .ref z18, .ref z19, .ref z20, .ref z21])), (z17, .inl (g.2.2.1, 30, .inl (fun _ : Nat => iI 0))), (z18, .inl (g.2.2.1, 30, .inl (fun _ : Nat => iI 0))), (z19, .inl (g.2.2.1, 30, .inl (fun _ : Nat => iI 0))), (z20, .inl (g.2.2.1, 30, .inl (fun _ : Nat => iI 0))), (z21, .inl (g.2.2.1, 30, .inl (fun _ : Nat => iI 0)))]) := by
  refine bodyC (by decide +kernel) (Nat.le_of_ble_eq_true rfl) ?_
  intro p e s m args below meth c ls C0 hret hlk hin hl hH
  have zx := C0.1
  have zb := C0.2.1
  have hl : lv_has ls 1 [(0, .ref h0)] := hl
  obtain ⟨H, hHe⟩ : ∃ H : Heap, H = s.heap := ⟨_, rfl⟩
  obtain ⟨locs, hle⟩ : ∃ locs : List Loc, locs = [] := ⟨_, rfl⟩
  rw [← hHe, ← hle] at hH
  rw [← hHe, ← hle]
  refine lv_aload_n zx zb dX6_init_0 rfl (lv_at hl 0 rfl) ?_
  refine oiC C0 (gm 38 (by decide +kernel) rfl) hl.1 dX6_init_1 (Nat.le_of_ble_eq_true rfl) (Nat.le_of_ble_eq_true rfl) ?_
  refine lv_aload_n zx zb dX6_init_4 rfl (lv_at hl 0 rfl) ?_
  refine nwC (T := TX2) (ci := 1) (fs := [.int (iI 0), .null, .null]) C0 hH rfl inG2 tyX2 tyX2_ok (gm 41 (by decide +kernel) rfl) (gm 42 (by decide +kernel) rfl) (gm 18 (by decide +kernel) rfl) (fun j hj => by rcases (show j = 0 ∨ j = 1 ∨ j = 2 by omega) with rfl | rfl | rfl <;> rfl) (Nat.le_of_ble_eq_true rfl) (Nat.le_of_ble_eq_true rfl) dX6_init_5 (fun q0 H hH => ?_)
  have hH : Hc g A0 (wr ++ (h0, .inr (5, [.null, .null, .null, .null, .null])) :: [(q0, .inr (1, [.int (iI 0), .null, .null]))]) s H locs := by rw [List.append_assoc] at hH; exact hH
  refine lv_dup zx zb dX6_init_8 rfl ?_
  refine ccN (host := "SkyLoom") (rest := [.ref q0, .ref h0]) C0 (ws := (wr ++ (h0, .inr (5, [.null, .null, .null, .null, .null])) :: []) ++ [(q0, .inr (1, [.int (iI 0), .null, .null]))]) (by rw [List.append_assoc]; exact hH) (cc_X2_init l g q0 A0 (wr ++ (h0, .inr (5, [.null, .null, .null, .null, .null])) :: [])) (nmm 43 (by decide +kernel) rfl) ⟨gm 44 (by decide +kernel) rfl, gm 45 (by decide +kernel) rfl, gm 18 (by decide +kernel) rfl⟩ ky_X2_init rfl ⟨Nat.le_of_ble_eq_true rfl, Nat.le_of_ble_eq_true rfl⟩ ⟨Nat.le_of_ble_eq_true rfl, Nat.le_of_ble_eq_true rfl⟩ hl.1 (Nat.le_of_ble_eq_true rfl) dX6_init_9 (fun w H locs hB hH => ?_)
  obtain ⟨q0a, q0b, rfl⟩ := hB
  have hH : Hc g A0 (wr ++ (h0, .inr (5, [.null, .null, .null, .null, .null])) :: [(q0, .inr (1, [.int (iI 0), .ref q0a, .ref q0b])), (q0a, .inl (g.2.2.1, 24, .inl (fun _ : Nat => iI 0))), (q0b, .inl (g.2.2.1, 24, .inl (fun _ : Nat => iI 0)))]) s H locs := by rw [List.append_assoc] at hH; exact hH
  refine pfC (C := RX6) (T := TX6) (N := 5) (ty := .object "SkyLoom$Chart") (v := .ref q0) C0 hin hH rfl inG6 tyX6 tyX6_ok nmX6 0 (by decide) (gm 167 (by decide +kernel) rfl) rfl rfl (by decide +kernel) rfl rfl (Nat.le_of_ble_eq_true rfl) dX6_init_12 (fun H locs hH => ?_)
  have hH : Hc g A0 (wr ++ (h0, .inr (5, [.ref q0, .null, .null, .null, .null])) :: [(q0, .inr (1, [.int (iI 0), .ref q0a, .ref q0b])), (q0a, .inl (g.2.2.1, 24, .inl (fun _ : Nat => iI 0))), (q0b, .inl (g.2.2.1, 24, .inl (fun _ : Nat => iI 0)))]) s H locs := hH
  refine lv_aload_n zx zb dX6_init_15 rfl (lv_at hl 0 rfl) ?_
  refine nwC (T := TX5) (ci := 4) (fs := [.int (iI 0), .null, .null, .null]) C0 hH rfl inG5 tyX5 tyX5_ok (gm 61 (by decide +kernel) rfl) (gm 62 (by decide +kernel) rfl) (gm 19 (by decide +kernel) rfl) (fun j hj => by rcases (show j = 0 ∨ j = 1 ∨ j = 2 ∨ j = 3 by omega) with rfl | rfl | rfl | rfl <;> rfl) (Nat.le_of_ble_eq_true rfl) (Nat.le_of_ble_eq_true rfl) dX6_init_16 (fun q1 H hH => ?_)
  have hH : Hc g A0 (wr ++ (h0, .inr (5, [.ref q0, .null, .null, .null, .null])) :: [(q0, .inr (1, [.int (iI 0), .ref q0a, .ref q0b])), (q0a, .inl (g.2.2.1, 24, .inl (fun _ : Nat => iI 0))), (q0b, .inl (g.2.2.1, 24, .inl (fun _ : Nat => iI 0))), (q1, .inr (4, [.int (iI 0), .null, .null, .null]))]) s H locs := by rw [List.append_assoc] at hH; exact hH
  refine lv_dup zx zb dX6_init_19 rfl ?_
  refine ccN (host := "SkyLoom") (rest := [.ref q1, .ref h0]) C0 (ws := (wr ++ (h0, .inr (5, [.ref q0, .null, .null, .null, .null])) :: [(q0, .inr (1, [.int (iI 0), .ref q0a, .ref q0b])), (q0a, .inl (g.2.2.1, 24, .inl (fun _ : Nat => iI 0))), (q0b, .inl (g.2.2.1, 24, .inl (fun _ : Nat => iI 0)))]) ++ [(q1, .inr (4, [.int (iI 0), .null, .null, .null]))]) (by rw [List.append_assoc]; exact hH) (cc_X5_init l g q1 A0 (wr ++ (h0, .inr (5, [.ref q0, .null, .null, .null, .null])) :: [(q0, .inr (1, [.int (iI 0), .ref q0a, .ref q0b])), (q0a, .inl (g.2.2.1, 24, .inl (fun _ : Nat => iI 0))), (q0b, .inl (g.2.2.1, 24, .inl (fun _ : Nat => iI 0)))])) (nmm 63 (by decide +kernel) rfl) ⟨gm 64 (by decide +kernel) rfl, gm 65 (by decide +kernel) rfl, gm 19 (by decide +kernel) rfl⟩ ky_X5_init rfl ⟨Nat.le_of_ble_eq_true rfl, Nat.le_of_ble_eq_true rfl⟩ ⟨Nat.le_of_ble_eq_true rfl, Nat.le_of_ble_eq_true rfl⟩ hl.1 (Nat.le_of_ble_eq_true rfl) dX6_init_20 (fun w H locs hB hH => ?_)
  obtain ⟨q1a, q1b, q1c, rfl⟩ := hB
  have hH : Hc g A0 (wr ++ (h0, .inr (5, [.ref q0, .null, .null, .null, .null])) :: [(q0, .inr (1, [.int (iI 0), .ref q0a, .ref q0b])), (q0a, .inl (g.2.2.1, 24, .inl (fun _ : Nat => iI 0))), (q0b, .inl (g.2.2.1, 24, .inl (fun _ : Nat => iI 0))), (q1, .inr (4, [.int (iI 0), .ref q1a, .ref q1b, .ref q1c])), (q1a, .inl (g.2.2.1, 8, .inl (fun _ : Nat => iI 0))), (q1b, .inl (g.2.2.1, 80, .inl (fun _ : Nat => iI 0))), (q1c, .inl (g.2.2.1, 80, .inl (fun _ : Nat => iI 0)))]) s H locs := by rw [List.append_assoc] at hH; exact hH
  refine pfC (C := RX6) (T := TX6) (N := 5) (ty := .object "SkyLoom$Web") (v := .ref q1) C0 hin hH rfl inG6 tyX6 tyX6_ok nmX6 1 (by decide) (gm 168 (by decide +kernel) rfl) rfl rfl (by decide +kernel) rfl rfl (Nat.le_of_ble_eq_true rfl) dX6_init_23 (fun H locs hH => ?_)
  have hH : Hc g A0 (wr ++ (h0, .inr (5, [.ref q0, .ref q1, .null, .null, .null])) :: [(q0, .inr (1, [.int (iI 0), .ref q0a, .ref q0b])), (q0a, .inl (g.2.2.1, 24, .inl (fun _ : Nat => iI 0))), (q0b, .inl (g.2.2.1, 24, .inl (fun _ : Nat => iI 0))), (q1, .inr (4, [.int (iI 0), .ref q1a, .ref q1b, .ref q1c])), (q1a, .inl (g.2.2.1, 8, .inl (fun _ : Nat => iI 0))), (q1b, .inl (g.2.2.1, 80, .inl (fun _ : Nat => iI 0))), (q1c, .inl (g.2.2.1, 80, .inl (fun _ : Nat => iI 0)))]) s H locs := hH
  refine lv_aload_n zx zb dX6_init_26 rfl (lv_at hl 0 rfl) ?_
  refine nwC (T := TX1) (ci := 0) (fs := [.null, .null, .null]) C0 hH rfl inG1 tyX1 tyX1_ok (gm 84 (by decide +kernel) rfl) (gm 85 (by decide +kernel) rfl) (gm 20 (by decide +kernel) rfl) (fun j hj => by rcases (show j = 0 ∨ j = 1 ∨ j = 2 by omega) with rfl | rfl | rfl <;> rfl) (Nat.le_of_ble_eq_true rfl) (Nat.le_of_ble_eq_true rfl) dX6_init_27 (fun q2 H hH => ?_)
  have hH : Hc g A0 (wr ++ (h0, .inr (5, [.ref q0, .ref q1, .null, .null, .null])) :: [(q0, .inr (1, [.int (iI 0), .ref q0a, .ref q0b])), (q0a, .inl (g.2.2.1, 24, .inl (fun _ : Nat => iI 0))), (q0b, .inl (g.2.2.1, 24, .inl (fun _ : Nat => iI 0))), (q1, .inr (4, [.int (iI 0), .ref q1a, .ref q1b, .ref q1c])), (q1a, .inl (g.2.2.1, 8, .inl (fun _ : Nat => iI 0))), (q1b, .inl (g.2.2.1, 80, .inl (fun _ : Nat => iI 0))), (q1c, .inl (g.2.2.1, 80, .inl (fun _ : Nat => iI 0))), (q2, .inr (0, [.null, .null, .null]))]) s H locs := by rw [List.append_assoc] at hH; exact hH
  refine lv_dup zx zb dX6_init_30 rfl ?_
  refine ccC (rest := [.ref q2, .ref h0]) C0 (ws := (wr ++ (h0, .inr (5, [.ref q0, .ref q1, .null, .null, .null])) :: [(q0, .inr (1, [.int (iI 0), .ref q0a, .ref q0b])), (q0a, .inl (g.2.2.1, 24, .inl (fun _ : Nat => iI 0))), (q0b, .inl (g.2.2.1, 24, .inl (fun _ : Nat => iI 0))), (q1, .inr (4, [.int (iI 0), .ref q1a, .ref q1b, .ref q1c])), (q1a, .inl (g.2.2.1, 8, .inl (fun _ : Nat => iI 0))), (q1b, .inl (g.2.2.1, 80, .inl (fun _ : Nat => iI 0))), (q1c, .inl (g.2.2.1, 80, .inl (fun _ : Nat => iI 0)))]) ++ [(q2, .inr (0, [.null, .null, .null]))]) (by rw [List.append_assoc]; exact hH) (cc_X1_init l g q2 A0 (wr ++ (h0, .inr (5, [.ref q0, .ref q1, .null, .null, .null])) :: [(q0, .inr (1, [.int (iI 0), .ref q0a, .ref q0b])), (q0a, .inl (g.2.2.1, 24, .inl (fun _ : Nat => iI 0))), (q0b, .inl (g.2.2.1, 24, .inl (fun _ : Nat => iI 0))), (q1, .inr (4, [.int (iI 0), .ref q1a, .ref q1b, .ref q1c])), (q1a, .inl (g.2.2.1, 8, .inl (fun _ : Nat => iI 0))), (q1b, .inl (g.2.2.1, 80, .inl (fun _ : Nat => iI 0))), (q1c, .inl (g.2.2.1, 80, .inl (fun _ : Nat => iI 0)))])) (C0.2.2.2.2.w (gm 86 (by decide +kernel) rfl)) ⟨gm 87 (by decide +kernel) rfl, gm 88 (by decide +kernel) rfl, gm 20 (by decide +kernel) rfl⟩ ky_X1_init rfl ⟨Nat.le_of_ble_eq_true rfl, Nat.le_of_ble_eq_true rfl⟩ ⟨Nat.le_of_ble_eq_true rfl, Nat.le_of_ble_eq_true rfl⟩ hl.1 (Nat.le_of_ble_eq_true rfl) dX6_init_31 (fun w H locs hB hH => ?_)
  obtain ⟨q2a, q2b, q2c, rfl⟩ := hB
  have hH : Hc g A0 (wr ++ (h0, .inr (5, [.ref q0, .ref q1, .null, .null, .null])) :: [(q0, .inr (1, [.int (iI 0), .ref q0a, .ref q0b])), (q0a, .inl (g.2.2.1, 24, .inl (fun _ : Nat => iI 0))), (q0b, .inl (g.2.2.1, 24, .inl (fun _ : Nat => iI 0))), (q1, .inr (4, [.int (iI 0), .ref q1a, .ref q1b, .ref q1c])), (q1a, .inl (g.2.2.1, 8, .inl (fun _ : Nat => iI 0))), (q1b, .inl (g.2.2.1, 80, .inl (fun _ : Nat => iI 0))), (q1c, .inl (g.2.2.1, 80, .inl (fun _ : Nat => iI 0))), (q2, .inr (0, [.ref q2a, .ref q2b, .ref q2c])), (q2a, .inl (g.2.2.1, 48, .inl (flF 48 (-1) (fun _ : Nat => iI 0)))), (q2b, .inl (g.2.2.1, 80, .inl (fun _ : Nat => iI 0))), (q2c, .inl (g.2.2.1, 8, .inl (flF 8 (-1) (fun _ : Nat => iI 0))))]) s H locs := by rw [List.append_assoc] at hH; exact hH
  refine pfC (C := RX6) (T := TX6) (N := 5) (ty := .object "SkyLoom$Ballot") (v := .ref q2) C0 hin hH rfl inG6 tyX6 tyX6_ok nmX6 2 (by decide) (gm 169 (by decide +kernel) rfl) rfl rfl (by decide +kernel) rfl rfl (Nat.le_of_ble_eq_true rfl) dX6_init_34 (fun H locs hH => ?_)
  have hH : Hc g A0 (wr ++ (h0, .inr (5, [.ref q0, .ref q1, .ref q2, .null, .null])) :: [(q0, .inr (1, [.int (iI 0), .ref q0a, .ref q0b])), (q0a, .inl (g.2.2.1, 24, .inl (fun _ : Nat => iI 0))), (q0b, .inl (g.2.2.1, 24, .inl (fun _ : Nat => iI 0))), (q1, .inr (4, [.int (iI 0), .ref q1a, .ref q1b, .ref q1c])), (q1a, .inl (g.2.2.1, 8, .inl (fun _ : Nat => iI 0))), (q1b, .inl (g.2.2.1, 80, .inl (fun _ : Nat => iI 0))), (q1c, .inl (g.2.2.1, 80, .inl (fun _ : Nat => iI 0))), (q2, .inr (0, [.ref q2a, .ref q2b, .ref q2c])), (q2a, .inl (g.2.2.1, 48, .inl (flF 48 (-1) (fun _ : Nat => iI 0)))), (q2b, .inl (g.2.2.1, 80, .inl (fun _ : Nat => iI 0))), (q2c, .inl (g.2.2.1, 8, .inl (flF 8 (-1) (fun _ : Nat => iI 0))))]) s H locs := hH
  refine lv_aload_n zx zb dX6_init_37 rfl (lv_at hl 0 rfl) ?_
  refine nwC (T := TX4) (ci := 3) (fs := [.int (iI 0), .null, .null, .null, .null]) C0 hH rfl inG4 tyX4 tyX4_ok (gm 105 (by decide +kernel) rfl) (gm 106 (by decide +kernel) rfl) (gm 22 (by decide +kernel) rfl) (fun j hj => by rcases (show j = 0 ∨ j = 1 ∨ j = 2 ∨ j = 3 ∨ j = 4 by omega) with rfl | rfl | rfl | rfl | rfl <;> rfl) (Nat.le_of_ble_eq_true rfl) (Nat.le_of_ble_eq_true rfl) dX6_init_38 (fun q3 H hH => ?_)
  have hH : Hc g A0 (wr ++ (h0, .inr (5, [.ref q0, .ref q1, .ref q2, .null, .null])) :: [(q0, .inr (1, [.int (iI 0), .ref q0a, .ref q0b])), (q0a, .inl (g.2.2.1, 24, .inl (fun _ : Nat => iI 0))), (q0b, .inl (g.2.2.1, 24, .inl (fun _ : Nat => iI 0))), (q1, .inr (4, [.int (iI 0), .ref q1a, .ref q1b, .ref q1c])), (q1a, .inl (g.2.2.1, 8, .inl (fun _ : Nat => iI 0))), (q1b, .inl (g.2.2.1, 80, .inl (fun _ : Nat => iI 0))), (q1c, .inl (g.2.2.1, 80, .inl (fun _ : Nat => iI 0))), (q2, .inr (0, [.ref q2a, .ref q2b, .ref q2c])), (q2a, .inl (g.2.2.1, 48, .inl (flF 48 (-1) (fun _ : Nat => iI 0)))), (q2b, .inl (g.2.2.1, 80, .inl (fun _ : Nat => iI 0))), (q2c, .inl (g.2.2.1, 8, .inl (flF 8 (-1) (fun _ : Nat => iI 0)))), (q3, .inr (3, [.int (iI 0), .null, .null, .null, .null]))]) s H locs := by rw [List.append_assoc] at hH; exact hH
  refine lv_dup zx zb dX6_init_41 rfl ?_
  refine ccN (host := "SkyLoom") (rest := [.ref q3, .ref h0]) C0 (ws := (wr ++ (h0, .inr (5, [.ref q0, .ref q1, .ref q2, .null, .null])) :: [(q0, .inr (1, [.int (iI 0), .ref q0a, .ref q0b])), (q0a, .inl (g.2.2.1, 24, .inl (fun _ : Nat => iI 0))), (q0b, .inl (g.2.2.1, 24, .inl (fun _ : Nat => iI 0))), (q1, .inr (4, [.int (iI 0), .ref q1a, .ref q1b, .ref q1c])), (q1a, .inl (g.2.2.1, 8, .inl (fun _ : Nat => iI 0))), (q1b, .inl (g.2.2.1, 80, .inl (fun _ : Nat => iI 0))), (q1c, .inl (g.2.2.1, 80, .inl (fun _ : Nat => iI 0))), (q2, .inr (0, [.ref q2a, .ref q2b, .ref q2c])), (q2a, .inl (g.2.2.1, 48, .inl (flF 48 (-1) (fun _ : Nat => iI 0)))), (q2b, .inl (g.2.2.1, 80, .inl (fun _ : Nat => iI 0))), (q2c, .inl (g.2.2.1, 8, .inl (flF 8 (-1) (fun _ : Nat => iI 0))))]) ++ [(q3, .inr (3, [.int (iI 0), .null, .null, .null, .null]))]) (by rw [List.append_assoc]; exact hH) (cc_X4_init l g q3 A0 (wr ++ (h0, .inr (5, [.ref q0, .ref q1, .ref q2, .null, .null])) :: [(q0, .inr (1, [.int (iI 0), .ref q0a, .ref q0b])), (q0a, .inl (g.2.2.1, 24, .inl (fun _ : Nat => iI 0))), (q0b, .inl (g.2.2.1, 24, .inl (fun _ : Nat => iI 0))), (q1, .inr (4, [.int (iI 0), .ref q1a, .ref q1b, .ref q1c])), (q1a, .inl (g.2.2.1, 8, .inl (fun _ : Nat => iI 0))), (q1b, .inl (g.2.2.1, 80, .inl (fun _ : Nat => iI 0))), (q1c, .inl (g.2.2.1, 80, .inl (fun _ : Nat => iI 0))), (q2, .inr (0, [.ref q2a, .ref q2b, .ref q2c])), (q2a, .inl (g.2.2.1, 48, .inl (flF 48 (-1) (fun _ : Nat => iI 0)))), (q2b, .inl (g.2.2.1, 80, .inl (fun _ : Nat => iI 0))), (q2c, .inl (g.2.2.1, 8, .inl (flF 8 (-1) (fun _ : Nat => iI 0))))])) (nmm 107 (by decide +kernel) rfl) ⟨gm 108 (by decide +kernel) rfl, gm 109 (by decide +kernel) rfl, gm 22 (by decide +kernel) rfl⟩ ky_X4_init rfl ⟨Nat.le_of_ble_eq_true rfl, Nat.le_of_ble_eq_true rfl⟩ ⟨Nat.le_of_ble_eq_true rfl, Nat.le_of_ble_eq_true rfl⟩ hl.1 (Nat.le_of_ble_eq_true rfl) dX6_init_42 (fun w H locs hB hH => ?_)
  obtain ⟨q3a, q3b, q3c, q3d, rfl⟩ := hB
  have hH : Hc g A0 (wr ++ (h0, .inr (5, [.ref q0, .ref q1, .ref q2, .null, .null])) :: [(q0, .inr (1, [.int (iI 0), .ref q0a, .ref q0b])), (q0a, .inl (g.2.2.1, 24, .inl (fun _ : Nat => iI 0))), (q0b, .inl (g.2.2.1, 24, .inl (fun _ : Nat => iI 0))), (q1, .inr (4, [.int (iI 0), .ref q1a, .ref q1b, .ref q1c])), (q1a, .inl (g.2.2.1, 8, .inl (fun _ : Nat => iI 0))), (q1b, .inl (g.2.2.1, 80, .inl (fun _ : Nat => iI 0))), (q1c, .inl (g.2.2.1, 80, .inl (fun _ : Nat => iI 0))), (q2, .inr (0, [.ref q2a, .ref q2b, .ref q2c])), (q2a, .inl (g.2.2.1, 48, .inl (flF 48 (-1) (fun _ : Nat => iI 0)))), (q2b, .inl (g.2.2.1, 80, .inl (fun _ : Nat => iI 0))), (q2c, .inl (g.2.2.1, 8, .inl (flF 8 (-1) (fun _ : Nat => iI 0)))), (q3, .inr (3, [.int (iI 0), .ref q3a, .ref q3b, .ref q3c, .ref q3d])), (q3a, .inl (g.2.2.1, 12, .inl (fun _ : Nat => iI 0))), (q3b, .inl (g.2.2.1, 12, .inl (fun _ : Nat => iI 0))), (q3c, .inl (g.2.2.1, 12, .inl (fun _ : Nat => iI 0))), (q3d, .inl (g.2.2.1, 12, .inl (fun _ : Nat => iI 0)))]) s H locs := by rw [List.append_assoc] at hH; exact hH
  refine pfC (C := RX6) (T := TX6) (N := 5) (ty := .object "SkyLoom$Programme") (v := .ref q3) C0 hin hH rfl inG6 tyX6 tyX6_ok nmX6 3 (by decide) (gm 170 (by decide +kernel) rfl) rfl rfl (by decide +kernel) rfl rfl (Nat.le_of_ble_eq_true rfl) dX6_init_45 (fun H locs hH => ?_)
  have hH : Hc g A0 (wr ++ (h0, .inr (5, [.ref q0, .ref q1, .ref q2, .ref q3, .null])) :: [(q0, .inr (1, [.int (iI 0), .ref q0a, .ref q0b])), (q0a, .inl (g.2.2.1, 24, .inl (fun _ : Nat => iI 0))), (q0b, .inl (g.2.2.1, 24, .inl (fun _ : Nat => iI 0))), (q1, .inr (4, [.int (iI 0), .ref q1a, .ref q1b, .ref q1c])), (q1a, .inl (g.2.2.1, 8, .inl (fun _ : Nat => iI 0))), (q1b, .inl (g.2.2.1, 80, .inl (fun _ : Nat => iI 0))), (q1c, .inl (g.2.2.1, 80, .inl (fun _ : Nat => iI 0))), (q2, .inr (0, [.ref q2a, .ref q2b, .ref q2c])), (q2a, .inl (g.2.2.1, 48, .inl (flF 48 (-1) (fun _ : Nat => iI 0)))), (q2b, .inl (g.2.2.1, 80, .inl (fun _ : Nat => iI 0))), (q2c, .inl (g.2.2.1, 8, .inl (flF 8 (-1) (fun _ : Nat => iI 0)))), (q3, .inr (3, [.int (iI 0), .ref q3a, .ref q3b, .ref q3c, .ref q3d])), (q3a, .inl (g.2.2.1, 12, .inl (fun _ : Nat => iI 0))), (q3b, .inl (g.2.2.1, 12, .inl (fun _ : Nat => iI 0))), (q3c, .inl (g.2.2.1, 12, .inl (fun _ : Nat => iI 0))), (q3d, .inl (g.2.2.1, 12, .inl (fun _ : Nat => iI 0)))]) s H locs := hH
  refine lv_aload_n zx zb dX6_init_48 rfl (lv_at hl 0 rfl) ?_
  refine nwC (T := TX3) (ci := 2) (fs := [.int (iI 0), .int (iI 0), .null, .null, .null, .null, .null]) C0 hH rfl inG3 tyX3 tyX3_ok (gm 132 (by decide +kernel) rfl) (gm 133 (by decide +kernel) rfl) (gm 23 (by decide +kernel) rfl) (fun j hj => by rcases (show j = 0 ∨ j = 1 ∨ j = 2 ∨ j = 3 ∨ j = 4 ∨ j = 5 ∨ j = 6 by omega) with rfl | rfl | rfl | rfl | rfl | rfl | rfl <;> rfl) (Nat.le_of_ble_eq_true rfl) (Nat.le_of_ble_eq_true rfl) dX6_init_49 (fun q4 H hH => ?_)
  have hH : Hc g A0 (wr ++ (h0, .inr (5, [.ref q0, .ref q1, .ref q2, .ref q3, .null])) :: [(q0, .inr (1, [.int (iI 0), .ref q0a, .ref q0b])), (q0a, .inl (g.2.2.1, 24, .inl (fun _ : Nat => iI 0))), (q0b, .inl (g.2.2.1, 24, .inl (fun _ : Nat => iI 0))), (q1, .inr (4, [.int (iI 0), .ref q1a, .ref q1b, .ref q1c])), (q1a, .inl (g.2.2.1, 8, .inl (fun _ : Nat => iI 0))), (q1b, .inl (g.2.2.1, 80, .inl (fun _ : Nat => iI 0))), (q1c, .inl (g.2.2.1, 80, .inl (fun _ : Nat => iI 0))), (q2, .inr (0, [.ref q2a, .ref q2b, .ref q2c])), (q2a, .inl (g.2.2.1, 48, .inl (flF 48 (-1) (fun _ : Nat => iI 0)))), (q2b, .inl (g.2.2.1, 80, .inl (fun _ : Nat => iI 0))), (q2c, .inl (g.2.2.1, 8, .inl (flF 8 (-1) (fun _ : Nat => iI 0)))), (q3, .inr (3, [.int (iI 0), .ref q3a, .ref q3b, .ref q3c, .ref q3d])), (q3a, .inl (g.2.2.1, 12, .inl (fun _ : Nat => iI 0))), (q3b, .inl (g.2.2.1, 12, .inl (fun _ : Nat => iI 0))), (q3c, .inl (g.2.2.1, 12, .inl (fun _ : Nat => iI 0))), (q3d, .inl (g.2.2.1, 12, .inl (fun _ : Nat => iI 0))), (q4, .inr (2, [.int (iI 0), .int (iI 0), .null, .null, .null, .null, .null]))]) s H locs := by rw [List.append_assoc] at hH; exact hH
  refine lv_dup zx zb dX6_init_52 rfl ?_
  refine ccN (host := "SkyLoom") (rest := [.ref q4, .ref h0]) C0 (ws := (wr ++ (h0, .inr (5, [.ref q0, .ref q1, .ref q2, .ref q3, .null])) :: [(q0, .inr (1, [.int (iI 0), .ref q0a, .ref q0b])), (q0a, .inl (g.2.2.1, 24, .inl (fun _ : Nat => iI 0))), (q0b, .inl (g.2.2.1, 24, .inl (fun _ : Nat => iI 0))), (q1, .inr (4, [.int (iI 0), .ref q1a, .ref q1b, .ref q1c])), (q1a, .inl (g.2.2.1, 8, .inl (fun _ : Nat => iI 0))), (q1b, .inl (g.2.2.1, 80, .inl (fun _ : Nat => iI 0))), (q1c, .inl (g.2.2.1, 80, .inl (fun _ : Nat => iI 0))), (q2, .inr (0, [.ref q2a, .ref q2b, .ref q2c])), (q2a, .inl (g.2.2.1, 48, .inl (flF 48 (-1) (fun _ : Nat => iI 0)))), (q2b, .inl (g.2.2.1, 80, .inl (fun _ : Nat => iI 0))), (q2c, .inl (g.2.2.1, 8, .inl (flF 8 (-1) (fun _ : Nat => iI 0)))), (q3, .inr (3, [.int (iI 0), .ref q3a, .ref q3b, .ref q3c, .ref q3d])), (q3a, .inl (g.2.2.1, 12, .inl (fun _ : Nat => iI 0))), (q3b, .inl (g.2.2.1, 12, .inl (fun _ : Nat => iI 0))), (q3c, .inl (g.2.2.1, 12, .inl (fun _ : Nat => iI 0))), (q3d, .inl (g.2.2.1, 12, .inl (fun _ : Nat => iI 0)))]) ++ [(q4, .inr (2, [.int (iI 0), .int (iI 0), .null, .null, .null, .null, .null]))]) (by rw [List.append_assoc]; exact hH) (cc_X3_init l g q4 A0 (wr ++ (h0, .inr (5, [.ref q0, .ref q1, .ref q2, .ref q3, .null])) :: [(q0, .inr (1, [.int (iI 0), .ref q0a, .ref q0b])), (q0a, .inl (g.2.2.1, 24, .inl (fun _ : Nat => iI 0))), (q0b, .inl (g.2.2.1, 24, .inl (fun _ : Nat => iI 0))), (q1, .inr (4, [.int (iI 0), .ref q1a, .ref q1b, .ref q1c])), (q1a, .inl (g.2.2.1, 8, .inl (fun _ : Nat => iI 0))), (q1b, .inl (g.2.2.1, 80, .inl (fun _ : Nat => iI 0))), (q1c, .inl (g.2.2.1, 80, .inl (fun _ : Nat => iI 0))), (q2, .inr (0, [.ref q2a, .ref q2b, .ref q2c])), (q2a, .inl (g.2.2.1, 48, .inl (flF 48 (-1) (fun _ : Nat => iI 0)))), (q2b, .inl (g.2.2.1, 80, .inl (fun _ : Nat => iI 0))), (q2c, .inl (g.2.2.1, 8, .inl (flF 8 (-1) (fun _ : Nat => iI 0)))), (q3, .inr (3, [.int (iI 0), .ref q3a, .ref q3b, .ref q3c, .ref q3d])), (q3a, .inl (g.2.2.1, 12, .inl (fun _ : Nat => iI 0))), (q3b, .inl (g.2.2.1, 12, .inl (fun _ : Nat => iI 0))), (q3c, .inl (g.2.2.1, 12, .inl (fun _ : Nat => iI 0))), (q3d, .inl (g.2.2.1, 12, .inl (fun _ : Nat => iI 0)))])) (nmm 134 (by decide +kernel) rfl) ⟨gm 135 (by decide +kernel) rfl, gm 136 (by decide +kernel) rfl, gm 23 (by decide +kernel) rfl⟩ ky_X3_init rfl ⟨Nat.le_of_ble_eq_true rfl, Nat.le_of_ble_eq_true rfl⟩ ⟨Nat.le_of_ble_eq_true rfl, Nat.le_of_ble_eq_true rfl⟩ hl.1 (Nat.le_of_ble_eq_true rfl) dX6_init_53 (fun w H locs hB hH => ?_)
  obtain ⟨q4a, q4b, q4c, q4d, q4e, rfl⟩ := hB
  have hH : Hc g A0 (wr ++ (h0, .inr (5, [.ref q0, .ref q1, .ref q2, .ref q3, .null])) :: [(q0, .inr (1, [.int (iI 0), .ref q0a, .ref q0b])), (q0a, .inl (g.2.2.1, 24, .inl (fun _ : Nat => iI 0))), (q0b, .inl (g.2.2.1, 24, .inl (fun _ : Nat => iI 0))), (q1, .inr (4, [.int (iI 0), .ref q1a, .ref q1b, .ref q1c])), (q1a, .inl (g.2.2.1, 8, .inl (fun _ : Nat => iI 0))), (q1b, .inl (g.2.2.1, 80, .inl (fun _ : Nat => iI 0))), (q1c, .inl (g.2.2.1, 80, .inl (fun _ : Nat => iI 0))), (q2, .inr (0, [.ref q2a, .ref q2b, .ref q2c])), (q2a, .inl (g.2.2.1, 48, .inl (flF 48 (-1) (fun _ : Nat => iI 0)))), (q2b, .inl (g.2.2.1, 80, .inl (fun _ : Nat => iI 0))), (q2c, .inl (g.2.2.1, 8, .inl (flF 8 (-1) (fun _ : Nat => iI 0)))), (q3, .inr (3, [.int (iI 0), .ref q3a, .ref q3b, .ref q3c, .ref q3d])), (q3a, .inl (g.2.2.1, 12, .inl (fun _ : Nat => iI 0))), (q3b, .inl (g.2.2.1, 12, .inl (fun _ : Nat => iI 0))), (q3c, .inl (g.2.2.1, 12, .inl (fun _ : Nat => iI 0))), (q3d, .inl (g.2.2.1, 12, .inl (fun _ : Nat => iI 0))), (q4, .inr (2, [.int (iI 0), .int (iI 0), .ref q4a, .ref q4b, .ref q4c, .ref q4d, .ref q4e])), (q4a, .inl (g.2.2.1, 30, .inl (fun _ : Nat => iI 0))), (q4b, .inl (g.2.2.1, 30, .inl (fun _ : Nat => iI 0))), (q4c, .inl (g.2.2.1, 30, .inl (fun _ : Nat => iI 0))), (q4d, .inl (g.2.2.1, 30, .inl (fun _ : Nat => iI 0))), (q4e, .inl (g.2.2.1, 30, .inl (fun _ : Nat => iI 0)))]) s H locs := by rw [List.append_assoc] at hH; exact hH
  refine pfC (C := RX6) (T := TX6) (N := 5) (ty := .object "SkyLoom$History") (v := .ref q4) C0 hin hH rfl inG6 tyX6 tyX6_ok nmX6 4 (by decide) (gm 171 (by decide +kernel) rfl) rfl rfl (by decide +kernel) rfl rfl (Nat.le_of_ble_eq_true rfl) dX6_init_56 (fun H locs hH => ?_)
  have hH : Hc g A0 (wr ++ (h0, .inr (5, [.ref q0, .ref q1, .ref q2, .ref q3, .ref q4])) :: [(q0, .inr (1, [.int (iI 0), .ref q0a, .ref q0b])), (q0a, .inl (g.2.2.1, 24, .inl (fun _ : Nat => iI 0))), (q0b, .inl (g.2.2.1, 24, .inl (fun _ : Nat => iI 0))), (q1, .inr (4, [.int (iI 0), .ref q1a, .ref q1b, .ref q1c])), (q1a, .inl (g.2.2.1, 8, .inl (fun _ : Nat => iI 0))), (q1b, .inl (g.2.2.1, 80, .inl (fun _ : Nat => iI 0))), (q1c, .inl (g.2.2.1, 80, .inl (fun _ : Nat => iI 0))), (q2, .inr (0, [.ref q2a, .ref q2b, .ref q2c])), (q2a, .inl (g.2.2.1, 48, .inl (flF 48 (-1) (fun _ : Nat => iI 0)))), (q2b, .inl (g.2.2.1, 80, .inl (fun _ : Nat => iI 0))), (q2c, .inl (g.2.2.1, 8, .inl (flF 8 (-1) (fun _ : Nat => iI 0)))), (q3, .inr (3, [.int (iI 0), .ref q3a, .ref q3b, .ref q3c, .ref q3d])), (q3a, .inl (g.2.2.1, 12, .inl (fun _ : Nat => iI 0))), (q3b, .inl (g.2.2.1, 12, .inl (fun _ : Nat => iI 0))), (q3c, .inl (g.2.2.1, 12, .inl (fun _ : Nat => iI 0))), (q3d, .inl (g.2.2.1, 12, .inl (fun _ : Nat => iI 0))), (q4, .inr (2, [.int (iI 0), .int (iI 0), .ref q4a, .ref q4b, .ref q4c, .ref q4d, .ref q4e])), (q4a, .inl (g.2.2.1, 30, .inl (fun _ : Nat => iI 0))), (q4b, .inl (g.2.2.1, 30, .inl (fun _ : Nat => iI 0))), (q4c, .inl (g.2.2.1, 30, .inl (fun _ : Nat => iI 0))), (q4d, .inl (g.2.2.1, 30, .inl (fun _ : Nat => iI 0))), (q4e, .inl (g.2.2.1, 30, .inl (fun _ : Nat => iI 0)))]) s H locs := hH
  exact W.widen (k := 22) (n := 572) (Nat.le_of_ble_eq_true rfl) (Nat.le_of_ble_eq_true rfl) (rtC C0 hret hlk hH ⟨q0, q0a, q0b, q1, q1a, q1b, q1c, q2, q2a, q2b, q2c, q3, q3a, q3b, q3c, q3d, q4, q4a, q4b, q4c, q4d, q4e, rfl⟩ dX6_init_59)
