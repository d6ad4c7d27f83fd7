/-! THE CLAIM OUT OF ONE WALK OF THE LAW'S BODY. Your part is whole_start (and what it stands on); all else here is the same for every law, but numbers. -/
def R_law : String := "SkyLoomLaw"
def lw_P (b : Addr) (xs : List Int32) (args : Array Value) (s : State) : Prop := args = #[.ref b] ∧ s.IntsAt b xs ∧ xs.length ≤ 2560 ∧ (Jvm.Cond.and given_1 narrow_1).before args s = true
def lw_Q (_ : Array Value) (s : State) (o : Outcome) (t : State) : Prop := o = .returned (some (.int 1)) ∧ Framed s o t [] 1079 9392
def lw_Z (below : List Frame) (a : Array Value) (s : State) : State → Prop := fun t => ∃ o, t.status = .running ∧ Ended t below o ∧ lw_Q a s o t
/-- the law's own end, with 1 on the stack, nothing written that was there before, its room as the claim has it -/
theorem lw_ret {p : Program} {l : Launch} {e : Env} {s : State} {m : MethodId} {below : List Frame} {meth : Method} {c : Code} {b : Nat} (hx : p.tables.exec = Jvm.exec) (hb : c.code = code) (hr : meth.sig.returnType = ret) (hlocks : meth.locks = false) {pc : Nat} {H : Heap} {ls : Array Slot} (hdg : decode code pc = .ok (.ireturn, 1)) : W p l e room_1 s m #[Value.ref b] below meth c H [] 1079 9392 (lw_Z below #[Value.ref b] s) (F0 m pc ls [.int 1]) := by
  intro T hT X
  obtain ⟨fs, hret, hrun, hended, hW, hframe⟩ := X.leave (v := some (.int 1)) (hlocks := hlocks) (fun h => by rw [hr] at h; cases h)
  have hmeth' : T.vm.method? m = some meth := X.method'
  refine ⟨T.setFrames fs, ?_, .returned (some (.int 1)), hrun, hended, rfl, ⟨_, rfl⟩, hW, hframe⟩
  jvm_step X.here [X.here.top, hx, hb, hdg, hmeth', hr, ret, narrow_b1]
  (try refine ⟨rfl, ?_⟩); (try refine ⟨rfl, ?_⟩)
  first | (intro acts; rw [hret _ acts rfl rfl rfl]) | rw [hret _ _ rfl rfl rfl]
  exact Steps.refl _
/-- what holds at the law's entry: the machine, the code, the tables' words (any of lw_tbl by 'hts w (by decide +kernel)'), the script of L ints xs at the cell b, what the Statement gives of the start (any of its parts by flat_of_before) -/
def lw_At (p : Program) (s : State) (m : MethodId) (meth : Method) (c : Code) (b L : Nat) (xs : Nat → Int32) : Prop :=
  p.tables.exec = Jvm.exec ∧ c.code = code ∧ meth.sig.returnType = ret ∧ c.maxLocals = 7 ∧ s.vm.findClass R_law = some m.cls ∧ (∀ w ∈ lw_tbl, w.before #[Value.ref b] s = true) ∧ va_X b L xs s s.heap ∧ b < s.heap.size ∧ meth.locks = false ∧ (Jvm.Cond.and given_1 narrow_1).before #[Value.ref b] s = true
set_option maxRecDepth 100000 in
set_option maxHeartbeats 8000000 in
theorem whole_start {p : Program} {e : Env} {s : State} {m : MethodId} {below : List Frame} {meth : Method} {c : Code} (l : Launch) (hflags : l.flags = flags0) {b L : Nat} {xs : Nat → Int32} (hL : L ≤ 2560) (C0 : lw_At p s m meth c b L xs) : W p l e room_1 s m #[Value.ref b] below meth c s.heap [] 0 0 (lw_Z below #[Value.ref b] s) (entryFrame m ([Value.ref b] : List Value).toArray 7) := by
  obtain ⟨zx, zb, hr, hml, hown, hts, hX, hbl, hlk, hgv⟩ := C0
  have hfl : l.stackTraces = false := by unfold Launch.stackTraces; rw [hflags]; decide +kernel
  have hfq := flat_of_before _ hgv
  have hG : ∀ w ∈ GL, w.before #[Value.ref b] s = true := fun w hw => hts w (List.mem_filter.mp hw).1
  obtain ⟨cc1, ii1, kn1⟩ := u_known (C := RX1) (T := TX1) (N := 3) hG inG1 (hG (.instantiable RX1 3) (gm 107 (by decide +kernel) rfl))
  obtain ⟨cc2, ii2, kn2⟩ := u_known (C := RX2) (T := TX2) (N := 3) hG inG2 (hG (.instantiable RX2 3) (gm 64 (by decide +kernel) rfl))
  obtain ⟨cc3, ii3, kn3⟩ := u_known (C := RX3) (T := TX3) (N := 7) hG inG3 (hG (.instantiable RX3 7) (gm 155 (by decide +kernel) rfl))
  obtain ⟨cc4, ii4, kn4⟩ := u_known (C := RX4) (T := TX4) (N := 5) hG inG4 (hG (.instantiable RX4 5) (gm 128 (by decide +kernel) rfl))
  obtain ⟨cc5, ii5, kn5⟩ := u_known (C := RX5) (T := TX5) (N := 4) hG inG5 (hG (.instantiable RX5 4) (gm 84 (by decide +kernel) rfl))
  obtain ⟨cc6, ii6, kn6⟩ := u_known (C := RX6) (T := TX6) (N := 5) hG inG6 (hG (.instantiable RX6 5) (gm 56 (by decide +kernel) rfl))
  obtain ⟨cc7, ii7, kn7⟩ := u_known (C := RX7) (T := TX7) (N := 14) hG inG7 (hG (.instantiable RX7 14) (gm 655 (by decide +kernel) rfl))
  obtain ⟨cI, kI, pI, hI1, hI2, hI3⟩ := Cond.arrayClass_spec (type := .int) (hG (.arrayClass .int) (gm 82 (by decide +kernel) rfl))
  obtain ⟨cL, kL, pL, hL1, hL2, hL3⟩ := Cond.arrayClass_spec (type := .long) (hG (.arrayClass .long) (gm 909 (by decide +kernel) rfl))
  obtain ⟨D, hD⟩ : ∃ D : va_G, D = (fun k => [cc1, cc2, cc3, cc4, cc5, cc6, cc7].getD k cc1, fun k => [ii1, ii2, ii3, ii4, ii5, ii6, ii7].getD k ii1) := ⟨_, rfl⟩
  have hK : va_K D vwCl [(cI, .int), (cL, .long)] s := by
    subst hD
    refine ⟨fun k q hq => ?_, fun k q hq => ?_⟩
    · rcases (show k = 0 ∨ k = 1 ∨ k = 2 ∨ k = 3 ∨ k = 4 ∨ k = 5 ∨ k = 6 ∨ 7 ≤ k by omega) with rfl | rfl | rfl | rfl | rfl | rfl | rfl | h7
      · cases hq; exact kn1
      · cases hq; exact kn2
      · cases hq; exact kn3
      · cases hq; exact kn4
      · cases hq; exact kn5
      · cases hq; exact kn6
      · cases hq; exact kn7
      · rw [List.getElem?_eq_none (by exact h7)] at hq; cases hq
    · rcases (show k = 0 ∨ k = 1 ∨ 2 ≤ k by omega) with rfl | rfl | h7
      · cases hq; exact ⟨fun n z => ⟨fun k h => (by cases h), kI, hI2, pI, hI3⟩, hI1⟩
      · cases hq; exact ⟨fun n z => ⟨fun k h => (by cases h), kL, hL2, pL, hL3⟩, hL1⟩
      · rw [List.getElem?_eq_none (by exact h7)] at hq; cases hq
  have hNW : ∀ w ∈ NL, va_Nw w s := fun w hw => va_Nw.of (nest_on (List.mem_filter.mp hw).2) (hts w (List.mem_filter.mp hw).1)
  have hGW : ∀ w ∈ GL, w.before #[] s = true := fun w hw => word_at (State.WarmedH.refl s) (good_of_word (List.mem_filter.mp hw).2) (hG w hw)
  obtain ⟨g0, hg0⟩ : ∃ g0 : gT, g0 = (fun _ => 0, D, cI, cL, saF s) := ⟨_, rfl⟩
  have hP0 : GP g0 s := by rw [hg0]; exact ⟨hGW, hNW, hK⟩
  have Cc0 : Cc p s m c g0 RL cL_law 7 := ⟨zx, zb, hml, hown, hP0⟩
  have hH : Hc g0 (fun q => s.heap.size ≤ q) [] s s.heap [] := ⟨fun k q hk => by simp at hk, ⟨fun i j p q hi => by simp at hi, fun k q hk => by simp at hk⟩, va_S.rf, fun q h => h⟩
  have hl := lv_entry ([Value.ref b]) (n := 7) (Nat.le_of_ble_eq_true rfl)
  rw [lg_entry_eq]
  generalize (lg_sl ([Value.ref b]) ++ List.replicate (7 - (lg_sl ([Value.ref b])).length) Slot.unset).toArray = ls at hl ⊢
  have hl : lv_has ls 7 [(0, .ref b)] := hl
  obtain ⟨H, hHe⟩ : ∃ H : Heap, H = s.heap := ⟨_, rfl⟩
  obtain ⟨locs, hle⟩ : ∃ locs : List Loc, locs = [] := ⟨_, rfl⟩
  have hH : Hc g0 (fun q => s.heap.size ≤ q) [] s H locs := by rw [hHe, hle]; exact hH
  rw [← hHe, ← hle]
  refine nwC (T := TX6) (ci := 5) (fs := [.null, .null, .null, .null, .null]) Cc0 hH rfl inG6 tyX6 tyX6_ok (gm 55 (by decide +kernel) rfl) (gm 56 (by decide +kernel) rfl) (gm 38 (by decide +kernel) rfl) (fun j hj => by rcases (show j = 0 ∨ j = 1 ∨ j = 2 ∨ j = 3 ∨ j = 4 by omega) with rfl | rfl | rfl | rfl | rfl <;> rfl) (Nat.le_of_ble_eq_true rfl) (Nat.le_of_ble_eq_true rfl) dL_law_0 (fun h0 H hH => ?_)
  refine lv_dup zx zb dL_law_3 rfl ?_
  refine ccC (rest := [.ref h0]) Cc0 (ws := [] ++ [(h0, .inr (5, [.null, .null, .null, .null, .null]))]) hH (cc_X6_init l g0 h0 (fun q => s.heap.size ≤ q) []) (Cc0.2.2.2.2.w (gm 57 (by decide +kernel) rfl)) ⟨(gm 58 (by decide +kernel) rfl), (gm 59 (by decide +kernel) rfl), (gm 38 (by decide +kernel) rfl)⟩ ky_X6_init rfl ⟨(Nat.le_of_ble_eq_true rfl), (Nat.le_of_ble_eq_true rfl)⟩ ⟨(Nat.le_of_ble_eq_true rfl), (Nat.le_of_ble_eq_true rfl)⟩ hl.1 (Nat.le_of_ble_eq_true rfl) dL_law_4 (fun w H locs hB hH => ?_)
  obtain ⟨z0, z1, z2, z3, z4, z5, z6, z7, z8, z9, z10, z11, z12, z13, z14, z15, z16, z17, z18, z19, z20, z21, rfl⟩ := hB
  refine lv_astore_n zx zb dL_law_7 rfl hl (by decide) rfl (fun ls hl => ?_)
  refine nwC (T := TX7) (ci := 6) (fs := [.int (iI 0), .null, .null, .int (iI 0), .null, .null, .null, .int (iI 0), .null, .null, .null, .int (iI 0), .null, .int (iI 0)]) Cc0 hH rfl inG7 tyX7 tyX7_ok (gm 654 (by decide +kernel) rfl) (gm 655 (by decide +kernel) rfl) (gm 45 (by decide +kernel) rfl) (fun j hj => by rcases (show j = 0 ∨ j = 1 ∨ j = 2 ∨ j = 3 ∨ j = 4 ∨ j = 5 ∨ j = 6 ∨ j = 7 ∨ j = 8 ∨ j = 9 ∨ j = 10 ∨ j = 11 ∨ j = 12 ∨ j = 13 by omega) with rfl | rfl | rfl | rfl | rfl | rfl | rfl | rfl | rfl | rfl | rfl | rfl | rfl | rfl <;> rfl) (Nat.le_of_ble_eq_true rfl) (Nat.le_of_ble_eq_true rfl) dL_law_8 (fun m0 H hH => ?_)
  have hH : Hc g0 (fun q => s.heap.size ≤ q) ([(h0, .inr (5, [.ref z0, .ref z3, .ref z7, .ref z11, .ref z16])), (z0, .inr (1, [.int (iI 0), .ref z1, .ref z2])), (z1, .inl (g0.2.2.1, 24, .inl (fun _ : Nat => iI 0))), (z2, .inl (g0.2.2.1, 24, .inl (fun _ : Nat => iI 0))), (z3, .inr (4, [.int (iI 0), .ref z4, .ref z5, .ref z6])), (z4, .inl (g0.2.2.1, 8, .inl (fun _ : Nat => iI 0))), (z5, .inl (g0.2.2.1, 80, .inl (fun _ : Nat => iI 0))), (z6, .inl (g0.2.2.1, 80, .inl (fun _ : Nat => iI 0))), (z7, .inr (0, [.ref z8, .ref z9, .ref z10])), (z8, .inl (g0.2.2.1, 48, .inl (flF 48 (-1) (fun _ : Nat => iI 0)))), (z9, .inl (g0.2.2.1, 80, .inl (fun _ : Nat => iI 0))), (z10, .inl (g0.2.2.1, 8, .inl (flF 8 (-1) (fun _ : Nat => iI 0)))), (z11, .inr (3, [.int (iI 0), .ref z12, .ref z13, .ref z14, .ref z15])), (z12, .inl (g0.2.2.1, 12, .inl (fun _ : Nat => iI 0))), (z13, .inl (g0.2.2.1, 12, .inl (fun _ : Nat => iI 0))), (z14, .inl (g0.2.2.1, 12, .inl (fun _ : Nat => iI 0))), (z15, .inl (g0.2.2.1, 12, .inl (fun _ : Nat => iI 0))), (z16, .inr (2, [.int (iI 0), .int (iI 0), .ref z17, .ref z18, .ref z19, .ref z20, .ref z21])), (z17, .inl (g0.2.2.1, 30, .inl (fun _ : Nat => iI 0))), (z18, .inl (g0.2.2.1, 30, .inl (fun _ : Nat => iI 0))), (z19, .inl (g0.2.2.1, 30, .inl (fun _ : Nat => iI 0))), (z20, .inl (g0.2.2.1, 30, .inl (fun _ : Nat => iI 0))), (z21, .inl (g0.2.2.1, 30, .inl (fun _ : Nat => iI 0)))] ++ [(m0, .inr (6, [.int (iI 0), .null, .null, .int (iI 0), .null, .null, .null, .int (iI 0), .null, .null, .null, .int (iI 0), .null, .int (iI 0)]))]) s H locs := hH
  refine lv_dup zx zb dL_law_11 rfl ?_
  refine ccC (rest := [.ref m0]) Cc0 (ws := [(h0, .inr (5, [.ref z0, .ref z3, .ref z7, .ref z11, .ref z16])), (z0, .inr (1, [.int (iI 0), .ref z1, .ref z2])), (z1, .inl (g0.2.2.1, 24, .inl (fun _ : Nat => iI 0))), (z2, .inl (g0.2.2.1, 24, .inl (fun _ : Nat => iI 0))), (z3, .inr (4, [.int (iI 0), .ref z4, .ref z5, .ref z6])), (z4, .inl (g0.2.2.1, 8, .inl (fun _ : Nat => iI 0))), (z5, .inl (g0.2.2.1, 80, .inl (fun _ : Nat => iI 0))), (z6, .inl (g0.2.2.1, 80, .inl (fun _ : Nat => iI 0))), (z7, .inr (0, [.ref z8, .ref z9, .ref z10])), (z8, .inl (g0.2.2.1, 48, .inl (flF 48 (-1) (fun _ : Nat => iI 0)))), (z9, .inl (g0.2.2.1, 80, .inl (fun _ : Nat => iI 0))), (z10, .inl (g0.2.2.1, 8, .inl (flF 8 (-1) (fun _ : Nat => iI 0)))), (z11, .inr (3, [.int (iI 0), .ref z12, .ref z13, .ref z14, .ref z15])), (z12, .inl (g0.2.2.1, 12, .inl (fun _ : Nat => iI 0))), (z13, .inl (g0.2.2.1, 12, .inl (fun _ : Nat => iI 0))), (z14, .inl (g0.2.2.1, 12, .inl (fun _ : Nat => iI 0))), (z15, .inl (g0.2.2.1, 12, .inl (fun _ : Nat => iI 0))), (z16, .inr (2, [.int (iI 0), .int (iI 0), .ref z17, .ref z18, .ref z19, .ref z20, .ref z21])), (z17, .inl (g0.2.2.1, 30, .inl (fun _ : Nat => iI 0))), (z18, .inl (g0.2.2.1, 30, .inl (fun _ : Nat => iI 0))), (z19, .inl (g0.2.2.1, 30, .inl (fun _ : Nat => iI 0))), (z20, .inl (g0.2.2.1, 30, .inl (fun _ : Nat => iI 0))), (z21, .inl (g0.2.2.1, 30, .inl (fun _ : Nat => iI 0)))] ++ [(m0, .inr (6, [.int (iI 0), .null, .null, .int (iI 0), .null, .null, .null, .int (iI 0), .null, .null, .null, .int (iI 0), .null, .int (iI 0)]))]) hH (cc_X7_init l g0 m0 (fun q => s.heap.size ≤ q) [(h0, .inr (5, [.ref z0, .ref z3, .ref z7, .ref z11, .ref z16])), (z0, .inr (1, [.int (iI 0), .ref z1, .ref z2])), (z1, .inl (g0.2.2.1, 24, .inl (fun _ : Nat => iI 0))), (z2, .inl (g0.2.2.1, 24, .inl (fun _ : Nat => iI 0))), (z3, .inr (4, [.int (iI 0), .ref z4, .ref z5, .ref z6])), (z4, .inl (g0.2.2.1, 8, .inl (fun _ : Nat => iI 0))), (z5, .inl (g0.2.2.1, 80, .inl (fun _ : Nat => iI 0))), (z6, .inl (g0.2.2.1, 80, .inl (fun _ : Nat => iI 0))), (z7, .inr (0, [.ref z8, .ref z9, .ref z10])), (z8, .inl (g0.2.2.1, 48, .inl (flF 48 (-1) (fun _ : Nat => iI 0)))), (z9, .inl (g0.2.2.1, 80, .inl (fun _ : Nat => iI 0))), (z10, .inl (g0.2.2.1, 8, .inl (flF 8 (-1) (fun _ : Nat => iI 0)))), (z11, .inr (3, [.int (iI 0), .ref z12, .ref z13, .ref z14, .ref z15])), (z12, .inl (g0.2.2.1, 12, .inl (fun _ : Nat => iI 0))), (z13, .inl (g0.2.2.1, 12, .inl (fun _ : Nat => iI 0))), (z14, .inl (g0.2.2.1, 12, .inl (fun _ : Nat => iI 0))), (z15, .inl (g0.2.2.1, 12, .inl (fun _ : Nat => iI 0))), (z16, .inr (2, [.int (iI 0), .int (iI 0), .ref z17, .ref z18, .ref z19, .ref z20, .ref z21])), (z17, .inl (g0.2.2.1, 30, .inl (fun _ : Nat => iI 0))), (z18, .inl (g0.2.2.1, 30, .inl (fun _ : Nat => iI 0))), (z19, .inl (g0.2.2.1, 30, .inl (fun _ : Nat => iI 0))), (z20, .inl (g0.2.2.1, 30, .inl (fun _ : Nat => iI 0))), (z21, .inl (g0.2.2.1, 30, .inl (fun _ : Nat => iI 0)))]) (Cc0.2.2.2.2.w (gm 656 (by decide +kernel) rfl)) ⟨(gm 657 (by decide +kernel) rfl), (gm 658 (by decide +kernel) rfl), (gm 45 (by decide +kernel) rfl)⟩ ky_X7_init rfl ⟨(Nat.le_of_ble_eq_true rfl), (Nat.le_of_ble_eq_true rfl)⟩ ⟨(Nat.le_of_ble_eq_true rfl), (Nat.le_of_ble_eq_true rfl)⟩ hl.1 (Nat.le_of_ble_eq_true rfl) dL_law_12 (fun w H locs hB hH => ?_)
  obtain ⟨y0, y1, y2, y3, y4, y5, y6, y7, y8, rfl⟩ := hB
  have hH : Hc g0 (fun q => s.heap.size ≤ q) [(h0, .inr (5, [.ref z0, .ref z3, .ref z7, .ref z11, .ref z16])), (z0, .inr (1, [.int (iI 0), .ref z1, .ref z2])), (z1, .inl (g0.2.2.1, 24, .inl (fun _ : Nat => iI 0))), (z2, .inl (g0.2.2.1, 24, .inl (fun _ : Nat => iI 0))), (z3, .inr (4, [.int (iI 0), .ref z4, .ref z5, .ref z6])), (z4, .inl (g0.2.2.1, 8, .inl (fun _ : Nat => iI 0))), (z5, .inl (g0.2.2.1, 80, .inl (fun _ : Nat => iI 0))), (z6, .inl (g0.2.2.1, 80, .inl (fun _ : Nat => iI 0))), (z7, .inr (0, [.ref z8, .ref z9, .ref z10])), (z8, .inl (g0.2.2.1, 48, .inl (flF 48 (-1) (fun _ : Nat => iI 0)))), (z9, .inl (g0.2.2.1, 80, .inl (fun _ : Nat => iI 0))), (z10, .inl (g0.2.2.1, 8, .inl (flF 8 (-1) (fun _ : Nat => iI 0)))), (z11, .inr (3, [.int (iI 0), .ref z12, .ref z13, .ref z14, .ref z15])), (z12, .inl (g0.2.2.1, 12, .inl (fun _ : Nat => iI 0))), (z13, .inl (g0.2.2.1, 12, .inl (fun _ : Nat => iI 0))), (z14, .inl (g0.2.2.1, 12, .inl (fun _ : Nat => iI 0))), (z15, .inl (g0.2.2.1, 12, .inl (fun _ : Nat => iI 0))), (z16, .inr (2, [.int (iI 0), .int (iI 0), .ref z17, .ref z18, .ref z19, .ref z20, .ref z21])), (z17, .inl (g0.2.2.1, 30, .inl (fun _ : Nat => iI 0))), (z18, .inl (g0.2.2.1, 30, .inl (fun _ : Nat => iI 0))), (z19, .inl (g0.2.2.1, 30, .inl (fun _ : Nat => iI 0))), (z20, .inl (g0.2.2.1, 30, .inl (fun _ : Nat => iI 0))), (z21, .inl (g0.2.2.1, 30, .inl (fun _ : Nat => iI 0))), (m0, .inr (6, [.int (iI 0), .ref y0, .ref y1, .int (iI 0), .ref y2, .ref y3, .ref y4, .int (iI 0), .ref y5, .ref y6, .ref y7, .int (iI 0), .ref y8, .int (iI 0)])), (y0, .inl (g0.2.2.1, 24, .inl (fun _ : Nat => iI 0))), (y1, .inl (g0.2.2.1, 24, .inl (fun _ : Nat => iI 0))), (y2, .inl (g0.2.2.1, 80, .inl (fun _ : Nat => iI 0))), (y3, .inl (g0.2.2.1, 80, .inl (fun _ : Nat => iI 0))), (y4, .inl (g0.2.2.1, 8, .inl (fun _ : Nat => iI 0))), (y5, .inl (g0.2.2.1, 48, .inl (fun _ : Nat => iI 0))), (y6, .inl (g0.2.2.1, 8, .inl (fun _ : Nat => iI 0))), (y7, .inl (g0.2.2.1, 60, .inl (fun _ : Nat => iI 0))), (y8, .inl (g0.2.2.1, 150, .inl (fun _ : Nat => iI 0)))] s H locs := hH
  refine lv_astore_n zx zb dL_law_15 rfl hl (by decide) rfl (fun ls hl => ?_)
  refine bi_const (n := 1) zx zb dL_law_16 ?_
  refine nlC Cc0 hH (Nat.le_of_ble_eq_true rfl) (Nat.le_of_ble_eq_true rfl) dL_law_17 (fun o0 H hH => ?_)
  refine lv_astore_n zx zb dL_law_19 rfl hl (by decide) rfl (fun ls hl => ?_)
  refine bi_const (n := 0) zx zb dL_law_20 ?_
  refine lv_istore zx zb dL_law_21 hl (by decide) rfl (fun ls hl => ?_)
  refine va_forget (fun q hq => hH.2.2.1.2.2 q hq) ?_
  have e9 : flF 48 (-1) (fun _ : Nat => iI 0) = fun j : Nat => iI (S0 9 j) := funext (fun j => by
    unfold flF S0
    by_cases h : (j : Int) < 48
    · rw [if_pos h, if_pos (Or.inl ⟨rfl, by omega, h⟩)]
    · rw [if_neg h, if_neg (fun q => by omega)])
  have e11 : flF 8 (-1) (fun _ : Nat => iI 0) = fun j : Nat => iI (S0 11 j) := funext (fun j => by
    unfold flF S0
    by_cases h : (j : Int) < 8
    · rw [if_pos h, if_pos (Or.inr ⟨rfl, by omega, h⟩)]
    · rw [if_neg h, if_neg (fun q => by omega)])
  rw [e9, e11] at hH
  subst hg0
  obtain ⟨g, hg⟩ : ∃ g : gT, g = (fun k => [h0, z0, z1, z2, z3, z4, z5, z6, z7, z8, z9, z10, z11, z12, z13, z14, z15, z16, z17, z18, z19, z20, z21, m0, y0, y1, y2, y3, y4, y5, y6, y7, y8, o0].getD k 0, D, cI, cL, saF s) := ⟨_, rfl⟩
  have hH : Hc g (fun q => s.heap.size ≤ q) (Wl g S0) s H locs := by subst hg; exact hH
  have hd1 : ∀ k : Nat, k < 34 → ∃ q, (Wl g S0)[k]? = some q ∧ q.1 = g.1 k := fun k hk => ⟨(Wl g S0)[k]'hk, List.getElem?_eq_getElem hk, (Wl_at (List.getElem?_eq_getElem hk)).2⟩
  have hinj : ∀ i j : Nat, i < 34 → j < 34 → g.1 i = g.1 j → i = j := fun i j hi hj he => by
    obtain ⟨q1, h1, h2⟩ := hd1 i hi
    obtain ⟨q2, h3, h4⟩ := hd1 j hj
    exact hH.2.1.1 i j q1 q2 h1 h3 (by rw [h2, h4]; exact he)
  have hold : ∀ q : Nat, oA g q → s.heap.size ≤ q := fun q hq => by
    obtain ⟨k, hk, rfl⟩ := hq
    obtain ⟨q1, h1, h2⟩ := hd1 k hk
    rw [← h2]; exact hH.2.1.2 k q1 h1
  have hNC : ∀ q ∈ NCL, va_Nc q.1 q.2 s := by
    intro q hq
    simp only [NCL, List.mem_cons, List.not_mem_nil, or_false] at hq
    rcases hq with rfl | rfl | rfl
    · exact va_Nc.of (hfq (.not (.castable "java/lang/IllegalStateException" "java/lang/IllegalArgumentException")) (by decide +kernel))
    · exact va_Nc.of (hfq (.not (.castable "java/lang/IllegalArgumentException" "java/lang/IndexOutOfBoundsException")) (by decide +kernel))
    · exact va_Nc.of (hfq (.not (.castable "java/lang/IllegalStateException" "java/lang/IndexOutOfBoundsException")) (by decide +kernel))
  have hGG : GG g s := by subst hg; exact ⟨hGW, hNW, hK, hinj, SW_of hts, hNC⟩
  have hZZ : ZZ (oA g) s s.heap := ⟨vx_Zqof (hts _ (List.mem_of_getElem? (i := 292) (by decide +kernel))) (hG _ (gm 46 (by decide +kernel) rfl)) (hfq (.isRef (.static "java/lang/Throwable" "UNASSIGNED_STACK" "[Ljava/lang/StackTraceElement;")) (by decide +kernel)) (fun a ha h => by have := hold a h; omega), vx_Zqof (hts _ (List.mem_of_getElem? (i := 294) (by decide +kernel))) (hG _ (gm 46 (by decide +kernel) rfl)) (hfq (.isRef (.static "java/lang/Throwable" "SUPPRESSED_SENTINEL" "Ljava/util/List;")) (by decide +kernel)) (fun a ha h => by have := hold a h; omega)⟩
  have hHp : Hp g S0 s H [] := ⟨hH.1, hH.2.2.1.1, fun q hq hA => hH.2.2.1.2.1 q hq (by omega), fun q hq => by cases hq⟩
  have hl2 : lv_has ls 7 [(0, .ref b), (1, .ref (g.1 0)), (2, .ref (g.1 23)), (3, .ref (g.1 33)), (4, .int (iI 0))] := by subst hg; exact lv_sub hl [4, 3, 2, 1, 0] rfl
  have r1 : room_1.cells = 1079 := rfl
  have r2 : room_1.slots = 9392 := rfl
  refine law_loop (g := g) ⟨zx, zb, hml, hown, hGG, hZZ⟩ hfl hX hbl (fun h => by have := hold b h; omega) hL ⟨rfl, rfl⟩ ?_ _ 0 S0 H [] _ _ ls rfl (Int.le_refl 0) (by omega) (by rw [r1]; omega) (by rw [r2]; omega) Cpl_0 hHp hl2
  intro S9 H9 locs9 cells slots ls9 hH9 hc hs
  refine va_forget (fun q hq => hold _ (hH9.2.2.2 q hq)) ?_
  refine W.widen (k := 1079) (n := 9392) hc hs ?_
  refine lv_iconst (v := 1) zx zb dL_law_1683 (by decide) ?_
  exact lw_ret zx zb hr hlk dL_law_1684
set_option maxHeartbeats 4000000 in
theorem lw_walk (l : Launch) (hflags : l.flags = flags0) (b : Addr) (xs : List Int32) : MetFree l x (headSpec (Jvm.Cond.code x code maxLocals ret :: tables_1) room_1) (lw_P b xs) (fun _ _ _ _ _ => True) lw_Q := by
  refine MetFree.of_bodyS (code := code) (maxLocals := maxLocals) (ret := ret) (by decide) ?_ ?_
  · intro args s m h hn
    obtain ⟨meth, c, h1, h2, h3, h4, h5, h6, -, -⟩ := Cond.code_spec hn (atoms_spec (ws := Jvm.Cond.code x code maxLocals ret :: tables_1) h _ List.mem_cons_self)
    exact ⟨meth, c, h1, h2, h3, h4, h5, h6⟩
  · intro p e s m args below meth c s₁ B hml0 hP _
    obtain ⟨rfl, hx, hbd, hgv⟩ := hP
    obtain ⟨scr, harrAt, hlist, hof, hsmall⟩ := hx
    obtain ⟨hcb, hkn, -, -⟩ := State.arrayAt?_spec harrAt
    have hown : s.vm.findClass R_law = some m.cls := findClass_of_methodNamed B.named
    have hts0 : ∀ c ∈ (Jvm.Cond.code x code maxLocals ret :: tables_1), c.before #[Value.ref b] s = true := atoms_spec (ws := Jvm.Cond.code x code maxLocals ret :: tables_1) B.pre
    have hts : ∀ w ∈ lw_tbl, w.before #[Value.ref b] s = true := k2_hts_sels lw_privs (fun w hw => hts0 w (List.mem_cons_of_mem _ hw)) lw_privs_ok
    have hml : c.maxLocals = 7 := B.maxLocals_eq (hts0 _ List.mem_cons_self)
    have X₀ : Stand p l e room_1 s m #[Value.ref b] below meth c s₁ [] 0 0 := Stand.of_body B
    have hh0 : s₁.heap = s.heap := by rw [B.state]; rfl
    have hsz : scr.slots.size = xs.length := by rw [← Array.length_toList, hlist, List.length_map]
    have hval : ∀ j : Nat, j < xs.length → scr.slots[j]? = some (.int (xs.getD j 0)) := fun j hj => by
      rw [← Array.getElem?_toList, hlist]
      simp [hj]
    have hbl : b < s.heap.size := (Array.getElem?_eq_some_iff.mp hcb).1
    have hX : va_X b xs.length (fun j => xs.getD j 0) s s.heap := ⟨scr, hcb, hof, hkn, hsz, hval⟩
    have K : W p l e room_1 s m #[Value.ref b] below meth c s₁.heap [] 0 0 (lw_Z below #[Value.ref b] s) (entryFrame m ([Value.ref b] : List Value).toArray 7) := by
      rw [hh0]
      exact whole_start l hflags hbd ⟨B.exec, B.bytes, B.returns, hml, hown, hts, hX, hbl, B.notSynchronized, hgv⟩
    obtain ⟨t, a1, o, b1, b2, b3⟩ := K s₁ rfl X₀
    exact ⟨t, o, a1, b1, b2, b3⟩
theorem lw_pre_spec {args : Array Value} {s : State} (h : (Jvm.Cond.and given_1 narrow_1).before args s = true) (hr : rest_1_c.before args s = true) : ∃ (b : Addr) (xs : List Int32), lw_P b xs args s := by
  have hs := flat_of_before _ h
  have hq := flat_of_before _ hr
  have hc : (Cond.count 1).before args s = true := hs _ (by decide +kernel)
  have harr : (Cond.arrayOf (.arg 0) .int).before args s = true := hs _ (by decide +kernel)
  have hle : (Cond.le (.length (.arg 0)) (.int 2560)).before args s = true := hs _ (by decide +kernel)
  have hlen : (Cond.isInt (.length (.arg 0))).before args s = true := hq _ (by decide +kernel)
  have hall : (Cond.all (.arg 0) (.isInt (.elem (.arg 0) (.index 0)))).before args s = true := hq _ (by decide +kernel)
  obtain ⟨b, xs, hb, hx⟩ := State.ints_of_pre rfl harr hlen hall
  have hsm : xs.length < 2 ^ 31 := hx.choose_spec.2.2.2
  have hev : (Term.length (.arg 0)).eval args s none [] s = some (.int xs.length.toInt32) := hx.length_eval hb
  have hv := Cond.le_ints hev (show (Term.int 2560).eval args s none [] s = some (.int 2560) from rfl)
  have hd : xs.length.toInt32 ≤ 2560 := by
    simpa [Cond.before, Cond.holds, hv] using hle
  have hN : xs.length ≤ 2560 := (Int32.ofNat_le_ofNat hsm (by decide)).mp (show Int32.ofNat xs.length ≤ Int32.ofNat 2560 from hd)
  exact ⟨b, xs, Cond.one_arg hc (show args[0]? = some (.ref b) from hb), hx, hN, h⟩
theorem lw_comes (l : Launch) (hflags : l.flags = flags0) : Comes l x (Jvm.Cond.code x code maxLocals ret :: tables_1) room_1 (fun tb e args s => Calls_1 tb e args s ∧ rest_1 tb e args s ∧ Pre_1 tb e args s)
    (fun _ _ args s o t => lw_Q args s o t) := by
  intro p e ha hc hk s m args below hf hfit hheap happ hpre
  obtain ⟨b, xs, hP⟩ := lw_pre_spec hpre.2.2 hpre.2.1
  obtain ⟨k, o, h1, h2, h3, hQ⟩ := lw_walk l hflags b xs p e ha hc hk s m args below hf ((Spec.applies_iff_loose hf).mp happ).1 hP trivial
  exact ⟨k, o, h1, h2, h3, hQ⟩
theorem lw_frame {s t : State} {o : Outcome} {args : Array Value} (h : Framed s o t [] 1079 9392) :
    Framed s o t (fieldLocs frame_1_writes args s ++ arrayLocs frame_1_arrays args s ++ staticLocs frame_1_statics s) 1079 9392 := h
theorem lw_limb (L : Cond) (hL : ∀ (args : Array Value) (s t : State), L.after args s (.returned (some (.int 1))) t = true) :
    ArmFor flags0 classFile x code maxLocals ret World_1 tables_1 room_1 Calls_1 rest_1 Pre_1
      (fun tb e a s o t => postC L tb e a s o t ∧ Framed s o t (fieldLocs frame_1_writes a s ++ arrayLocs frame_1_arrays a s ++ staticLocs frame_1_statics s) 1079 9392) := by
  intro l hflags _ _ p e ha hc hk s m args below hf hfit hheap happ hpre
  obtain ⟨k, o, h1, h2, h3, rfl, hF⟩ := lw_comes l hflags p e ha hc hk s m args below hf hfit hheap happ hpre
  exact ⟨k, _, h1, h2, h3, hL args s _, lw_frame hF⟩
theorem i_vc : Claimed_1_1 ∧ Claimed_1_2 := ⟨lw_limb limb_1_1 (fun args s t => by simp [limb_1_1, Cond.after, Cond.holds, Cond.value]), lw_limb limb_1_2 (fun args s t => Cond.after_iff.mpr (by
  first | (rw [show limb_1_2 = Cond.eq .result (.int 1) from rfl, Cond.eq_ints (x := 1) (y := 1) rfl rfl]; simp; done) | (simp [limb_1_2, Cond.value, Term.eval]; done)))⟩
