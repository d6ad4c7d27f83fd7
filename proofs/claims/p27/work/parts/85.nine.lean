def R_law : String := "SkyLoomLaw"
/-- what holds at the law's entry: the machine, the code, the tables' words (any of lw_tbl by 'hts w (by decide +kernel)'), the script of L ints xs at the cell b, what the Statement gives of the start (any of its parts by flat_of_before) -/
def lw_At (p : Program) (s : State) (m : MethodId) (meth : Method) (c : Code) (b L : Nat) (xs : Nat → Int32) : Prop :=
  p.tables.exec = Jvm.exec ∧ c.code = code ∧ meth.sig.returnType = ret ∧ c.maxLocals = 24 ∧ s.vm.findClass R_law = some m.cls ∧ (∀ w ∈ lw_tbl, w.before #[Value.ref b] s = true) ∧ va_X b L xs s s.heap ∧ b < s.heap.size ∧ meth.locks = false ∧ (Jvm.Cond.and given_1 narrow_1).before #[Value.ref b] s = true
/-- more room than the claim gives: where the machine has it, the run goes on in it -/
def R9 : Room := { frames := 11, cells := 300, slots := 2600, locals := 410 }
/-- the law's end, with 1 on the stack, and how much the heap has grown -/
theorem lw_rtN {p : Program} {l : Launch} {e : Env} {R : Room} {s : State} {m : MethodId} {args : Array Value} {below : List Frame} {meth : Method} {c : Code} {N cells slots : Nat} {locs : List Loc} (hx : p.tables.exec = Jvm.exec) (hb : c.code = code) (hr : meth.sig.returnType = ret) (hlocks : meth.locks = false) {pc : Nat} {H : Heap} {ls : Array Slot} (hN : N + 252 ≤ H.size) (hdg : decode code pc = .ok (.ireturn, 1)) : W p l e R s m args below meth c H locs cells slots (fun t => ∃ o, t.status = .running ∧ Ended t below o ∧ o = .returned (some (.int 1)) ∧ N + 252 ≤ t.heap.size) (F0 m pc ls [.int (iI 1)]) := by
  intro T hT X
  obtain ⟨fs, hret, hrun, hended, hW, hframe⟩ := X.leave (v := some (.int 1)) (hlocks := hlocks) (fun h => by rw [hr] at h; cases h)
  have hmeth' : T.vm.method? m = some meth := X.method'
  refine ⟨T.setFrames fs, ?_, .returned (some (.int 1)), hrun, hended, rfl, by rw [show (T.setFrames fs).heap = T.heap from rfl, hT]; exact hN⟩
  rw [show iI 1 = 1 by decide]
  jvm_step X.here [X.here.top, hx, hb, hdg, hmeth', hr, ret, narrow_b1]
  (try refine ⟨rfl, ?_⟩); (try refine ⟨rfl, ?_⟩)
  first | (intro acts; rw [hret _ acts rfl rfl rfl]) | rw [hret _ _ rfl rfl rfl]
  exact Steps.refl _
set_option maxRecDepth 100000 in
set_option maxHeartbeats 8000000 in
theorem nine_start {p : Program} {e : Env} {s : State} {m : MethodId} {below : List Frame} {meth : Method} {c : Code} (l : Launch) (hflags : l.flags = flags0) {b : Nat} {xs : Nat → Int32} (hxs : ∀ k : Nat, k < 260 → xs k = 9) (C0 : lw_At p s m meth c b 260 xs) : W p l e R9 s m #[Value.ref b] below meth c s.heap [] 0 0 (fun t => ∃ o, t.status = .running ∧ Ended t below o ∧ o = .returned (some (.int 1)) ∧ s.heap.size + 252 ≤ t.heap.size) (entryFrame m ([Value.ref b] : List Value).toArray 24) := by
  obtain ⟨zx, zb, hr, hml, hown, hts, hX, hbl, hlk, hgv⟩ := C0
  obtain ⟨N9, hN9e⟩ : ∃ N9 : Nat, N9 = s.heap.size := ⟨_, rfl⟩
  rw [← hN9e]
  have hfl : l.stackTraces = false := by unfold Launch.stackTraces; rw [hflags]; decide +kernel
  have hfq := flat_of_before _ hgv
  have hG : ∀ w ∈ GL, w.before #[Value.ref b] s = true := fun w hw => hts w (List.mem_filter.mp hw).1
  obtain ⟨cc1, ii1, kn1⟩ := u_known (C := RX1) (T := TX1) (N := 3) hG inG1 (hG (.instantiable RX1 3) (gm 85 (by decide +kernel) rfl))
  obtain ⟨cc2, ii2, kn2⟩ := u_known (C := RX2) (T := TX2) (N := 3) hG inG2 (hG (.instantiable RX2 3) (gm 42 (by decide +kernel) rfl))
  obtain ⟨cc3, ii3, kn3⟩ := u_known (C := RX3) (T := TX3) (N := 7) hG inG3 (hG (.instantiable RX3 7) (gm 133 (by decide +kernel) rfl))
  obtain ⟨cc4, ii4, kn4⟩ := u_known (C := RX4) (T := TX4) (N := 5) hG inG4 (hG (.instantiable RX4 5) (gm 106 (by decide +kernel) rfl))
  obtain ⟨cc5, ii5, kn5⟩ := u_known (C := RX5) (T := TX5) (N := 4) hG inG5 (hG (.instantiable RX5 4) (gm 62 (by decide +kernel) rfl))
  obtain ⟨cc6, ii6, kn6⟩ := u_known (C := RX6) (T := TX6) (N := 5) hG inG6 (hG (.instantiable RX6 5) (gm 34 (by decide +kernel) rfl))
  obtain ⟨cI, kI, pI, hI1, hI2, hI3⟩ := Cond.arrayClass_spec (type := .int) (hG (.arrayClass .int) (gm 60 (by decide +kernel) rfl))
  obtain ⟨cL, kL, pL, hL1, hL2, hL3⟩ := Cond.arrayClass_spec (type := .long) (hG (.arrayClass .long) (gm 589 (by decide +kernel) rfl))
  obtain ⟨D, hD⟩ : ∃ D : va_G, D = (fun k => [cc1, cc2, cc3, cc4, cc5, cc6].getD k cc1, fun k => [ii1, ii2, ii3, ii4, ii5, ii6].getD k ii1) := ⟨_, rfl⟩
  have hK : va_K D vwCl [(cI, .int), (cL, .long)] s := by
    subst hD
    refine ⟨fun k q hq => ?_, fun k q hq => ?_⟩
    · rcases (show k = 0 ∨ k = 1 ∨ k = 2 ∨ k = 3 ∨ k = 4 ∨ k = 5 ∨ 6 ≤ k by omega) with rfl | rfl | rfl | rfl | rfl | rfl | h7
      · cases hq; exact kn1
      · cases hq; exact kn2
      · cases hq; exact kn3
      · cases hq; exact kn4
      · cases hq; exact kn5
      · cases hq; exact kn6
      · rw [List.getElem?_eq_none (by exact h7)] at hq; cases hq
    · rcases (show k = 0 ∨ k = 1 ∨ 2 ≤ k by omega) with rfl | rfl | h7
      · cases hq; exact ⟨fun n z => ⟨fun k h => (by cases h), kI, hI2, pI, hI3⟩, hI1⟩
      · cases hq; exact ⟨fun n z => ⟨fun k h => (by cases h), kL, hL2, pL, hL3⟩, hL1⟩
      · rw [List.getElem?_eq_none (by exact h7)] at hq; cases hq
  have hNW : ∀ w ∈ NL, va_Nw w s := fun w hw => va_Nw.of (nest_on (List.mem_filter.mp hw).2) (hts w (List.mem_filter.mp hw).1)
  have hGW : ∀ w ∈ GL, w.before #[] s = true := fun w hw => word_at (State.WarmedH.refl s) (good_of_word (List.mem_filter.mp hw).2) (hG w hw)
  obtain ⟨g0, hg0⟩ : ∃ g0 : gT, g0 = (fun _ => 0, D, cI, cL, saF s) := ⟨_, rfl⟩
  have hP0 : GP g0 s := by rw [hg0]; exact ⟨hGW, hNW, hK⟩
  have Cc0 : Cc p s m c g0 RL cL_law 24 := ⟨zx, zb, hml, hown, hP0⟩
  have hH : Hc g0 (fun q => s.heap.size ≤ q) [] s s.heap [] := ⟨fun k q hk => by simp at hk, ⟨fun i j p q hi => by simp at hi, fun k q hk => by simp at hk⟩, va_S.rf, fun q h => h⟩
  have hl := lv_entry ([Value.ref b]) (n := 24) (Nat.le_of_ble_eq_true rfl)
  rw [lg_entry_eq]
  generalize (lg_sl ([Value.ref b]) ++ List.replicate (24 - (lg_sl ([Value.ref b])).length) Slot.unset).toArray = ls at hl ⊢
  have hl : lv_has ls 24 [(0, .ref b)] := hl
  obtain ⟨H, hHe⟩ : ∃ H : Heap, H = s.heap := ⟨_, rfl⟩
  obtain ⟨locs, hle⟩ : ∃ locs : List Loc, locs = [] := ⟨_, rfl⟩
  have hH : Hc g0 (fun q => s.heap.size ≤ q) [] s H locs := by rw [hHe, hle]; exact hH
  rw [← hHe, ← hle]
  refine nwC (T := TX6) (ci := 5) (fs := [.null, .null, .null, .null, .null]) Cc0 hH rfl inG6 tyX6 tyX6_ok (gm 33 (by decide +kernel) rfl) (gm 34 (by decide +kernel) rfl) (gm 17 (by decide +kernel) rfl) (fun j hj => by rcases (show j = 0 ∨ j = 1 ∨ j = 2 ∨ j = 3 ∨ j = 4 by omega) with rfl | rfl | rfl | rfl | rfl <;> rfl) (Nat.le_of_ble_eq_true rfl) (Nat.le_of_ble_eq_true rfl) dL_law_0 (fun h0 H hH => ?_)
  refine lv_dup zx zb dL_law_3 rfl ?_
  refine ccC (rest := [.ref h0]) Cc0 (ws := [] ++ [(h0, .inr (5, [.null, .null, .null, .null, .null]))]) hH (cc_X6_init l g0 h0 (fun q => s.heap.size ≤ q) []) (Cc0.2.2.2.2.w (gm 35 (by decide +kernel) rfl)) ⟨(gm 36 (by decide +kernel) rfl), (gm 37 (by decide +kernel) rfl), (gm 17 (by decide +kernel) rfl)⟩ ky_X6_init rfl ⟨(Nat.le_of_ble_eq_true rfl), (Nat.le_of_ble_eq_true rfl)⟩ ⟨(Nat.le_of_ble_eq_true rfl), (Nat.le_of_ble_eq_true rfl)⟩ hl.1 (Nat.le_of_ble_eq_true rfl) dL_law_4 (fun w H locs hB hH => ?_)
  obtain ⟨z0, z1, z2, z3, z4, z5, z6, z7, z8, z9, z10, z11, z12, z13, z14, z15, z16, z17, z18, z19, z20, z21, rfl⟩ := hB
  have hH : Hc g0 (fun q => s.heap.size ≤ q) [(h0, .inr (5, [.ref z0, .ref z3, .ref z7, .ref z11, .ref z16])), (z0, .inr (1, [.int (iI 0), .ref z1, .ref z2])), (z1, .inl (g0.2.2.1, 24, .inl (fun _ : Nat => iI 0))), (z2, .inl (g0.2.2.1, 24, .inl (fun _ : Nat => iI 0))), (z3, .inr (4, [.int (iI 0), .ref z4, .ref z5, .ref z6])), (z4, .inl (g0.2.2.1, 8, .inl (fun _ : Nat => iI 0))), (z5, .inl (g0.2.2.1, 80, .inl (fun _ : Nat => iI 0))), (z6, .inl (g0.2.2.1, 80, .inl (fun _ : Nat => iI 0))), (z7, .inr (0, [.ref z8, .ref z9, .ref z10])), (z8, .inl (g0.2.2.1, 48, .inl (flF 48 (-1) (fun _ : Nat => iI 0)))), (z9, .inl (g0.2.2.1, 80, .inl (fun _ : Nat => iI 0))), (z10, .inl (g0.2.2.1, 8, .inl (flF 8 (-1) (fun _ : Nat => iI 0)))), (z11, .inr (3, [.int (iI 0), .ref z12, .ref z13, .ref z14, .ref z15])), (z12, .inl (g0.2.2.1, 12, .inl (fun _ : Nat => iI 0))), (z13, .inl (g0.2.2.1, 12, .inl (fun _ : Nat => iI 0))), (z14, .inl (g0.2.2.1, 12, .inl (fun _ : Nat => iI 0))), (z15, .inl (g0.2.2.1, 12, .inl (fun _ : Nat => iI 0))), (z16, .inr (2, [.int (iI 0), .int (iI 0), .ref z17, .ref z18, .ref z19, .ref z20, .ref z21])), (z17, .inl (g0.2.2.1, 30, .inl (fun _ : Nat => iI 0))), (z18, .inl (g0.2.2.1, 30, .inl (fun _ : Nat => iI 0))), (z19, .inl (g0.2.2.1, 30, .inl (fun _ : Nat => iI 0))), (z20, .inl (g0.2.2.1, 30, .inl (fun _ : Nat => iI 0))), (z21, .inl (g0.2.2.1, 30, .inl (fun _ : Nat => iI 0)))] s H locs := hH
  refine lv_astore_n zx zb dL_law_7 rfl hl (by decide) rfl (fun ls hl => ?_)
  refine bi_bip (n := 60) zx zb dL_law_8 (by decide) ?_
  refine naC (n := 60) Cc0 hH (Nat.le_of_ble_eq_true rfl) (Nat.le_of_ble_eq_true rfl) (Nat.le_of_ble_eq_true rfl) dL_law_10 (fun u2 H hH => ?_)
  refine lv_astore_n zx zb dL_law_12 rfl hl (by decide) rfl (fun ls hl => ?_)
  refine bi_bip (n := 64) zx zb dL_law_13 (by decide) ?_
  refine nlC Cc0 hH (Nat.le_of_ble_eq_true rfl) (Nat.le_of_ble_eq_true rfl) dL_law_15 (fun u3 H hH => ?_)
  refine lv_astore_n zx zb dL_law_17 rfl hl (by decide) rfl (fun ls hl => ?_)
  refine bi_const (n := 0) zx zb dL_law_18 ?_
  refine lv_istore zx zb dL_law_19 hl (by decide) rfl (fun ls hl => ?_)
  refine bi_const (n := 0) zx zb dL_law_21 ?_
  refine lv_istore zx zb dL_law_22 hl (by decide) rfl (fun ls hl => ?_)
  refine va_forget (fun q hq => hH.2.2.1.2.2 q hq) ?_
  have e9 : flF 48 (-1) (fun _ : Nat => iI 0) = fun j : Nat => iI (S0 9 j) := funext (fun j => by
    unfold flF S0
    by_cases h : (j : Int) < 48
    · rw [if_pos h, if_pos (Or.inl ⟨rfl, by omega, h⟩)]
    · rw [if_neg h, if_neg (fun q => by omega)])
  have e11 : flF 8 (-1) (fun _ : Nat => iI 0) = fun j : Nat => iI (S0 11 j) := funext (fun j => by
    unfold flF S0
    by_cases h : (j : Int) < 8
    · rw [if_pos h, if_pos (Or.inr ⟨rfl, by omega, h⟩)]
    · rw [if_neg h, if_neg (fun q => by omega)])
  rw [e9, e11] at hH
  subst hg0
  obtain ⟨g, hg⟩ : ∃ g : gT, g = (fun k => [h0, z0, z1, z2, z3, z4, z5, z6, z7, z8, z9, z10, z11, z12, z13, z14, z15, z16, z17, z18, z19, z20, z21].getD k 0, D, cI, cL, saF s) := ⟨_, rfl⟩
  have hW : va_P g.2.1 vwCl (Wl g S0 ++ [(u2, .inl (g.2.2.1, 60, .inl (fun _ : Nat => iI 0))), (u3, .inl (g.2.2.2.1, 64, .inr (.inl (fun _ : Nat => (iI 0).toInt64))))]) H ∧ va_D (fun q => s.heap.size ≤ q) (Wl g S0 ++ [(u2, .inl (g.2.2.1, 60, .inl (fun _ : Nat => iI 0))), (u3, .inl (g.2.2.2.1, 64, .inr (.inl (fun _ : Nat => (iI 0).toInt64))))]) := by subst hg; exact ⟨hH.1, hH.2.1⟩
  have hwl : ∀ k : Nat, k < 23 → (Wl g S0 ++ [(u2, .inl (g.2.2.1, 60, .inl (fun _ : Nat => iI 0))), (u3, .inl (g.2.2.2.1, 64, .inr (.inl (fun _ : Nat => (iI 0).toInt64))))])[k]? = (Wl g S0)[k]? := fun k hk => List.getElem?_append_left (by show k < 23; exact hk)
  have hP1 : va_P g.2.1 vwCl (Wl g S0) H := fun k q hk => hW.1 k q (by rw [hwl k (Wl_at hk).1]; exact hk)
  have hd1 : ∀ k : Nat, k < 23 → ∃ q, (Wl g S0)[k]? = some q ∧ q.1 = g.1 k := fun k hk => ⟨(Wl g S0)[k]'hk, List.getElem?_eq_getElem hk, (Wl_at (List.getElem?_eq_getElem hk)).2⟩
  have hinj : ∀ i j : Nat, i < 23 → j < 23 → g.1 i = g.1 j → i = j := fun i j hi hj he => by
    obtain ⟨q1, h1, h2⟩ := hd1 i hi
    obtain ⟨q2, h3, h4⟩ := hd1 j hj
    exact hW.2.1 i j q1 q2 (by rw [hwl i hi]; exact h1) (by rw [hwl j hj]; exact h3) (by rw [h2, h4]; exact he)
  have hold : ∀ q : Nat, oA g q → s.heap.size ≤ q := fun q hq => by
    obtain ⟨k, hk, rfl⟩ := hq
    obtain ⟨q1, h1, h2⟩ := hd1 k hk
    rw [← h2]; exact hW.2.2 k q1 (by rw [hwl k hk]; exact h1)
  have hNC : ∀ q ∈ NCL, va_Nc q.1 q.2 s := by
    intro q hq
    simp only [NCL, List.mem_cons, List.not_mem_nil, or_false] at hq
    subst hq
    exact va_Nc.of (hfq (.not (.castable "java/lang/IllegalStateException" "java/lang/IllegalArgumentException")) (by decide +kernel))
  have hGG : GG g s := by subst hg; exact ⟨hGW, hNW, hK, hinj, SW_of hts, hNC⟩
  have hZZ : ZZ (oA g) s s.heap := ⟨vx_Zqof (hts _ (List.mem_of_getElem? (i := 217) (by decide +kernel))) (hG _ (gm 26 (by decide +kernel) rfl)) (hfq (.isRef (.static "java/lang/Throwable" "UNASSIGNED_STACK" "[Ljava/lang/StackTraceElement;")) (by decide +kernel)) (fun a ha h => by have := hold a h; omega), vx_Zqof (hts _ (List.mem_of_getElem? (i := 219) (by decide +kernel))) (hG _ (gm 26 (by decide +kernel) rfl)) (hfq (.isRef (.static "java/lang/Throwable" "SUPPRESSED_SENTINEL" "Ljava/util/List;")) (by decide +kernel)) (fun a ha h => by have := hold a h; omega)⟩
  have hH : Hp g S0 s H [] := ⟨hP1, hH.2.2.1.1, fun q hq hA => hH.2.2.1.2.1 q hq (by omega), fun q hq => by cases hq⟩
  have hl : lv_has ls 24 [(0, .ref b), (1, .ref (g.1 0)), (2, .ref u2), (3, .ref u3), (4, .int (iI 0)), (5, .int (iI 0))] := by subst hg; exact lv_sub hl [5, 4, 3, 2, 1, 0] rfl
  have C1 : Ct p s m #[Value.ref b] c g RL cL_law 24 := ⟨zx, zb, hml, hown, hGG, hZZ⟩
  have hbA : ¬ oA g b := fun h => by have := hold b h; omega
  have hN : N9 ≤ H.size := by rw [hN9e]; exact hH.2.1
  refine lv_aload_n zx zb dL_law_24 rfl (lv_at hl 1 rfl) ?_
  refine cvZ (r' := 0) (rest := []) (As := []) (b := g.1 0) C1 hH hN (k_X6_wrong l g S0 Fr_0) rfl kw_L_76 ky_X6_wrong ⟨(Nat.le_of_ble_eq_true rfl), (Nat.le_of_ble_eq_true rfl)⟩ ⟨(Nat.le_of_ble_eq_true rfl), (Nat.le_of_ble_eq_true rfl)⟩ 0 rfl rfl rfl hl.1 rfl (Nat.le_of_ble_eq_true rfl) dL_law_25 (fun H locs hH hN => ?_)
  refine bz_ne (tgt := 35) zx zb dL_law_28 (by decide) ⟨by omega, by omega⟩ (fun zq => absurd zq (by omega)) (fun _ => ?_)
  refine bi_const (n := 1) zx zb dL_law_31 ?_
  refine lv_goto (tgt := 36) zx zb dL_law_32 (by decide) ?_
  refine lv_istore zx zb dL_law_36 hl (by decide) rfl (fun ls hl => ?_)
  refine lv_aload_n zx zb dL_law_38 rfl (lv_at hl 1 rfl) ?_
  refine va_slen zx zb hX hbl hbA hH.2 dL_law_39 ?_
  rw [show Int32.ofNat 260 = iI 260 by decide]
  refine bi_bip (n := 40) zx zb dL_law_40 (by decide) ?_
  refine bq_ge (tgt := 51) zx zb dL_law_42 (by decide) ⟨by omega, by omega⟩ ⟨by omega, by omega⟩ (fun _ => ?_) (fun zq => absurd zq (by omega))
  refine lv_aload_n zx zb dL_law_51 rfl (lv_at hl 1 rfl) ?_
  refine va_slen zx zb hX hbl hbA hH.2 dL_law_52 ?_
  rw [show Int32.ofNat 260 = iI 260 by decide]
  refine bi_bip (n := 80) zx zb dL_law_53 (by decide) ?_
  refine bq_ge (tgt := 65) zx zb dL_law_55 (by decide) ⟨by omega, by omega⟩ ⟨by omega, by omega⟩ (fun _ => ?_) (fun zq => absurd zq (by omega))
  refine bi_sip (n := 260) zx zb dL_law_65 (by decide) ?_
  refine lv_istore zx zb dL_law_68 hl (by decide) rfl (fun ls hl => ?_)
  refine bi_const (n := 0) zx zb dL_law_70 ?_
  refine lv_istore zx zb dL_law_71 hl (by decide) rfl (fun ls hl => ?_)
  refine lp_all (N := N9) C1 hfl hX hxs hbl hbA ⟨rfl, rfl⟩ ⟨Nat.le_of_ble_eq_true rfl, Nat.le_of_ble_eq_true rfl⟩ Fr_0 hH hN (lv_sub hl [3, 4, 5, 6, 7, 8, 2, 1, 0] rfl) ?_
  intro H9 locs9 cells9 slots9 ls9 hN9 hq9
  exact lw_rtN zx zb hr hlk hN9 dL_law_1364
