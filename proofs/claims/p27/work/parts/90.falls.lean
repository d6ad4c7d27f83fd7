theorem nine_ints : start9.about.IntsAt 0 (List.replicate 260 9) :=
  ⟨{ cls := 21, slots := start9.cells0, vm := .none }, by rfl, by decide +kernel, ⟨(fun k h => nomatch h), _, rfl, _, rfl⟩, by rw [List.length_replicate]; exact Nat.lt_of_lt_of_le (Nat.le_of_ble_eq_true rfl : 260 < 261) (Nat.le_of_ble_eq_true rfl)⟩
set_option maxRecDepth 16384 in
theorem nine_run : ∃ (n : Nat) (o : Outcome), (∀ k, k < n → Within (stepsAlone start9.p0.tables start9.e0 k start9.about) Lib.HandBits.below0) ∧ (stepsAlone start9.p0.tables start9.e0 n start9.about).status = .running ∧ Ended (stepsAlone start9.p0.tables start9.e0 n start9.about) Lib.HandBits.below0 o ∧ Q9 start9.args0 start9.about o (stepsAlone start9.p0.tables start9.e0 n start9.about) := by
  have happ : (headSpec (Jvm.Cond.code x code maxLocals ret :: tables_1) R9).applies x start9.e0.platform start9.about = true :=
    (Spec.applies_iff rfl).mpr ⟨rfl, rfl, rfl, by decide +kernel, by decide +kernel, by decide +kernel, launch0.hasRoom_least _ R9 (by decide +kernel) (by decide +kernel) (by decide +kernel) (by decide +kernel) (by decide +kernel) (by decide +kernel), atoms_intro start9.words⟩
  exact nine_walk launch0 rfl 0 start9.p0 start9.e0 (launch0.admits_env _ _ _) fairChoices_fair.cas fairChoices_fair.clock start9.about ⟨0, 0⟩ start9.args0 Lib.HandBits.below0 rfl ((Spec.applies_iff_loose rfl).mp happ).1 ⟨rfl, nine_ints, start9.atStart.2.2.2.2.2.2.2.2.2.2.2.2⟩ trivial
theorem nine_no {o o9 : Outcome} {t : State} {L : List Loc} (hq : Q9 start9.args0 start9.about o t) : ¬ Framed start9.about o9 t L 150 1659 := by
  intro h
  have h9 : t.heap.size ≤ start9.about.heap.size + 150 := h.2.2.2.2.1
  have h8 := hq.2
  omega
/-- the claim itself, whatever it says of the answer, does not hold: one run has one end -/
theorem nine_not {Post : Tables → Env → Array Value → State → Outcome → State → Prop} (hp : ∀ (tb : Tables) (e : Env) (a : Array Value) (s : State) (o : Outcome) (t : State), Post tb e a s o t → ∃ L : List Loc, Framed s o t L 150 1659) : ¬ ArmFor flags0 classFile x code maxLocals ret World_1 tables_1 room_1 Calls_1 rest_1 Pre_1 Post := by
  intro hA
  obtain ⟨n, o, h1, h2, h3, h4⟩ := nine_run
  obtain ⟨a1, a2, a3, a4, a5, a6, a7, a8, a9, a10, a11, a12, a13⟩ := start9.atStart
  obtain ⟨n9, o9, g1, g2, g3, g4⟩ := hA launch0 rfl a1 a2 start9.p0 start9.e0 a3 a5 a6 start9.about ⟨0, 0⟩ start9.args0 Lib.HandBits.below0 a7 a8 a9 a10 ⟨a11, a12, a13⟩
  have e : n = n9 := by
    rcases Nat.lt_trichotomy n n9 with h | h | h
    · exact absurd (g1 n h) h3.not_within
    · exact h
    · exact absurd (h1 n9 h) g3.not_within
  subst e
  obtain ⟨L, hF⟩ := hp _ _ _ _ _ _ g4
  exact nine_no h4 hF
theorem p27_not : ¬ Claimed_1_1 ∧ ¬ Claimed_1_2 := ⟨nine_not (fun _ _ _ _ _ _ h => ⟨_, h.2⟩), nine_not (fun _ _ _ _ _ _ h => ⟨_, h.2⟩)⟩
/-- THE STATEMENT FALLS: on the script of 260 nines the law returns 1, but the heap has grown by more than the 150 cells of its frame -/
theorem p27_falls : RefutedClaimed_1_1 ∧ RefutedClaimed_1_2 := by
  obtain ⟨n, o, h1, h2, h3, h4⟩ := nine_run
  exact ⟨⟨launch0, start9.p0, start9.e0, start9.about, ⟨0, 0⟩, start9.args0, Lib.HandBits.below0, rfl, start9.atStart, n, o, h1, h2, h3, fun h => nine_no h4 h.2⟩,
    ⟨launch0, start9.p0, start9.e0, start9.about, ⟨0, 0⟩, start9.args0, Lib.HandBits.below0, rfl, start9.atStart, n, o, h1, h2, h3, fun h => nine_no h4 h.2⟩⟩
