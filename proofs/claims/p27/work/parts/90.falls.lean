theorem nine_ints : start9.about.IntsAt 0 (List.replicate 260 9) :=
  ⟨{ cls := 21, slots := start9.cells0, vm := .none }, by rfl, by decide +kernel, ⟨(fun k h => nomatch h), _, rfl, _, rfl⟩, by rw [List.length_replicate]; exact Nat.lt_of_lt_of_le (Nat.le_of_ble_eq_true rfl : 260 < 261) (Nat.le_of_ble_eq_true rfl)⟩
set_option maxRecDepth 16384 in
theorem nine_run : ∃ (n : Nat) (o : Outcome), (∀ k, k < n → Within (stepsAlone start9.p0.tables start9.e0 k start9.about) Lib.HandBits.below0) ∧ (stepsAlone start9.p0.tables start9.e0 n start9.about).status = .running ∧ Ended (stepsAlone start9.p0.tables start9.e0 n start9.about) Lib.HandBits.below0 o ∧ Q9 start9.args0 start9.about o (stepsAlone start9.p0.tables start9.e0 n start9.about) := by
  have happ : (headSpec (Jvm.Cond.code x code maxLocals ret :: tables_1) R9).applies x start9.e0.platform start9.about = true :=
    (Spec.applies_iff rfl).mpr ⟨rfl, rfl, rfl, by decide +kernel, by decide +kernel, by decide +kernel, launch0.hasRoom_least _ R9 (by decide +kernel) (by decide +kernel) (by decide +kernel) (by decide +kernel) (by decide +kernel) (by decide +kernel), atoms_intro start9.words⟩
  exact nine_walk launch0 rfl 0 start9.p0 start9.e0 (launch0.admits_env _ _ _) fairChoices_fair.cas fairChoices_fair.clock start9.about ⟨0, 0⟩ start9.args0 Lib.HandBits.below0 rfl ((Spec.applies_iff_loose rfl).mp happ).1 ⟨rfl, nine_ints, start9.atStart.2.2.2.2.2.2.2.2.2.2.2.2⟩ trivial
theorem nine_no {o : Outcome} {t : State} {L : List Loc} (hq : Q9 start9.args0 start9.about o t) : ¬ Framed start9.about o t L 150 1659 := by
  intro h
  have h9 : t.heap.size ≤ start9.about.heap.size + 150 := h.2.2.2.2.1
  have h8 := hq.2
  omega
/-- THE STATEMENT FALLS: on the script of 260 nines the law returns 1, but the heap has grown by more than the 150 cells of its frame -/
theorem p27_falls : RefutedClaimed_1_1 ∧ RefutedClaimed_1_2 := by
  obtain ⟨n, o, h1, h2, h3, h4⟩ := nine_run
  exact ⟨⟨launch0, start9.p0, start9.e0, start9.about, ⟨0, 0⟩, start9.args0, Lib.HandBits.below0, rfl, start9.atStart, n, o, h1, h2, h3, fun h => nine_no h4 h.2⟩,
    ⟨launch0, start9.p0, start9.e0, start9.about, ⟨0, 0⟩, start9.args0, Lib.HandBits.below0, rfl, start9.atStart, n, o, h1, h2, h3, fun h => nine_no h4 h.2⟩⟩
