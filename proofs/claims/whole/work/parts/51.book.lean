/-! ===== lines: what every depth of undo keeps ===== -/
abbrev gL : Type := (Int → Int) × (Int → Int) × (Int → Int)
def hasL (L : gL) (f z : Int) : Prop := ∃ k : Int, 0 ≤ k ∧ k < L.1 f ∧ (L.2.1 (10 * f + k) = z ∨ L.2.2 (10 * f + k) = z)
theorem exF_iff {p : Int → Bool} : ∀ (k : Nat) (i : Int), exF p k i = true ↔ ∃ j : Int, i ≤ j ∧ j < i + k ∧ p j = true
  | 0, i => ⟨fun h => (Bool.false_ne_true h).elim, fun ⟨j, h0, h1, _⟩ => by omega⟩
  | k + 1, i => by
    show (p i || exF p k (i + 1)) = true ↔ _
    rw [Bool.or_eq_true, exF_iff k (i + 1)]
    constructor
    · rintro (h | ⟨j, h0, h1, h2⟩)
      · exact ⟨i, by omega, by omega, h⟩
      · exact ⟨j, by omega, by omega, h2⟩
    · rintro ⟨j, h0, h1, h2⟩
      by_cases hj : j = i
      · subst hj; exact Or.inl h2
      · exact Or.inr ⟨j, by omega, by omega, h2⟩
theorem hs_iff {L : gL} {f z : Int} (hn : 0 ≤ L.1 f) : hsB L.1 L.2.1 L.2.2 f z = true ↔ hasL L f z := by
  unfold hsB hasL
  rw [exF_iff]
  unfold hsQ
  constructor
  · rintro ⟨j, h0, h1, h2⟩
    refine ⟨j - 10 * f, by omega, by omega, ?_⟩
    rw [show 10 * f + (j - 10 * f) = j by omega]
    simpa using h2
  · rintro ⟨k, h0, h1, h2⟩
    exact ⟨10 * f + k, by omega, by omega, by simpa using h2⟩
def gdL (nf : Int) (L : gL) : Prop := okN L.1 ∧ okE L.1 L.2.1 ∧ okE L.1 L.2.2 ∧ (∀ f : Int, nf ≤ f → f < 8 → L.1 f = 0) ∧ (∀ f q z : Int, 0 ≤ f → f < 8 → 0 ≤ q → q < 8 → hasL L f z → hasL L q z → f = q)
def outL (L : gL) (f k : Int) : gL := (ud L.1 f (L.1 f - 1), delA L.2.1 (10 * f + k) (10 * f + L.1 f - 1), delA L.2.2 (10 * f + k) (10 * f + L.1 f - 1))
def inL (L : gL) (f k a b : Int) : gL := (ud L.1 f (L.1 f + 1), insA L.2.1 (10 * f + k) (10 * f + L.1 f) a, insA L.2.2 (10 * f + k) (10 * f + L.1 f) b)
def Leq (L M : gL) : Prop := ∀ f : Int, 0 ≤ f → f < 8 → L.1 f = M.1 f ∧ ∀ k : Int, 0 ≤ k → k < L.1 f → L.2.1 (10 * f + k) = M.2.1 (10 * f + k) ∧ L.2.2 (10 * f + k) = M.2.2 (10 * f + k)
theorem Leq_s {L M : gL} (h : Leq L M) : Leq M L := fun f h0 h8 => by
  obtain ⟨h1, h2⟩ := h f h0 h8
  exact ⟨h1.symm, fun k k0 k1 => ⟨(h2 k k0 (by omega)).1.symm, (h2 k k0 (by omega)).2.symm⟩⟩
theorem Leq_has {L M : gL} (h : Leq L M) {f z : Int} (h0 : 0 ≤ f) (h8 : f < 8) (hz : hasL M f z) : hasL L f z := by
  obtain ⟨k, k0, k1, k2⟩ := hz
  obtain ⟨h1, h2⟩ := h f h0 h8
  have h3 := h2 k k0 (by omega)
  exact ⟨k, k0, by omega, by rw [h3.1, h3.2]; exact k2⟩
theorem Leq_gd {nf : Int} {L M : gL} (h0 : 0 ≤ nf) (h : Leq L M) (g : gdL nf L) : gdL nf M := by
  obtain ⟨gN, gE, gO, gz, gu⟩ := g
  refine ⟨fun f f0 f8 => ?_, fun f k f0 f8 k0 k1 => ?_, fun f k f0 f8 k0 k1 => ?_, fun f f0 f8 => ?_, fun f q z f0 f8 q0 q8 a b => gu f q z f0 f8 q0 q8 (Leq_has h f0 f8 a) (Leq_has h q0 q8 b)⟩
  · rw [← (h f f0 f8).1]; exact gN f f0 f8
  · obtain ⟨h1, h2⟩ := h f f0 f8
    rw [← (h2 k k0 (by omega)).1]; exact gE f k f0 f8 k0 (by omega)
  · obtain ⟨h1, h2⟩ := h f f0 f8
    rw [← (h2 k k0 (by omega)).2]; exact gO f k f0 f8 k0 (by omega)
  · rw [← (h f (by omega) f8).1]; exact gz f f0 f8
/-! slots after a line went out or came in -/
theorem delA_at {E : Int → Int} {p q b : Int} : delA E p q b = if p ≤ b ∧ b < q then E (b + 1) else E b := rfl
theorem out_o {E : Int → Int} {f k c g j : Int} (hk : 0 ≤ k) (hc : c ≤ 10) (hg : g ≠ f) (hj : 0 ≤ j) (hj9 : j < 10) : delA E (10 * f + k) (10 * f + c - 1) (10 * g + j) = E (10 * g + j) := if_neg (by omega)
theorem out_s {E : Int → Int} {f k c j : Int} (hj : j < c - 1) : delA E (10 * f + k) (10 * f + c - 1) (10 * f + j) = if j < k then E (10 * f + j) else E (10 * f + (j + 1)) := by
  unfold delA
  by_cases h : j < k
  · rw [if_pos h, if_neg (by omega)]
  · rw [if_neg h, if_pos (by omega), show 10 * f + j + 1 = 10 * f + (j + 1) by omega]
theorem in_o {E : Int → Int} {f k c g j v : Int} (hk : 0 ≤ k) (hkc : k ≤ c) (hc : c < 10) (hg : g ≠ f) (hj : 0 ≤ j) (hj9 : j < 10) : insA E (10 * f + k) (10 * f + c) v (10 * g + j) = E (10 * g + j) := by
  unfold insA
  rw [ud_n (by omega)]
  exact if_neg (by omega)
theorem in_s {E : Int → Int} {f k c j v : Int} (hj : j ≤ c) : insA E (10 * f + k) (10 * f + c) v (10 * f + j) = if j < k then E (10 * f + j) else if j = k then v else E (10 * f + (j - 1)) := by
  unfold insA
  by_cases h : j < k
  · rw [if_pos h, ud_n (by omega)]
    exact if_neg (by omega)
  · rw [if_neg h]
    by_cases h2 : j = k
    · rw [if_pos h2, h2, ud_s]
    · rw [if_neg h2, ud_n (by omega)]
      unfold shA
      rw [if_pos (by omega), show 10 * f + j - 1 = 10 * f + (j - 1) by omega]
theorem Leq_out {L M : gL} (h : Leq L M) (hN : okN L.1) {f k : Int} (f0 : 0 ≤ f) (f8 : f < 8) (hk : 0 ≤ k) : Leq (outL L f k) (outL M f k) := fun g g0 g8 => by
  obtain ⟨h1, h2⟩ := h g g0 g8
  have hf := h f f0 f8
  have hn := hN g g0 g8
  by_cases e : g = f
  · subst e
    refine ⟨by show ud L.1 g _ g = ud M.1 g _ g; rw [ud_s, ud_s, h1], fun j j0 j1 => ?_⟩
    have j1 : j < ud L.1 g (L.1 g - 1) g := j1
    rw [ud_s] at j1
    show delA L.2.1 _ _ _ = delA M.2.1 _ _ _ ∧ delA L.2.2 _ _ _ = delA M.2.2 _ _ _
    rw [← h1, out_s j1, out_s j1, out_s j1, out_s j1]
    have a1 := h2 j j0 (by omega)
    have a2 := h2 (j + 1) (by omega) (by omega)
    rw [a1.1, a1.2, a2.1, a2.2]
    exact ⟨rfl, rfl⟩
  · refine ⟨by show ud L.1 f _ g = ud M.1 f _ g; rw [ud_n e, ud_n e, h1], fun j j0 j1 => ?_⟩
    have j1 : j < ud L.1 f (L.1 f - 1) g := j1
    rw [ud_n e] at j1
    show delA L.2.1 _ _ _ = delA M.2.1 _ _ _ ∧ delA L.2.2 _ _ _ = delA M.2.2 _ _ _
    have hnf := hN f f0 f8
    rw [← hf.1, out_o hk (by omega) e j0 (by omega), out_o hk (by omega) e j0 (by omega), out_o hk (by omega) e j0 (by omega), out_o hk (by omega) e j0 (by omega)]
    exact h2 j j0 j1
theorem Leq_in {L M : gL} (h : Leq L M) (hN : okN L.1) {f k a b : Int} (f0 : 0 ≤ f) (f8 : f < 8) (hk : 0 ≤ k) (hkc : k ≤ L.1 f) (hc : L.1 f < 10) : Leq (inL L f k a b) (inL M f k a b) := fun g g0 g8 => by
  obtain ⟨h1, h2⟩ := h g g0 g8
  have hf := h f f0 f8
  have hn := hN g g0 g8
  by_cases e : g = f
  · subst e
    refine ⟨by show ud L.1 g _ g = ud M.1 g _ g; rw [ud_s, ud_s, h1], fun j j0 j1 => ?_⟩
    have j1 : j < ud L.1 g (L.1 g + 1) g := j1
    rw [ud_s] at j1
    show insA L.2.1 _ _ _ _ = insA M.2.1 _ _ _ _ ∧ insA L.2.2 _ _ _ _ = insA M.2.2 _ _ _ _
    rw [← h1, in_s (by omega), in_s (by omega), in_s (by omega), in_s (by omega)]
    by_cases q1 : j < k
    · rw [if_pos q1, if_pos q1, if_pos q1, if_pos q1]
      exact h2 j j0 (by omega)
    · rw [if_neg q1, if_neg q1, if_neg q1, if_neg q1]
      by_cases q2 : j = k
      · rw [if_pos q2, if_pos q2, if_pos q2, if_pos q2]
        exact ⟨rfl, rfl⟩
      · rw [if_neg q2, if_neg q2, if_neg q2, if_neg q2]
        exact h2 (j - 1) (by omega) (by omega)
  · refine ⟨by show ud L.1 f _ g = ud M.1 f _ g; rw [ud_n e, ud_n e, h1], fun j j0 j1 => ?_⟩
    have j1 : j < ud L.1 f (L.1 f + 1) g := j1
    rw [ud_n e] at j1
    show insA L.2.1 _ _ _ _ = insA M.2.1 _ _ _ _ ∧ insA L.2.2 _ _ _ _ = insA M.2.2 _ _ _ _
    rw [← hf.1, in_o hk hkc hc e j0 (by omega), in_o hk hkc hc e j0 (by omega), in_o hk hkc hc e j0 (by omega), in_o hk hkc hc e j0 (by omega)]
    exact h2 j j0 j1
theorem out_in {L : gL} (hN : okN L.1) {f k a b : Int} (f0 : 0 ≤ f) (f8 : f < 8) (hk : 0 ≤ k) (hkc : k ≤ L.1 f) (hc : L.1 f < 10) : Leq (outL (inL L f k a b) f k) L := fun g g0 g8 => by
  have hn := hN g g0 g8
  by_cases e : g = f
  · subst e
    refine ⟨by show ud (ud L.1 g _) g (ud L.1 g _ g - 1) g = _; rw [ud_s, ud_s]; omega, fun j j0 j1 => ?_⟩
    have j1 : j < ud (ud L.1 g (L.1 g + 1)) g (ud L.1 g (L.1 g + 1) g - 1) g := j1
    rw [ud_s, ud_s] at j1
    show delA (insA L.2.1 _ _ _) _ (10 * g + ud L.1 g (L.1 g + 1) g - 1) _ = _ ∧ delA (insA L.2.2 _ _ _) _ (10 * g + ud L.1 g (L.1 g + 1) g - 1) _ = _
    rw [ud_s, out_s (by omega), out_s (by omega), in_s (by omega), in_s (by omega), in_s (by omega), in_s (by omega)]
    by_cases q1 : j < k
    · rw [if_pos q1, if_pos q1, if_pos q1, if_pos q1]; exact ⟨rfl, rfl⟩
    · rw [if_neg q1, if_neg q1, if_neg (by omega), if_neg (by omega), if_neg (by omega), if_neg (by omega), show j + 1 - 1 = j by omega]; exact ⟨rfl, rfl⟩
  · refine ⟨by show ud (ud L.1 f _) f _ g = _; rw [ud_n e, ud_n e], fun j j0 j1 => ?_⟩
    have j1 : j < ud (ud L.1 f (L.1 f + 1)) f (ud L.1 f (L.1 f + 1) f - 1) g := j1
    rw [ud_n e, ud_n e] at j1
    show delA (insA L.2.1 _ _ _) _ (10 * f + ud L.1 f (L.1 f + 1) f - 1) _ = _ ∧ delA (insA L.2.2 _ _ _) _ (10 * f + ud L.1 f (L.1 f + 1) f - 1) _ = _
    rw [ud_s, out_o hk (by omega) e j0 (by omega), out_o hk (by omega) e j0 (by omega), in_o hk hkc hc e j0 (by omega), in_o hk hkc hc e j0 (by omega)]
    exact ⟨rfl, rfl⟩
theorem in_out {L : gL} (hN : okN L.1) {f k : Int} (f0 : 0 ≤ f) (f8 : f < 8) (hk : 0 ≤ k) (hkc : k < L.1 f) : Leq (inL (outL L f k) f k (L.2.1 (10 * f + k)) (L.2.2 (10 * f + k))) L := fun g g0 g8 => by
  have hn := hN g g0 g8
  have hc := (hN f f0 f8).2
  by_cases e : g = f
  · subst e
    refine ⟨by show ud (ud L.1 g _) g (ud L.1 g _ g + 1) g = _; rw [ud_s, ud_s]; omega, fun j j0 j1 => ?_⟩
    have j1 : j < ud (ud L.1 g (L.1 g - 1)) g (ud L.1 g (L.1 g - 1) g + 1) g := j1
    rw [ud_s, ud_s] at j1
    show insA (delA L.2.1 _ _) _ (10 * g + ud L.1 g (L.1 g - 1) g) _ _ = _ ∧ insA (delA L.2.2 _ _) _ (10 * g + ud L.1 g (L.1 g - 1) g) _ _ = _
    rw [ud_s, in_s (by omega), in_s (by omega)]
    by_cases q1 : j < k
    · rw [if_pos q1, if_pos q1, out_s (by omega), out_s (by omega), if_pos q1, if_pos q1]; exact ⟨rfl, rfl⟩
    · rw [if_neg q1, if_neg q1]
      by_cases q2 : j = k
      · rw [if_pos q2, if_pos q2, q2]; exact ⟨rfl, rfl⟩
      · rw [if_neg q2, if_neg q2, out_s (by omega), out_s (by omega), if_neg (by omega), if_neg (by omega), show j - 1 + 1 = j by omega]; exact ⟨rfl, rfl⟩
  · refine ⟨by show ud (ud L.1 f _) f _ g = _; rw [ud_n e, ud_n e], fun j j0 j1 => ?_⟩
    have j1 : j < ud (ud L.1 f (L.1 f - 1)) f (ud L.1 f (L.1 f - 1) f + 1) g := j1
    rw [ud_n e, ud_n e] at j1
    show insA (delA L.2.1 _ _) _ (10 * f + ud L.1 f (L.1 f - 1) f) _ _ = _ ∧ insA (delA L.2.2 _ _) _ (10 * f + ud L.1 f (L.1 f - 1) f) _ _ = _
    rw [ud_s, in_o hk (by omega) (by omega) e j0 (by omega), in_o hk (by omega) (by omega) e j0 (by omega), out_o hk (by omega) e j0 (by omega), out_o hk (by omega) e j0 (by omega)]
    exact ⟨rfl, rfl⟩
/-! good lines stay good -/
theorem gd_in {nf : Int} {L : gL} (g : gdL nf L) {f a b : Int} (f0 : 0 ≤ f) (f8 : f < nf) (hnf : nf ≤ 8) (hc : L.1 f < 10) (ha : 0 ≤ a ∧ a < 24) (hb : 0 ≤ b ∧ b < 24) (hua : ∀ q : Int, 0 ≤ q → q < 8 → hasL L q a → q = f) (hub : ∀ q : Int, 0 ≤ q → q < 8 → hasL L q b → q = f) : gdL nf (inL L f (L.1 f) a b) := by
  obtain ⟨gN, gE, gO, gz, gu⟩ := g
  have hn := gN f f0 (by omega)
  have slot : ∀ (E : Int → Int) (v q j : Int), 0 ≤ q → q < 8 → 0 ≤ j → j < (inL L f (L.1 f) a b).1 q → (q = f ∧ j = L.1 f ∧ insA E (10 * f + L.1 f) (10 * f + L.1 f) v (10 * q + j) = v) ∨ (j < L.1 q ∧ insA E (10 * f + L.1 f) (10 * f + L.1 f) v (10 * q + j) = E (10 * q + j)) := by
    intro E v q j q0 q8 j0 j1
    have j1 : j < ud L.1 f (L.1 f + 1) q := j1
    by_cases e : q = f
    · subst e
      rw [ud_s] at j1
      rw [in_s (by omega)]
      by_cases h : j < L.1 q
      · right; exact ⟨h, by rw [if_pos h]⟩
      · left; exact ⟨rfl, by omega, by rw [if_neg h, if_pos (by omega)]⟩
    · rw [ud_n e] at j1
      have := gN q q0 q8
      right; exact ⟨j1, in_o (by omega) (by omega) hc e j0 (by omega)⟩
  have has : ∀ q z : Int, 0 ≤ q → q < 8 → hasL (inL L f (L.1 f) a b) q z → hasL L q z ∨ (q = f ∧ (z = a ∨ z = b)) := by
    rintro q z q0 q8 ⟨k, k0, k1, k2⟩
    rcases slot L.2.1 a q k q0 q8 k0 k1 with ⟨e1, e2, e3⟩ | ⟨e1, e2⟩
    · rcases slot L.2.2 b q k q0 q8 k0 k1 with ⟨d1, d2, d3⟩ | ⟨d1, d2⟩
      · right
        refine ⟨e1, ?_⟩
        rcases k2 with k2 | k2
        · left; rw [← k2]; exact e3
        · right; rw [← k2]; exact d3
      · subst e1; omega
    · rcases slot L.2.2 b q k q0 q8 k0 k1 with ⟨d1, d2, d3⟩ | ⟨d1, d2⟩
      · subst d1; omega
      · left
        refine ⟨k, k0, e1, ?_⟩
        rcases k2 with k2 | k2
        · left; rw [← k2]; exact e2.symm
        · right; rw [← k2]; exact d2.symm
  refine ⟨fun q q0 q8 => ?_, fun q j q0 q8 j0 j1 => ?_, fun q j q0 q8 j0 j1 => ?_, fun q q0 q8 => ?_, fun q r z q0 q8 r0 r8 h1 h2 => ?_⟩
  · show 0 ≤ ud L.1 f _ q ∧ ud L.1 f _ q ≤ 10
    by_cases e : q = f
    · subst e; rw [ud_s]; omega
    · rw [ud_n e]; exact gN q q0 q8
  · show 0 ≤ insA _ _ _ _ _ ∧ insA _ _ _ _ _ < 24
    rcases slot L.2.1 a q j q0 q8 j0 j1 with ⟨_, _, e3⟩ | ⟨e1, e2⟩
    · rw [e3]; exact ha
    · rw [e2]; exact gE q j q0 q8 j0 e1
  · show 0 ≤ insA _ _ _ _ _ ∧ insA _ _ _ _ _ < 24
    rcases slot L.2.2 b q j q0 q8 j0 j1 with ⟨_, _, e3⟩ | ⟨e1, e2⟩
    · rw [e3]; exact hb
    · rw [e2]; exact gO q j q0 q8 j0 e1
  · show ud L.1 f _ q = 0
    rw [ud_n (by omega)]; exact gz q q0 q8
  · have h1 := has q z q0 q8 h1
    have h2 := has r z r0 r8 h2
    have own : ∀ x : Int, 0 ≤ x → x < 8 → hasL L x z → (z = a ∨ z = b) → x = f := by
      rintro x x0 x8 hx (rfl | rfl)
      · exact hua x x0 x8 hx
      · exact hub x x0 x8 hx
    rcases h1 with h1 | ⟨h1, h3⟩
    · rcases h2 with h2 | ⟨h2, h4⟩
      · exact gu q r z q0 q8 r0 r8 h1 h2
      · rw [h2]; exact own q q0 q8 h1 h4
    · rcases h2 with h2 | ⟨h2, h4⟩
      · rw [h1]; exact (own r r0 r8 h2 h3).symm
      · rw [h1, h2]
theorem gd_out {nf : Int} {L : gL} (g : gdL nf L) {f k : Int} (f0 : 0 ≤ f) (f8 : f < nf) (hnf : nf ≤ 8) (hk : 0 ≤ k) (hkc : k < L.1 f) : gdL nf (outL L f k) := by
  obtain ⟨gN, gE, gO, gz, gu⟩ := g
  have hn := gN f f0 (by omega)
  have slot : ∀ (q j : Int), 0 ≤ q → q < 8 → 0 ≤ j → j < (outL L f k).1 q → ∃ i : Int, 0 ≤ i ∧ i < L.1 q ∧ (outL L f k).2.1 (10 * q + j) = L.2.1 (10 * q + i) ∧ (outL L f k).2.2 (10 * q + j) = L.2.2 (10 * q + i) := by
    intro q j q0 q8 j0 j1
    have j1 : j < ud L.1 f (L.1 f - 1) q := j1
    by_cases e : q = f
    · subst e
      rw [ud_s] at j1
      by_cases h : j < k
      · exact ⟨j, j0, by omega, by show delA _ _ _ _ = _; rw [out_s j1, if_pos h], by show delA _ _ _ _ = _; rw [out_s j1, if_pos h]⟩
      · exact ⟨j + 1, by omega, by omega, by show delA _ _ _ _ = _; rw [out_s j1, if_neg h], by show delA _ _ _ _ = _; rw [out_s j1, if_neg h]⟩
    · rw [ud_n e] at j1
      have := gN q q0 q8
      exact ⟨j, j0, j1, out_o hk (by omega) e j0 (by omega), out_o hk (by omega) e j0 (by omega)⟩
  have has : ∀ q z : Int, 0 ≤ q → q < 8 → hasL (outL L f k) q z → hasL L q z := by
    rintro q z q0 q8 ⟨j, j0, j1, j2⟩
    obtain ⟨i, i0, i1, i2, i3⟩ := slot q j q0 q8 j0 j1
    exact ⟨i, i0, i1, by rw [← i2, ← i3]; exact j2⟩
  refine ⟨fun q q0 q8 => ?_, fun q j q0 q8 j0 j1 => ?_, fun q j q0 q8 j0 j1 => ?_, fun q q0 q8 => ?_, fun q r z q0 q8 r0 r8 h1 h2 => gu q r z q0 q8 r0 r8 (has q z q0 q8 h1) (has r z r0 r8 h2)⟩
  · show 0 ≤ ud L.1 f _ q ∧ ud L.1 f _ q ≤ 10
    by_cases e : q = f
    · subst e; rw [ud_s]; omega
    · rw [ud_n e]; exact gN q q0 q8
  · obtain ⟨i, i0, i1, i2, _⟩ := slot q j q0 q8 j0 j1
    rw [i2]; exact gE q i q0 q8 i0 i1
  · obtain ⟨i, i0, i1, _, i3⟩ := slot q j q0 q8 j0 j1
    rw [i3]; exact gO q i q0 q8 i0 i1
  · show ud L.1 f _ q = 0
    rw [ud_n (by omega)]; exact gz q q0 q8
theorem ow_of {nf : Int} {L : gL} (g : gdL nf L) (hnf : 0 ≤ nf ∧ nf ≤ 8) {f a : Int} (h : laI nf L.1 L.2.1 L.2.2 a = -1 ∨ laI nf L.1 L.2.1 L.2.2 a = f) : ∀ q : Int, 0 ≤ q → q < 8 → hasL L q a → q = f := by
  obtain ⟨gN, gE, gO, gz, gu⟩ := g
  intro q q0 q8 hq
  have hqn : q < nf := by
    by_cases e : nf ≤ q
    · obtain ⟨k, k0, k1, _⟩ := hq
      have := gz q e q8
      omega
    · omega
  have key : ∀ (k : Nat) (i b : Int), 0 ≤ i → i + k ≤ 8 → i ≤ q → q < i + k → lpF (laQ L.1 L.2.1 L.2.2 a) k i b = q := by
    intro k
    induction k with
    | zero => intro i b _ _ h1 h2; omega
    | succ m ih =>
      intro i b i0 i8 h1 h2
      show lpF (laQ L.1 L.2.1 L.2.2 a) m (i + 1) (laQ L.1 L.2.1 L.2.2 a i b) = q
      by_cases e : i = q
      · subst e
        have e1 : laQ L.1 L.2.1 L.2.2 a i b = i := if_pos ((hs_iff (gN i q0 q8).1).mpr hq)
        rw [e1]
        exact lpF_inv (P := fun y => y = i) (lo := i + 1) (hi := i + 1 + m) (fun j y j0 j1 hy => by
          show laQ L.1 L.2.1 L.2.2 a j y = i
          rw [hy]
          refine if_neg (fun hj => ?_)
          have := gu i j a q0 q8 (by omega) (by omega) hq ((hs_iff (gN j (by omega) (by omega)).1).mp hj)
          omega) m (i + 1) i (Int.le_refl _) (Int.le_refl _) rfl
      · exact ih (i + 1) _ (by omega) (by omega) (by omega) (by omega)
  have hl : laI nf L.1 L.2.1 L.2.2 a = q := key nf.toNat 0 (-1) (by omega) (by omega) q0 (by omega)
  omega
theorem ow_eq {nf : Int} {L : gL} (g : gdL nf L) (hnf : 0 ≤ nf ∧ nf ≤ 8) (a : Int) : owI nf L.1 L.2.1 L.2.2 a = laI nf L.1 L.2.1 L.2.2 a := by
  obtain ⟨gN, gE, gO, gz, gu⟩ := g
  unfold owI laI
  rw [ow_la nf.toNat 0 (-1) (Int.le_refl _) (fun f q h0 h1 h2 h3 h4 h5 => gu f q a h0 (by omega) h2 (by omega) ((hs_iff (gN f h0 (by omega)).1).mp h4) ((hs_iff (gN q h2 (by omega)).1).mp h5))]
  split
  · rename_i h; exact h
  · rfl
/-! ===== the book of changes: each depth of undo is good ===== -/
def bkL (W : Int → Int) (k : Nat) (L : gL) : gL :=
  if W (5 * k) = 1 then outL L (W (5 * k + 1)) (W (5 * k + 2)) else if W (5 * k) = 2 then inL L (W (5 * k + 1)) (W (5 * k + 2)) (W (5 * k + 3)) (W (5 * k + 4)) else L
def rwOk (nf : Int) (W : Int → Int) (k : Nat) (L : gL) : Prop :=
  (W (5 * k) = 0 ∧ (0 ≤ W (5 * k + 1) ∧ W (5 * k + 1) < 24) ∧ (0 ≤ W (5 * k + 2) ∧ W (5 * k + 2) < 360) ∧ (-90 ≤ W (5 * k + 3) ∧ W (5 * k + 3) ≤ 90)) ∨
  (W (5 * k) = 1 ∧ (0 ≤ W (5 * k + 1) ∧ W (5 * k + 1) < nf) ∧ (0 ≤ W (5 * k + 2) ∧ W (5 * k + 2) < L.1 (W (5 * k + 1)))) ∨
  (W (5 * k) = 2 ∧ (0 ≤ W (5 * k + 1) ∧ W (5 * k + 1) < nf) ∧ (0 ≤ W (5 * k + 2) ∧ W (5 * k + 2) ≤ L.1 (W (5 * k + 1))) ∧ L.1 (W (5 * k + 1)) < 10)
def okU (nf : Int) (W : Int → Int) : Nat → gL → Prop
  | 0, L => gdL nf L
  | k + 1, L => gdL nf L ∧ rwOk nf W k L ∧ okU nf W k (bkL W k L)
theorem okU_g {nf : Int} {W : Int → Int} : ∀ {k : Nat} {L : gL}, okU nf W k L → gdL nf L
  | 0, _, h => h
  | _ + 1, _, h => h.1
theorem rw_leq {nf : Int} {W : Int → Int} {k : Nat} {L M : gL} (hnf : nf ≤ 8) (h : Leq L M) (r : rwOk nf W k L) : rwOk nf W k M := by
  rcases r with r | ⟨r1, r2, r3⟩ | ⟨r1, r2, r3, r4⟩
  · exact Or.inl r
  · have e := (h _ r2.1 (by omega)).1
    exact Or.inr (Or.inl ⟨r1, r2, by omega⟩)
  · have e := (h _ r2.1 (by omega)).1
    exact Or.inr (Or.inr ⟨r1, r2, by omega, by omega⟩)
theorem bk_leq {nf : Int} {W : Int → Int} {k : Nat} {L M : gL} (hnf : nf ≤ 8) (hN : okN L.1) (h : Leq L M) (r : rwOk nf W k L) : Leq (bkL W k L) (bkL W k M) := by
  unfold bkL
  rcases r with r | ⟨r1, r2, r3⟩ | ⟨r1, r2, r3, r4⟩
  · rw [if_neg (by omega), if_neg (by omega), if_neg (by omega), if_neg (by omega)]; exact h
  · rw [if_pos r1, if_pos r1]; exact Leq_out h hN r2.1 (by omega) r3.1
  · rw [if_neg (by omega), if_pos r1, if_neg (by omega), if_pos r1]; exact Leq_in h hN r2.1 (by omega) r3.1 r3.2 r4
theorem okU_leq {nf : Int} {W : Int → Int} (hnf : 0 ≤ nf ∧ nf ≤ 8) : ∀ {k : Nat} {L M : gL}, Leq L M → okU nf W k L → okU nf W k M
  | 0, _, _, h, g => Leq_gd hnf.1 h g
  | _ + 1, _, _, h, g => ⟨Leq_gd hnf.1 h g.1, rw_leq hnf.2 h g.2.1, okU_leq hnf (bk_leq hnf.2 g.1.1 h g.2.1) g.2.2⟩
theorem okU_ext {nf : Int} {W W' : Int → Int} : ∀ {k : Nat} {L : gL}, (∀ j : Int, 0 ≤ j → j < 5 * k → W j = W' j) → okU nf W k L → okU nf W' k L
  | 0, _, _, g => g
  | k + 1, L, h, g => by
    have e0 := h (5 * k) (by omega) (by omega)
    have e1 := h (5 * k + 1) (by omega) (by omega)
    have e2 := h (5 * k + 2) (by omega) (by omega)
    have e3 := h (5 * k + 3) (by omega) (by omega)
    have e4 := h (5 * k + 4) (by omega) (by omega)
    refine ⟨g.1, ?_, ?_⟩
    · have := g.2.1
      unfold rwOk at this ⊢
      rw [← e0, ← e1, ← e2, ← e3]; exact this
    · have := okU_ext (fun j a b => h j a (by omega)) g.2.2
      unfold bkL at this ⊢
      rw [← e0, ← e1, ← e2, ← e3, ← e4]; exact this
theorem okU_sh {nf : Int} {W W' : Int → Int} : ∀ {k : Nat} {L : gL}, (∀ j : Int, 0 ≤ j → j < 5 * k → W' j = W (j + 5)) → okU nf W (k + 1) L → okU nf W' k L
  | 0, _, _, g => g.1
  | k + 1, L, h, g => by
    have c : ∀ c : Int, (5 * ((k + 1 : Nat) : Int)) + c = 5 * k + c + 5 := fun c => by omega
    have c0 : (5 * ((k + 1 : Nat) : Int)) = 5 * k + 5 := by omega
    have e0 := h (5 * k) (by omega) (by omega)
    have e1 := h (5 * k + 1) (by omega) (by omega)
    have e2 := h (5 * k + 2) (by omega) (by omega)
    have e3 := h (5 * k + 3) (by omega) (by omega)
    have e4 := h (5 * k + 4) (by omega) (by omega)
    refine ⟨g.1, ?_, ?_⟩
    · have := g.2.1
      unfold rwOk at this ⊢
      rw [e0, e1, e2, e3]
      rw [c, c, c, c0] at this; exact this
    · refine okU_sh (fun j a b => h j a (by omega)) (L := bkL W' k L) (W := W) ?_
      have := g.2.2
      have e : bkL W' k L = bkL W (k + 1) L := by
        unfold bkL
        rw [e0, e1, e2, e3, e4, c, c, c, c, c0]
      rw [e]; exact this
theorem gd_nf {nf nf' : Int} {L : gL} (h : nf ≤ nf') (g : gdL nf L) : gdL nf' L := ⟨g.1, g.2.1, g.2.2.1, fun f h0 h8 => g.2.2.2.1 f (by omega) h8, g.2.2.2.2⟩
theorem okU_nf {nf nf' : Int} {W : Int → Int} (h : nf ≤ nf') : ∀ {k : Nat} {L : gL}, okU nf W k L → okU nf' W k L
  | 0, _, g => gd_nf h g
  | _ + 1, _, g => ⟨gd_nf h g.1, by
    rcases g.2.1 with r | ⟨r1, r2, r3⟩ | ⟨r1, r2, r3⟩
    · exact Or.inl r
    · exact Or.inr (Or.inl ⟨r1, by omega, r3⟩)
    · exact Or.inr (Or.inr ⟨r1, by omega, r3⟩), okU_nf h g.2.2⟩
/-- a change is written down: rows after ntS -/
def ntW (S : gSt) (w a b x y : Int) : Int → Int := ntS S w a b x y 32
theorem nt_13 (S : gSt) (w a b x y : Int) : ntS S w a b x y 23 13 = (if S 23 13 = 30 then 29 else S 23 13) + 1 := rfl
theorem nt_32 (S : gSt) (w a b x y j : Int) (n : Int) (hn : n = if S 23 13 = 30 then 29 else S 23 13) : ntS S w a b x y 32 j = if j = 5 * n + 4 then y else if j = 5 * n + 3 then x else if j = 5 * n + 2 then b else if j = 5 * n + 1 then a else if j = 5 * n then w else (if S 23 13 = 30 then shI 145 (S 32) else S 32) j := by
  have : ntS S w a b x y 32 j = ud (ud (ud (ud (ud (if S 23 13 = 30 then shI 145 (S 32) else S 32) (5 * n) w) (5 * n + 1) a) (5 * n + 2) b) (5 * n + 3) x) (5 * n + 4) y j := by rw [hn]; rfl
  rw [this]
  rfl
theorem okU_put {nf : Int} {S : gSt} {L M : gL} {w a b x y : Int} (hnf : 0 ≤ nf ∧ nf ≤ 8) (hd : 0 ≤ S 23 13 ∧ S 23 13 ≤ 30) (g : okU nf (S 32) (S 23 13).toNat L) (gM : gdL nf M)
    (hr : ∀ (W : Int → Int) (k : Nat), W (5 * k) = w → W (5 * k + 1) = a → W (5 * k + 2) = b → W (5 * k + 3) = x → W (5 * k + 4) = y → rwOk nf W k M ∧ Leq L (bkL W k M)) : okU nf (ntS S w a b x y 32) ((ntS S w a b x y 23 13).toNat) M := by
  rw [nt_13]
  obtain ⟨n, hn⟩ : ∃ n : Int, n = if S 23 13 = 30 then 29 else S 23 13 := ⟨_, rfl⟩
  have hn2 : 0 ≤ n ∧ n ≤ 29 := by rw [hn]; split <;> omega
  rw [← hn, show (n + 1).toNat = n.toNat + 1 by omega]
  have hW := fun j => nt_32 S w a b x y j n hn
  have hN : ((n.toNat : Nat) : Int) = n := by omega
  have R := hr (ntS S w a b x y 32) n.toNat
    (by rw [hN, hW, if_neg (by omega), if_neg (by omega), if_neg (by omega), if_neg (by omega), if_pos rfl])
    (by rw [hN, hW, if_neg (by omega), if_neg (by omega), if_neg (by omega), if_pos rfl])
    (by rw [hN, hW, if_neg (by omega), if_neg (by omega), if_pos rfl])
    (by rw [hN, hW, if_neg (by omega), if_pos rfl])
    (by rw [hN, hW, if_pos rfl])
  refine ⟨gM, R.1, okU_leq hnf R.2 ?_⟩
  by_cases h30 : S 23 13 = 30
  · rw [if_pos h30] at hn
    have g : okU nf (S 32) (29 + 1) L := by rw [h30] at g; exact g
    rw [show n.toNat = 29 by omega]
    refine okU_sh (fun j j0 j1 => ?_) g
    rw [hW, if_neg (by omega), if_neg (by omega), if_neg (by omega), if_neg (by omega), if_neg (by omega), if_pos h30]
    exact if_pos (by omega)
  · rw [if_neg h30] at hn
    rw [hn]
    refine okU_ext (fun j j0 j1 => ?_) g
    rw [hW, if_neg (by omega), if_neg (by omega), if_neg (by omega), if_neg (by omega), if_neg (by omega), if_neg h30]
/-- the ring of the class and the rows of the reference -/
def hsC (K A B U X : Int → Int) (W : Int → Int) (r i : Int) : Prop := K r = W (5 * i) ∧ A r = W (5 * i + 1) ∧
  ((W (5 * i) = 0 ∧ U r = W (5 * i + 2) ∧ X r = W (5 * i + 3)) ∨ (W (5 * i) ≠ 0 ∧ B r = W (5 * i + 2) ∧ U r = W (5 * i + 3) ∧ X r = W (5 * i + 4)))
def hisC (nx : Int) (d : Int) (K A B U X W : Int → Int) : Prop := ∀ i : Int, 0 ≤ i → i < d → hsC K A B U X W ((nx - d + i) % 30) i
theorem his_put {S T : gSt} {a b v u w w1 a1 b1 x1 y1 : Int} (h0 : 0 ≤ S 17 0 ∧ S 17 0 < 30) (hk : S 17 1 = T 23 13) (hd : 0 ≤ T 23 13 ∧ T 23 13 ≤ 30) (h : hisC (S 17 0) (T 23 13) (S 18) (S 19) (S 20) (S 21) (S 22) (T 32))
    (hrow : w1 = a ∧ a1 = b ∧ ((w1 = 0 ∧ u = b1 ∧ w = x1) ∨ (w1 ≠ 0 ∧ v = b1 ∧ u = x1 ∧ w = y1))) :
    hisC (kpS S a b v u w 17 0) (ntS T w1 a1 b1 x1 y1 23 13) (kpS S a b v u w 18) (kpS S a b v u w 19) (kpS S a b v u w 20) (kpS S a b v u w 21) (kpS S a b v u w 22) (ntS T w1 a1 b1 x1 y1 32) ∧ kpS S a b v u w 17 1 = ntS T w1 a1 b1 x1 y1 23 13 ∧ (0 ≤ kpS S a b v u w 17 0 ∧ kpS S a b v u w 17 0 < 30) ∧ (0 ≤ ntS T w1 a1 b1 x1 y1 23 13 ∧ ntS T w1 a1 b1 x1 y1 23 13 ≤ 30) := by
  have e0 : kpS S a b v u w 17 0 = (S 17 0 + 1) % 30 := rfl
  have e1 : kpS S a b v u w 17 1 = min (S 17 1 + 1) 30 := rfl
  obtain ⟨n, hn⟩ : ∃ n : Int, n = if T 23 13 = 30 then 29 else T 23 13 := ⟨_, rfl⟩
  have hn3 : n = 29 ∧ T 23 13 = 30 ∨ n = T 23 13 ∧ T 23 13 < 30 := by rw [hn]; split <;> omega
  have e2 : ntS T w1 a1 b1 x1 y1 23 13 = n + 1 := by rw [nt_13, hn]
  have hW := fun j => nt_32 T w1 a1 b1 x1 y1 j n hn
  refine ⟨fun i i0 i1 => ?_, by rw [e1, e2]; omega, by rw [e0]; omega, by rw [e2]; omega⟩
  rw [e2] at i1
  rw [e2, e0]
  unfold hsC
  show ud (S 18) (S 17 0) a _ = _ ∧ ud (S 19) (S 17 0) b _ = _ ∧ ((_ ∧ ud (S 21) (S 17 0) u _ = _ ∧ ud (S 22) (S 17 0) w _ = _) ∨ (_ ∧ ud (S 20) (S 17 0) v _ = _ ∧ ud (S 21) (S 17 0) u _ = _ ∧ ud (S 22) (S 17 0) w _ = _))
  by_cases hi : i = n
  · have er : ((S 17 0 + 1) % 30 - (n + 1) + i) % 30 = S 17 0 := by omega
    rw [er, ud_s, ud_s, ud_s, ud_s, ud_s, hi]
    rw [hW (5 * n), hW (5 * n + 1), hW (5 * n + 2), hW (5 * n + 3), hW (5 * n + 4)]
    rw [if_neg (by omega), if_neg (by omega), if_neg (by omega), if_neg (by omega), if_pos rfl, if_neg (by omega), if_neg (by omega), if_neg (by omega), if_pos rfl, if_neg (by omega), if_neg (by omega), if_pos rfl, if_neg (by omega), if_pos rfl, if_pos rfl]
    exact ⟨hrow.1.symm, hrow.2.1.symm, hrow.2.2⟩
  · have hi2 : i < n := by omega
    have er : ((S 17 0 + 1) % 30 - (n + 1) + i) % 30 ≠ S 17 0 := by omega
    rw [ud_n er, ud_n er, ud_n er, ud_n er, ud_n er]
    rw [hW (5 * i), hW (5 * i + 1), hW (5 * i + 2), hW (5 * i + 3), hW (5 * i + 4)]
    have cut : ∀ c : Int, 0 ≤ c → c ≤ 4 → ∀ z : Int, (if 5 * i + c = 5 * n + 4 then y1 else if 5 * i + c = 5 * n + 3 then x1 else if 5 * i + c = 5 * n + 2 then b1 else if 5 * i + c = 5 * n + 1 then a1 else if 5 * i + c = 5 * n then w1 else z) = z := fun c c0 c4 z => by
      rw [if_neg (by omega), if_neg (by omega), if_neg (by omega), if_neg (by omega), if_neg (by omega)]
    have cut0 := cut 0 (by omega) (by omega)
    rw [Int.add_zero] at cut0
    rw [cut0, cut 1 (by omega) (by omega), cut 2 (by omega) (by omega), cut 3 (by omega) (by omega), cut 4 (by omega) (by omega)]
    rcases hn3 with ⟨h1, h2⟩ | ⟨h1, h2⟩
    · have hh := h (i + 1) (by omega) (by omega)
      have sh : ∀ c : Int, 0 ≤ c → c ≤ 4 → (if T 23 13 = 30 then shI 145 (T 32) else T 32) (5 * i + c) = T 32 (5 * (i + 1) + c) := fun c c0 c4 => by
        rw [if_pos h2]
        unfold shI
        rw [if_pos (by omega), show 5 * i + c + 5 = 5 * (i + 1) + c by omega]
      have sh0 := sh 0 (by omega) (by omega)
      rw [Int.add_zero, Int.add_zero] at sh0
      rw [sh0, sh 1 (by omega) (by omega), sh 2 (by omega) (by omega), sh 3 (by omega) (by omega), sh 4 (by omega) (by omega)]
      rw [show ((S 17 0 + 1) % 30 - (n + 1) + i) % 30 = (S 17 0 - T 23 13 + (i + 1)) % 30 by omega]
      exact hh
    · have hh := h i (by omega) (by omega)
      rw [if_neg (by omega)]
      rw [show ((S 17 0 + 1) % 30 - (n + 1) + i) % 30 = (S 17 0 - T 23 13 + i) % 30 by omega]
      exact hh
