/-! ===== names given anew don't depend on what stood there ===== -/
theorem lpF_rel {α β : Type} {f : Int → α → α} {g : Int → β → β} {R : α → β → Prop} {lo hi : Int} (h : ∀ i a b, lo ≤ i → i < hi → R a b → R (f i a) (g i b)) : ∀ (k : Nat) (i : Int) (a : α) (b : β), lo ≤ i → i + k ≤ hi → R a b → R (lpF f k i a) (lpF g k i b)
  | 0, _, _, _, _, _, hr => hr
  | k + 1, i, a, b, h0, h1, hr => lpF_rel h k (i + 1) _ _ (by omega) (by omega) (h i a b h0 (by omega) hr)
theorem lpF_inv {α : Type} {f : Int → α → α} {P : α → Prop} {lo hi : Int} (h : ∀ i a, lo ≤ i → i < hi → P a → P (f i a)) : ∀ (k : Nat) (i : Int) (a : α), lo ≤ i → i + k ≤ hi → P a → P (lpF f k i a)
  | 0, _, _, _, _, hr => hr
  | k + 1, i, a, h0, h1, hr => lpF_inv h k (i + 1) _ (by omega) (by omega) (h i a h0 (by omega) hr)
def gnR8 (q q' : gnT) : Prop := q.2 = q'.2 ∧ ∀ j : Int, 0 ≤ j → j < 8 → q.1 j = q'.1 j
theorem giS_rel {T : Int → Int → Int} {v f : Int} (hf : 0 ≤ f ∧ f < 8) (n : Int) (q q' : gnT) (h : gnR8 q q') : gnR8 (giS T v f n q) (giS T v f n q') := by
  obtain ⟨h1, h2⟩ := h
  unfold giS
  rw [h2 f hf.1 hf.2, h1]
  by_cases hc : q'.1 f = -1 ∧ q'.2.testBit n.toNat = false ∧ T f n = v
  · rw [if_pos hc, if_pos hc]
    refine ⟨rfl, fun j h0 h8 => ?_⟩
    show ud q.1 f n j = ud q'.1 f n j
    unfold ud
    rw [h2 j h0 h8]
  · rw [if_neg hc, if_neg hc]
    exact ⟨h1, h2⟩
theorem giB_rel {T : Int → Int → Int} {nf : Int} (hn : nf ≤ 8) (k : Nat) (i : Int) (q q' : gnT) (h : gnR8 q q') : gnR8 (lpF (giB T nf) k i q) (lpF (giB T nf) k i q') := by
  refine lpF_rel (R := gnR8) (lo := i) (hi := i + k) (fun i a b _ _ hr => ?_) k i q q' (Int.le_refl _) (Int.le_refl _) h
  refine lpF_rel (R := gnR8) (lo := 0) (hi := 8) (fun f a b h0 h8 hr => ?_) nf.toNat 0 a b (Int.le_refl _) (by omega) hr
  exact lpF_rel (R := gnR8) (lo := 0) (hi := 10) (fun n a b _ _ hr => giS_rel ⟨h0, h8⟩ n a b hr) (10 : Int).toNat 0 a b (Int.le_refl _) (by decide) hr
theorem giB_out {T : Int → Int → Int} {nf : Int} (hn : nf ≤ 8) (G : Int → Int) (k : Nat) (i : Int) (q : gnT) (h : ∀ j : Int, ¬(0 ≤ j ∧ j < 8) → q.1 j = G j) : ∀ j : Int, ¬(0 ≤ j ∧ j < 8) → (lpF (giB T nf) k i q).1 j = G j := by
  refine lpF_inv (P := fun q : gnT => ∀ j : Int, ¬(0 ≤ j ∧ j < 8) → q.1 j = G j) (lo := i) (hi := i + k) (fun i a _ _ hr => ?_) k i q (Int.le_refl _) (Int.le_refl _) h
  refine lpF_inv (P := fun q : gnT => ∀ j : Int, ¬(0 ≤ j ∧ j < 8) → q.1 j = G j) (lo := 0) (hi := 8) (fun f a h0 h8 hr => ?_) nf.toNat 0 a (Int.le_refl _) (by omega) hr
  refine lpF_inv (P := fun q : gnT => ∀ j : Int, ¬(0 ≤ j ∧ j < 8) → q.1 j = G j) (lo := 0) (hi := 10) (fun n a _ _ hr => ?_) (10 : Int).toNat 0 a (Int.le_refl _) (by decide) hr
  intro j hj
  unfold giS
  split
  · show ud a.1 f n j = G j
    rw [ud_n (by omega)]
    exact hr j hj
  · exact hr j hj
theorem nmM_in {T : Int → Int → Int} {nf : Int} (hn : nf ≤ 8) (G G' : Int → Int) {j : Int} (h0 : 0 ≤ j) (h8 : j < 8) : nmM T nf G j = nmM T nf G' j :=
  (giB_rel (T := T) hn (6 : Int).toNat 0 (fillA 8 (-1) G, 0) (fillA 8 (-1) G', 0) ⟨rfl, fun j h0 h8 => by show fillA 8 (-1) G j = fillA 8 (-1) G' j; unfold fillA; rw [if_pos ⟨h0, h8⟩, if_pos ⟨h0, h8⟩]⟩).2 j h0 h8
theorem nmM_out {T : Int → Int → Int} {nf : Int} (hn : nf ≤ 8) (G : Int → Int) {j : Int} (h : ¬(0 ≤ j ∧ j < 8)) : nmM T nf G j = G j :=
  giB_out (T := T) hn G (6 : Int).toNat 0 (fillA 8 (-1) G, 0) (fun j hj => by show fillA 8 (-1) G j = G j; unfold fillA; rw [if_neg hj]) j h
theorem nmM_i {T : Int → Int → Int} {nf : Int} (hn : nf ≤ 8) (G : Int → Int) : nmM T nf (nmM T nf G) = nmM T nf G := by
  funext j
  by_cases h : 0 ≤ j ∧ j < 8
  · exact nmM_in hn _ _ h.1 h.2
  · exact nmM_out hn _ h
theorem gvM_n {S : gSt} {a : Nat} (h : a ≠ 30) : gvM S a = S a := sA_n h
theorem gvM_s (S : gSt) : gvM S 30 = nmM (vtI (S 29)) (S 23 7) (S 30) := sA_s _ _ _
theorem gvM_i {S : gSt} (hn : S 23 7 ≤ 8) : gvM (gvM S) = gvM S := by
  have h1 : gvM (gvM S) = sA (gvM S) 30 (nmM (vtI (S 29)) (S 23 7) (nmM (vtI (S 29)) (S 23 7) (S 30))) := by
    show sA (gvM S) 30 (nmM (vtI (gvM S 29)) (gvM S 23 7) (gvM S 30)) = _
    rw [gvM_n (by decide), gvM_n (by decide), gvM_s]
  rw [h1, nmM_i hn]
  unfold gvM
  rw [sA_sA]
theorem gvJ_n {S : gSt} {b : Bool} {a : Nat} (h : a ≠ 30) : gvJ S b a = S a := sA_n h
theorem gvJ_g {S : gSt} {b : Bool} (hn : S 23 7 ≤ 8) : gvM (gvJ S b) = gvM S := by
  cases b
  · rw [gvJ_0]
  · rw [gvJ_1]; exact gvM_i hn
theorem suM_J (S : gSt) (b : Bool) (i : Int) : suM (gvJ S b) i = suM S i := by
  unfold suM
  rw [gvJ_n (by decide), gvJ_n (by decide), gvJ_n (by decide), gvJ_n (by decide), gvJ_n (by decide), gvJ_n (by decide)]
theorem nmM_J {S : gSt} {b : Bool} (hn : S 23 7 ≤ 8) {j : Int} (h0 : 0 ≤ j) (h8 : j < 8) : nmM (vtI (S 29)) (S 23 7) (gvJ S b 30) j = nmM (vtI (S 29)) (S 23 7) (S 30) j := nmM_in hn _ _ h0 h8
theorem swM_J {S : gSt} {b : Bool} (hn : S 23 7 ≤ 8) {i : Int} (h : 0 ≤ S 31 (5 * i) ∧ S 31 (5 * i) < 8) : swM (gvJ S b) i = swM S i := by
  unfold swM
  rw [suM_J, gvJ_n (a := 29) (by decide), gvJ_n (a := 23) (by decide), gvJ_n (a := 31) (by decide), nmM_J hn h.1 h.2]
theorem gvJ_J {S : gSt} {b d : Bool} (hn : S 23 7 ≤ 8) : gvJ (gvJ S b) d = gvJ S (b || d) := by
  cases b <;> cases d
  · show gvJ (gvJ S false) false = gvJ S false
    rw [gvJ_0]
  · show gvJ (gvJ S false) true = gvJ S true
    rw [gvJ_0]
  · show gvJ (gvJ S true) false = gvJ S true
    rw [gvJ_0]
  · show gvM (gvM S) = gvM S
    exact gvM_i hn
theorem bt_test3 (k n : Nat) : k / 2 ^ n &&& 1 = 0 ↔ k.testBit n = false := by
  rw [Nat.and_one_is_mod]
  exact bt_test2 k n
theorem giS_0a {T : Int → Int → Int} {v f n : Int} {G : Int → Int} {k : Nat} (h : ¬ G f = -1) : giS T v f n (G, k) = (G, k) := if_neg (fun q => h q.1)
theorem giS_0b {T : Int → Int → Int} {v f n : Int} {G : Int → Int} {k : Nat} (h : ((k / 2 ^ n.toNat &&& 1 : Nat) : Int) ≠ 0) : giS T v f n (G, k) = (G, k) := if_neg (fun q => h (by rw [(bt_test3 k n.toNat).mpr q.2.1]; rfl))
theorem giS_0c {T : Int → Int → Int} {v f n : Int} {G : Int → Int} {k : Nat} (h : T f n ≠ v) : giS T v f n (G, k) = (G, k) := if_neg (fun q => h q.2.2)
theorem giS_1 {T : Int → Int → Int} {v f n : Int} {G : Int → Int} {k : Nat} (h : G f = -1) (h2 : ((k / 2 ^ n.toNat &&& 1 : Nat) : Int) = 0) (h3 : T f n = v) : giS T v f n (G, k) = (ud G f n, k ||| 2 ^ n.toNat) :=
  if_pos ⟨h, (bt_test3 k n.toNat).mp (by omega), h3⟩
theorem cmN_0a {a u e o : Int → Int} {f q k j b : Int} (h : crM a u e o k j = false) : cmN a u e o f q k j b = b := cnQ_0 (by show (_ && crM a u e o k j) = false; rw [h, Bool.and_false])
theorem cmN_0b {a u e o : Int → Int} {f q k j b : Int} (h : f = q) (h2 : j ≤ k) : cmN a u e o f q k j b = b := cnQ_0 (by
  show ((decide (f ≠ q) || decide (k < j)) && crM a u e o k j) = false
  rw [decide_eq_false (fun z => z h), decide_eq_false (Int.not_lt.mpr h2)]; rfl)
theorem cmN_1a {a u e o : Int → Int} {f q k j b : Int} (h : crM a u e o k j = true) (h2 : f ≠ q) : cmN a u e o f q k j b = b + 1 := cnQ_1 (by
  show ((decide (f ≠ q) || decide (k < j)) && crM a u e o k j) = true
  rw [h, decide_eq_true h2]; rfl)
theorem cmN_1b {a u e o : Int → Int} {f q k j b : Int} (h : crM a u e o k j = true) (h2 : k < j) : cmN a u e o f q k j b = b + 1 := cnQ_1 (by
  show ((decide (f ≠ q) || decide (k < j)) && crM a u e o k j) = true
  rw [h, decide_eq_true h2, Bool.or_true]; rfl)
def wrM (S : gSt) : Int := lpF (cnQ (swM S)) (S 23 11).toNat 0 0
def okV (V : Int → Int) : Prop := ∀ j : Int, 0 ≤ j → j < 48 → 0 ≤ V j ∧ V j ≤ 10
def okSh (W : Int → Int) : Prop := ∀ i : Int, 0 ≤ i → i < 12 → (0 ≤ W (5 * i) ∧ W (5 * i) < 8) ∧ (-90 ≤ W (5 * i + 1) ∧ W (5 * i + 1) ≤ 90) ∧ (0 ≤ W (5 * i + 2) ∧ W (5 * i + 2) < 365) ∧ (0 ≤ W (5 * i + 3) ∧ W (5 * i + 3) < 24) ∧ (-1 ≤ W (5 * i + 4) ∧ W (5 * i + 4) < 10)
theorem nmM_b {T : Int → Int → Int} {nf : Int} (hn : nf ≤ 8) (G : Int → Int) {j : Int} (h0 : 0 ≤ j) (h8 : j < 8) : -1 ≤ nmM T nf G j ∧ nmM T nf G j < 10 := by
  have hh : ∀ j : Int, 0 ≤ j → j < 8 → -1 ≤ (lpF (giB T nf) (6 : Int).toNat 0 (fillA 8 (-1) G, 0)).1 j ∧ (lpF (giB T nf) (6 : Int).toNat 0 (fillA 8 (-1) G, 0)).1 j < 10 := by
    refine lpF_inv (P := fun q : gnT => ∀ j : Int, 0 ≤ j → j < 8 → -1 ≤ q.1 j ∧ q.1 j < 10) (lo := 0) (hi := 6) (fun i a _ _ hr => ?_) (6 : Int).toNat 0 _ (Int.le_refl _) (by decide) (fun j h0 h8 => by show -1 ≤ fillA 8 (-1) G j ∧ fillA 8 (-1) G j < 10; unfold fillA; rw [if_pos ⟨h0, h8⟩]; omega)
    refine lpF_inv (P := fun q : gnT => ∀ j : Int, 0 ≤ j → j < 8 → -1 ≤ q.1 j ∧ q.1 j < 10) (lo := 0) (hi := 8) (fun f a h0 h8 hr => ?_) nf.toNat 0 a (Int.le_refl _) (by omega) hr
    refine lpF_inv (P := fun q : gnT => ∀ j : Int, 0 ≤ j → j < 8 → -1 ≤ q.1 j ∧ q.1 j < 10) (lo := 0) (hi := 10) (fun n a hn0 hn1 hr => ?_) (10 : Int).toNat 0 a (Int.le_refl _) (by decide) hr
    intro j hj0 hj8
    unfold giS
    split
    · show -1 ≤ ud a.1 f n j ∧ ud a.1 f n j < 10
      unfold ud
      split
      · omega
      · exact hr j hj0 hj8
    · exact hr j hj0 hj8
  exact hh j h0 h8
