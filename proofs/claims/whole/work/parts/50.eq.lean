/-! ===== the class's functions and the reference's are the same ===== -/
theorem sqn (a : Int) : 0 ≤ a * a := by
  rcases Int.le_total 0 a with h | h
  · exact Int.mul_nonneg h h
  · have h1 := Int.mul_nonneg (a := -a) (b := -a) (by omega) (by omega)
    rwa [Int.neg_mul_neg] at h1
theorem sc_1000 {x : Int} (h0 : -90 ≤ x) (h1 : x ≤ 90) : sn x * sn x + cs x * cs x ≤ 1000000 ∧ 0 ≤ cs x := by
  have : ∀ n : Nat, n < 181 → sn ((n : Int) - 90) * sn ((n : Int) - 90) + cs ((n : Int) - 90) * cs ((n : Int) - 90) ≤ 1000000 ∧ 0 ≤ cs ((n : Int) - 90) := by decide +kernel
  have h2 := this (x + 90).toNat (by omega)
  rw [Int.toNat_of_nonneg (by omega), show x + 90 - 90 = x by omega] at h2
  exact h2
theorem amgm (a b : Int) : 2 * (a * b) ≤ a * a + b * b := by
  have h := sqn (a - b)
  rw [Int.sub_mul, Int.mul_sub, Int.mul_sub, Int.mul_comm b a] at h
  omega
theorem hg_1000 {lat u : Int} (t : Int) (hl : -90 ≤ lat ∧ lat ≤ 90) (hu : -90 ≤ u ∧ u ≤ 90) : hg lat u t ≤ 1000 := by
  have a1 := sc_1000 hl.1 hl.2
  have a2 := sc_1000 hu.1 hu.2
  have h1 := amgm (sn lat) (sn u)
  have h2 := amgm (cs lat) (cs u)
  have h3 : cs lat * cs u * cs t ≤ cs lat * cs u * 1000 := Int.mul_le_mul_of_nonneg_left (cs_b t).2 (Int.mul_nonneg a1.2 a2.2)
  unfold hg
  omega
/-- the lowest height, from 1000 or from 2000 -/
theorem loF_le {h e o : Int → Int} : ∀ (k : Nat) (j a : Int), lpF (loQ h e o) k j a ≤ a
  | 0, _, a => Int.le_refl a
  | k + 1, j, a => by
    have := loF_le (h := h) (e := e) (o := o) k (j + 1) (loQ h e o j a)
    show lpF (loQ h e o) k (j + 1) (loQ h e o j a) ≤ a
    unfold loQ at this ⊢
    omega
theorem loF_12 {h e o : Int → Int} (k : Nat) (j : Int) : lpF (loQ h e o) k j 1000 = min 1000 (lpF (loQ h e o) k j 2000) := by
  refine lpF_rel (R := fun a b => a = min 1000 b) (lo := j) (hi := j + k) (fun i a b _ _ hab => ?_) k j 1000 2000 (Int.le_refl _) (Int.le_refl _) (by decide)
  show loQ h e o i a = min 1000 (loQ h e o i b)
  unfold loQ
  omega
theorem loF_eq {h e o : Int → Int} {k : Nat} {j : Int} (hk : 0 < k) (h1 : h (e j) ≤ 1000) : lpF (loQ h e o) k j 1000 = lpF (loQ h e o) k j 2000 := by
  rw [loF_12]
  obtain ⟨m, rfl⟩ : ∃ m, k = m + 1 := ⟨k - 1, by omega⟩
  have h2 := loF_le (h := h) (e := e) (o := o) m (j + 1) (loQ h e o j 2000)
  show min 1000 (lpF (loQ h e o) m (j + 1) (loQ h e o j 2000)) = lpF (loQ h e o) m (j + 1) (loQ h e o j 2000)
  have h3 : loQ h e o j 2000 ≤ 1000 := by unfold loQ; omega
  omega
theorem lw_eq {n e o a u : Int → Int} {f lat : Int} (t : Int) (hn : 0 < n f) (he : 0 ≤ e (10 * f) ∧ e (10 * f) < 24) (hC : okC a u) (hl : -90 ≤ lat ∧ lat ≤ 90) : lwI n e o a u f lat t = lwM n e o a u f lat t := by
  unfold lwI lwM
  rw [if_neg (by omega), if_neg (by omega)]
  exact loF_eq (by omega) (hg_1000 _ hl (hC _ he.1 he.2).2.2)
theorem lw_0 {n e o a u : Int → Int} {f lat t : Int} (hn : n f = 0) : lwI n e o a u f lat t = 0 ∧ lwM n e o a u f lat t = -2000 := by
  unfold lwI lwM
  rw [if_pos hn, if_pos hn, hn]
  exact ⟨rfl, rfl⟩
theorem e_0 {n e : Int → Int} {f : Int} (hE : okE n e) (hf : 0 ≤ f ∧ f < 8) (hn : 0 < n f) : 0 ≤ e (10 * f) ∧ e (10 * f) < 24 := by
  have := hE f 0 hf.1 hf.2 (Int.le_refl 0) hn
  rwa [Int.add_zero] at this
theorem up_eq {n e o a u : Int → Int} {f lat : Int} (t : Int) (hf : 0 ≤ f ∧ f < 8) (hN : okN n) (hE : okE n e) (hC : okC a u) (hl : -90 ≤ lat ∧ lat ≤ 90) : upB n e o a u f lat t = upM n e o a u f lat t := by
  unfold upB upM
  by_cases h : n f = 0
  · rw [(lw_0 h).1, (lw_0 h).2]; rfl
  · have h0 := (hN f hf.1 hf.2).1
    rw [lw_eq t (by omega) (e_0 hE hf (by omega)) hC hl]
theorem bh_c {w w' : Int → Int} {c c' : Int} (h0 : c ≤ 0) (h1 : c' ≤ 0) (h : ∀ i, w i = c) (h' : ∀ i, w' i = c') : bhI w = bhI w' := by
  have key : ∀ (v : Int → Int) (c : Int), c ≤ 0 → (∀ i, v i = c) → bhI v = -1 := fun v c hc hv => by
    have := lpF_inv (f := bhQ v) (P := fun q => q = (-1, 0)) (lo := 0) (hi := 24) (fun i q _ _ hq => by
      show bhQ v i q = (-1, 0)
      rw [hq]; unfold bhQ
      rw [if_neg (by rw [hv]; show ¬ (0 : Int) < c; omega)]) (24 : Int).toNat 0 (-1, 0) (by decide) (by decide) rfl
    unfold bhI
    rw [this]
  rw [key w c h0 h, key w' c' h1 h']
theorem bh_eq {n e o a u : Int → Int} {f lat d : Int} (hf : 0 ≤ f ∧ f < 8) (hN : okN n) (hE : okE n e) (hC : okC a u) (hl : -90 ≤ lat ∧ lat ≤ 90) : bhI (fun h => lwI n e o a u f lat (15 * h + d)) = bhI (fun h => lwM n e o a u f lat (15 * h + d)) := by
  by_cases h : n f = 0
  · exact bh_c (c := 0) (c' := -2000) (by decide) (by decide) (fun i => (lw_0 h).1) (fun i => (lw_0 h).2)
  · have h0 := (hN f hf.1 hf.2).1
    congr 1
    funext i
    exact lw_eq _ (by omega) (e_0 hE hf (by omega)) hC hl
/-- the hours of a day, by bits -/
theorem dyF_t (p : Int → Bool) (i : Nat) : ∀ (k : Nat) (j : Int) (a : Nat), 0 ≤ j → (lpF (dyQ p) k j a).testBit i = (a.testBit i || (decide (j ≤ (i : Int) ∧ (i : Int) < j + k) && p i))
  | 0, j, a, _ => by
    rw [decide_eq_false (by omega), Bool.false_and, Bool.or_false]; rfl
  | k + 1, j, a, hj => by
    show (lpF (dyQ p) k (j + 1) (dyQ p j a)).testBit i = _
    rw [dyF_t p i k (j + 1) _ (by omega)]
    unfold dyQ
    by_cases hi : (i : Int) = j
    · rw [decide_eq_false (by omega), decide_eq_true (by omega), ← hi]
      split
      · rename_i hp
        rw [hp, Nat.testBit_or, show ((i : Int)).toNat = i by omega, Nat.testBit_two_pow_self]; simp
      · rename_i hp
        have hp : p i = false := by simpa using hp
        rw [hp]; simp
    · have e1 : (if p j = true then a ||| 2 ^ j.toNat else a).testBit i = a.testBit i := by
        split
        · rw [Nat.testBit_or, Nat.testBit_two_pow_of_ne (by omega), Bool.or_false]
        · rfl
      rw [e1]
      by_cases h2 : j ≤ (i : Int) ∧ (i : Int) < j + (k + 1 : Nat)
      · rw [decide_eq_true h2, decide_eq_true (by omega)]
      · rw [decide_eq_false h2, decide_eq_false (by omega)]
theorem dyN_t (p : Int → Bool) (i : Nat) : (dyN p).testBit i = (decide (i < 24) && p i) := by
  unfold dyN
  rw [dyF_t p i _ 0 0 (by decide), Nat.zero_testBit, Bool.false_or]
  by_cases h : i < 24
  · rw [decide_eq_true h, decide_eq_true ⟨by omega, by show (i : Int) < 0 + 24; omega⟩]
  · rw [decide_eq_false h, decide_eq_false (fun q => h (by have := q.2; have : (i : Int) < 0 + 24 := this; omega))]
theorem dyN_e {p q : Int → Bool} (h : ∀ i : Int, 0 ≤ i → i < 24 → p i = q i) : dyN p = dyN q := by
  refine Nat.eq_of_testBit_eq (fun i => ?_)
  rw [dyN_t, dyN_t]
  by_cases hi : i < 24
  · rw [h i (by omega) (by omega)]
  · rw [decide_eq_false hi]; rfl
theorem hb_eq {n e o a u : Int → Int} {f lat d : Int} : hbN n e o a u f lat d = dyN (fun h => upM n e o a u f lat (15 * h + d)) := by
  refine Nat.eq_of_testBit_eq (fun i => ?_)
  rw [dyN_t]
  unfold hbN
  by_cases h : n f = 0
  · rw [if_pos h, h]
    show (0 : Nat).testBit i = _
    rw [Nat.zero_testBit]
    unfold upM
    rw [(lw_0 h).2]
    simp
  · rw [if_neg h]
    by_cases hi : i < 24
    · have R := lpF_rel (f := hbQ n e o a u lat d) (g := loQ (hgA a u lat (15 * i + d)) e o) (R := fun K b => K.testBit i = decide (0 < b)) (lo := 10 * f) (hi := 10 * f + (n f).toNat) (fun j K b _ _ hR => by
        show (hbQ n e o a u lat d j K).testBit i = decide (0 < loQ (hgA a u lat (15 * i + d)) e o j b)
        unfold hbQ loQ hsN
        rw [Nat.testBit_and, Nat.testBit_and, dyN_t, dyN_t, hR, decide_eq_true hi, Bool.true_and, Bool.true_and]
        rw [← Bool.decide_and, ← Bool.decide_and]
        exact decide_eq_decide.mpr (by omega)) (n f).toNat (10 * f) 16777215 2000 (Int.le_refl _) (Int.le_refl _) (by
          show (2 ^ 24 - 1).testBit i = _
          rw [Nat.testBit_two_pow_sub_one, decide_eq_true hi]; rfl)
      rw [R, decide_eq_true hi, Bool.true_and]
      unfold upM lwM
      rw [if_neg h]
    · rw [decide_eq_false hi, Bool.false_and]
      refine Nat.testBit_lt_two_pow (Nat.lt_of_lt_of_le (m := 2 ^ 24) ?_ (Nat.pow_le_pow_right (by decide) (by omega)))
      refine lpF_inv (P := fun K => K < 2 ^ 24) (lo := 10 * f) (hi := 10 * f + (n f).toNat) (fun j K _ _ hK => ?_) (n f).toNat (10 * f) 16777215 (Int.le_refl _) (Int.le_refl _) (by decide)
      exact Nat.and_lt_two_pow _ (dyN_b _)
/-! crossings -/
theorem sd_si (a u : Int → Int) (p q r : Int) : sdI a u p q r = siI a u p q r := by
  unfold sdI siI sgn3
  generalize (a q - a p) * (u r - u p) = X
  generalize (u q - u p) * (a r - a p) = Y
  rcases Int.lt_trichotomy X Y with h | h | h
  · rw [if_pos h, if_neg (by omega), if_pos h]
  · rw [if_neg (by omega), if_pos h, if_neg (by omega), if_neg (by omega)]
  · rw [if_neg (by omega), if_neg (by omega), if_pos h]
theorem lc_cr (a u e o : Int → Int) (i j : Int) : lcB a u e o i j = crM a u e o i j := by
  unfold lcB crM meB stB
  rw [sd_si, sd_si, sd_si, sd_si, Bool.and_assoc (spB _ _ _ _)]
theorem lpF_sh {α : Type} {f g : Int → α → α} {c : Int} (h : ∀ i a, f (i + c) a = g i a) : ∀ (k : Nat) (i : Int) (a : α), lpF f k (i + c) a = lpF g k i a
  | 0, _, _ => rfl
  | k + 1, i, a => by
    show lpF f k (i + c + 1) (f (i + c) a) = lpF g k (i + 1) (g i a)
    rw [h, show i + c + 1 = i + 1 + c by omega]
    exact lpF_sh h k (i + 1) _
theorem lpF_ap {α : Type} {f : Int → α → α} (k : Nat) : ∀ (m : Nat) (i : Int) (a : α), lpF f (m + k) i a = lpF f k (i + m) (lpF f m i a)
  | 0, i, a => by rw [Nat.zero_add, show i + ((0 : Nat) : Int) = i by omega]; rfl
  | m + 1, i, a => by
    rw [show m + 1 + k = (m + k) + 1 by omega]
    show lpF f (m + k) (i + 1) (f i a) = lpF f k (i + (m + 1 : Nat)) (lpF f m (i + 1) (f i a))
    rw [lpF_ap k m, show i + 1 + (m : Int) = i + (m + 1 : Nat) by omega]
theorem lpF_skip {α : Type} {f : Int → α → α} {m : Nat} {i : Int} {a : α} (h : ∀ j b, i ≤ j → j < i + m → f j b = b) : lpF f m i a = a :=
  lpF_inv (P := fun b => b = a) (lo := i) (hi := i + m) (fun j b h0 h1 hb => by show f j b = a; rw [h j b h0 h1, hb]) m i a (Int.le_refl _) (Int.le_refl _) rfl
theorem lpF_ext {α : Type} {f g : Int → α → α} {m : Nat} {i : Int} {a : α} (h : ∀ j b, i ≤ j → j < i + m → f j b = g j b) : lpF f m i a = lpF g m i a :=
  lpF_rel (R := fun x y => x = y) (lo := i) (hi := i + m) (fun j b b' h0 h1 hb => by show f j b = g j b'; rw [hb, h j b' h0 h1]) m i a a (Int.le_refl _) (Int.le_refl _) rfl
theorem cr_eq {n e o a u : Int → Int} {f q : Int} (hn : 0 ≤ n f) (hq : 0 ≤ n q) : crI n e o a u f q = cmI n e o a u f q := by
  unfold crI cmI
  rw [show (10 * f : Int) = 0 + 10 * f by omega, lpF_sh (g := fun i => cmF (n q) a u e o f q (i + 10 * f)) (fun i a => rfl)]
  refine lpF_ext (fun i b h0 h1 => ?_)
  show crF (n q) a u e o f q i b = cmF (n q) a u e o f q (i + 10 * f) b
  unfold crF cmF
  have hc : ∀ (s : Int) (j b : Int), (decide (f ≠ q) || decide (i + 10 * f < j + 10 * q)) = true → cmN a u e o f q (i + 10 * f) (j + 10 * q) b = crN a u e o (10 * f + i) (10 * q) j b := fun s j b h => by
    unfold cmN crN cnQ
    show (if ((decide (f ≠ q) || decide (i + 10 * f < j + 10 * q)) && crM a u e o (i + 10 * f) (j + 10 * q)) = true then b + 1 else b) = (if lcB a u e o (10 * f + i) (10 * q + j) = true then b + 1 else b)
    rw [h, Bool.true_and, lc_cr, Int.add_comm i, Int.add_comm j]
  by_cases hfq : f = q
  · rw [if_pos hfq]
    subst hfq
    have hnm : (n f).toNat = (i + 1).toNat + (n f - (i + 1)).toNat := by omega
    rw [hnm, lpF_ap, lpF_skip (m := (i + 1).toNat) (fun j b h2 h3 => ?_)]
    · rw [show 10 * f + ((i + 1).toNat : Int) = (i + 1) + 10 * f by omega, lpF_sh (g := fun j => cmN a u e o f f (i + 10 * f) (j + 10 * f)) (fun i a => rfl)]
      refine lpF_ext (fun j b h2 h3 => (hc 0 j b ?_).symm)
      rw [decide_eq_true (p := i + 10 * f < j + 10 * f) (by omega), Bool.or_true]
    · unfold cmN cnQ
      show (if ((decide (f ≠ f) || decide (i + 10 * f < j)) && crM a u e o (i + 10 * f) j) = true then b + 1 else b) = b
      rw [decide_eq_false (p := f ≠ f) (fun h => h rfl), decide_eq_false (p := i + 10 * f < j) (by omega)]; rfl
  · rw [if_neg hfq, show (10 * q : Int) = 0 + 10 * q by omega, lpF_sh (g := fun j => cmN a u e o f q (i + 10 * f) (j + 10 * q)) (fun i a => rfl), Int.sub_zero, show (0 + 10 * q : Int) = 10 * q by omega]
    refine lpF_ext (fun j b h2 h3 => (hc 0 j b ?_).symm)
    rw [decide_eq_true hfq]; rfl
/-! the star's figure: the first, the last -/
theorem ow_la {n e o : Int → Int} {z : Int} : ∀ (k : Nat) (i a : Int), 0 ≤ i → (∀ f q : Int, i ≤ f → f < i + k → i ≤ q → q < i + k → hsB n e o f z = true → hsB n e o q z = true → f = q) → lpF (laQ n e o z) k i a = if fdF (fun f => hsB n e o f z) k i = -1 then a else fdF (fun f => hsB n e o f z) k i
  | 0, _, _, _, _ => rfl
  | k + 1, i, a, hi, hU => by
    have ih := ow_la k (i + 1) (laQ n e o z i a) (by omega) (fun f q a1 a2 a3 a4 => hU f q (by omega) (by omega) (by omega) (by omega))
    show lpF (laQ n e o z) k (i + 1) (laQ n e o z i a) = _
    rw [ih]
    unfold laQ
    by_cases h : hsB n e o i z = true
    · have e1 : fdF (fun f => hsB n e o f z) (k + 1) i = i := if_pos h
      have e2 : fdF (fun f => hsB n e o f z) k (i + 1) = -1 := by
        have key : ∀ (k : Nat) (j : Int), (∀ q : Int, j ≤ q → q < j + k → hsB n e o q z = false) → fdF (fun f => hsB n e o f z) k j = -1 := by
          intro k
          induction k with
          | zero => intro j _; rfl
          | succ m ih2 =>
            intro j hj
            show (if hsB n e o j z = true then j else fdF (fun f => hsB n e o f z) m (j + 1)) = -1
            rw [if_neg (by rw [hj j (by omega) (by omega)]; decide)]
            exact ih2 (j + 1) (fun q h0 h1 => hj q (by omega) (by omega))
        refine key k (i + 1) (fun q h0 h1 => ?_)
        cases hq : hsB n e o q z with
        | false => rfl
        | true => have := hU i q (by omega) (by omega) (by omega) (by omega) h hq; omega
      rw [e1, e2, if_pos rfl, if_pos h, if_neg (by omega)]
    · have e1 : fdF (fun f => hsB n e o f z) (k + 1) i = fdF (fun f => hsB n e o f z) k (i + 1) := if_neg h
      rw [e1, if_neg h]
/-! the names -/
theorem gi_gn {T : Int → Int} {T' : Int → Int → Int} {v f : Int} (hT : ∀ n : Int, 0 ≤ n → n < 10 → T (f * 10 + n) = T' f n) : ∀ (k : Nat) (j : Int) (G : Int → Int) (m : Nat), 0 ≤ j → j + k ≤ 10 →
    lpF (giS T' v f) k j (G, m) = if G f = -1 then (if fdF (gnQ T m f v) k j = -1 then (G, m) else (ud G f (fdF (gnQ T m f v) k j), m ||| 2 ^ (fdF (gnQ T m f v) k j).toNat)) else (G, m)
  | 0, j, G, m, _, _ => by
    show (G, m) = _
    split
    · rfl
    · rfl
  | k + 1, j, G, m, hj, hk => by
    show lpF (giS T' v f) k (j + 1) (giS T' v f j (G, m)) = _
    by_cases hG : G f = -1
    · rw [if_pos hG]
      cases hq : gnQ T m f v j with
      | true =>
        have e1 : fdF (gnQ T m f v) (k + 1) j = j := if_pos hq
        rw [e1, if_neg (by omega)]
        unfold gnQ at hq
        simp only [Bool.and_eq_true, Bool.not_eq_true', decide_eq_true_eq] at hq
        have e2 : giS T' v f j (G, m) = (ud G f j, m ||| 2 ^ j.toNat) := if_pos ⟨hG, hq.1, by rw [← hT j hj (by omega)]; exact hq.2⟩
        rw [e2, gi_gn hT k (j + 1) _ _ (by omega) (by omega), if_neg (by rw [ud_s]; omega)]
      | false =>
        have e1 : fdF (gnQ T m f v) (k + 1) j = fdF (gnQ T m f v) k (j + 1) := if_neg (by rw [hq]; decide)
        have e2 : giS T' v f j (G, m) = (G, m) := if_neg (fun q => by
          unfold gnQ at hq
          rw [show m.testBit j.toNat = false from q.2.1, hT j hj (by omega), show T' f j = v from q.2.2] at hq
          simp at hq)
        rw [e1, e2, gi_gn hT k (j + 1) _ _ (by omega) (by omega), if_pos hG]
    · rw [if_neg hG]
      have e2 : giS T' v f j (G, m) = (G, m) := if_neg (fun q => hG q.1)
      rw [e2, gi_gn hT k (j + 1) _ _ (by omega) (by omega), if_neg hG]
theorem gn_gi {T : Int → Int} {T' : Int → Int → Int} {v f : Int} (hT : ∀ n : Int, 0 ≤ n → n < 10 → T (f * 10 + n) = T' f n) (q : gnT) : gnA T v f q = giA T' v f q := by
  obtain ⟨G, m⟩ := q
  unfold giA
  rw [gi_gn hT _ 0 G m (by decide) (by decide)]
  unfold gnA gnI
  by_cases hG : G f = -1
  · show (gnF G f (if G f = -1 then fdF (gnQ T m f v) (10 : Int).toNat 0 else -1), m ||| gnR (if G f = -1 then fdF (gnQ T m f v) (10 : Int).toNat 0 else -1)) = _
    rw [if_pos hG, if_pos hG]
    unfold gnF gnR
    split
    · rw [Nat.or_zero]
    · rfl
  · show (gnF G f (if G f = -1 then fdF (gnQ T m f v) (10 : Int).toNat 0 else -1), m ||| gnR (if G f = -1 then fdF (gnQ T m f v) (10 : Int).toNat 0 else -1)) = _
    rw [if_neg hG, if_neg hG]
    exact congrArg (Prod.mk G) (Nat.or_zero m)
theorem gn_0 {T : Int → Int} {v f : Int} (hv : 0 < v) (hT : ∀ n : Int, 0 ≤ n → n < 10 → T (f * 10 + n) = 0) (q : gnT) : gnA T v f q = q := by
  rw [gn_gi (T' := fun _ _ => 0) hT]
  unfold giA
  refine lpF_skip (fun j b _ _ => if_neg (fun h => ?_))
  have h3 : (0 : Int) = v := h.2.2
  omega
theorem nm_eq {T : Int → Int} {T' : Int → Int → Int} {nf : Int} (h0 : 0 ≤ nf) (h8 : nf ≤ 8) (hT : ∀ f n : Int, 0 ≤ f → f < 8 → 0 ≤ n → n < 10 → T (f * 10 + n) = T' f n) (hz : ∀ f n : Int, nf ≤ f → f < 8 → 0 ≤ n → n < 10 → T (f * 10 + n) = 0) (G G' : Int → Int) {j : Int} (j0 : 0 ≤ j) (j8 : j < 8) : nmI T G j = nmM T' nf G' j := by
  rw [nmM_in h8 G' G j0 j8]
  unfold nmI nmM
  have : lpF (gnB T 8) (6 : Int).toNat 0 (fillA 8 (-1) G, 0) = lpF (giB T' nf) (6 : Int).toNat 0 (fillA 8 (-1) G, 0) := by
    refine lpF_ext (fun i q hi0 hi1 => ?_)
    have hi1 : i < 0 + 6 := hi1
    show lpF (gnA T (6 - i)) (8 : Int).toNat 0 q = lpF (giA T' (6 - i)) nf.toNat 0 q
    rw [show (8 : Int).toNat = nf.toNat + (8 - nf).toNat by omega, lpF_ap, lpF_skip (m := (8 - nf).toNat) (fun f b h1 h2 => gn_0 (by omega) (hz f · (by omega) (by omega)) b)]
    exact lpF_ext (fun f b h1 h2 => gn_gi (hT f · (by omega) (by omega)) b)
  rw [this]
/-! the votes -/
def bc (p : Prop) [Decidable p] : Int := if p then 1 else 0
theorem cnQ_c (p : Int → Bool) (i a : Int) : cnQ p i a = a + bc (p i = true) := by
  unfold cnQ bc; split <;> omega
theorem vt6 (V : Int → Int) (f n : Int) : vtI V f n = bc (V (6 * f) = n + 1) + bc (V (6 * f + 1) = n + 1) + bc (V (6 * f + 2) = n + 1) + bc (V (6 * f + 3) = n + 1) + bc (V (6 * f + 4) = n + 1) + bc (V (6 * f + 5) = n + 1) := by
  have e : ∀ x : Int, bc (decide (x = n + 1) = true) = bc (x = n + 1) := fun x => by unfold bc; simp
  have e2 : ∀ p : Int → Bool, lpF (cnQ p) (6 : Int).toNat 0 0 = cnQ p 5 (cnQ p 4 (cnQ p 3 (cnQ p 2 (cnQ p 1 (cnQ p 0 0))))) := fun p => rfl
  unfold vtI
  rw [e2]
  simp only [cnQ_c, e]
  rw [show 6 * f + 0 = 6 * f by omega]
  omega
theorem vt_ud {V : Int → Int} {f v x g n : Int} (hv : 0 ≤ v ∧ v < 6) : vtI (ud V (6 * f + v) x) g n = vtI V g n + (if g = f then bc (x = n + 1) - bc (V (6 * f + v) = n + 1) else 0) := by
  rw [vt6, vt6]
  by_cases h : g = f
  · subst h
    rw [if_pos rfl]
    have hc : v = 0 ∨ v = 1 ∨ v = 2 ∨ v = 3 ∨ v = 4 ∨ v = 5 := by omega
    rcases hc with rfl | rfl | rfl | rfl | rfl | rfl
    · rw [show 6 * g + 0 = 6 * g by omega, ud_s, ud_n (by omega), ud_n (by omega), ud_n (by omega), ud_n (by omega), ud_n (by omega)]; omega
    · rw [ud_s, ud_n (by omega), ud_n (by omega), ud_n (by omega), ud_n (by omega), ud_n (by omega)]; omega
    · rw [ud_s, ud_n (by omega), ud_n (by omega), ud_n (by omega), ud_n (by omega), ud_n (by omega)]; omega
    · rw [ud_s, ud_n (by omega), ud_n (by omega), ud_n (by omega), ud_n (by omega), ud_n (by omega)]; omega
    · rw [ud_s, ud_n (by omega), ud_n (by omega), ud_n (by omega), ud_n (by omega), ud_n (by omega)]; omega
    · rw [ud_s, ud_n (by omega), ud_n (by omega), ud_n (by omega), ud_n (by omega), ud_n (by omega)]; omega
  · rw [if_neg h, ud_n (by omega), ud_n (by omega), ud_n (by omega), ud_n (by omega), ud_n (by omega), ud_n (by omega)]; omega
