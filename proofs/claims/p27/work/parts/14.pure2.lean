theorem exF_e2 {p : Int → Bool} {n i j : Int} (h : n ≤ i) : exF p (n - i).toNat j = false := by
  rw [show (n - i).toNat = 0 by omega]; rfl
theorem exF_t {p : Int → Bool} {n i j : Int} (h : i < n) (hp : p j = false) : exF p (n - i).toNat j = exF p (n - (i + 1)).toNat (j + 1) := by
  rw [show (n - i).toNat = (n - (i + 1)).toNat + 1 by omega]
  show (p j || _) = _
  rw [hp]; rfl
theorem exF_f {p : Int → Bool} {n i j : Int} (h : i < n) (hp : p j = true) : exF p (n - i).toNat j = true := by
  rw [show (n - i).toNat = (n - (i + 1)).toNat + 1 by omega]
  show (p j || _) = _
  rw [hp]; rfl
theorem fdF_t {p : Int → Bool} {n i : Int} (h : i < n) (hp : p i = false) : fdF p (n - i).toNat i = fdF p (n - (i + 1)).toNat (i + 1) := by
  rw [fdF_s h, hp]; rfl
theorem fdF_f {p : Int → Bool} {n i : Int} (h : i < n) (hp : p i = true) : fdF p (n - i).toNat i = i := by
  rw [fdF_s h, hp]; rfl
theorem fdF_b {p : Int → Bool} : ∀ (k : Nat) (i : Int), 0 ≤ i → (fdF p k i = -1 ∨ (i ≤ fdF p k i ∧ fdF p k i < i + k))
  | 0, _, _ => Or.inl rfl
  | k + 1, i, h => by
    show (if p i = true then i else fdF p k (i + 1)) = -1 ∨ (i ≤ (if p i = true then i else fdF p k (i + 1)) ∧ (if p i = true then i else fdF p k (i + 1)) < i + ((k + 1 : Nat) : Int))
    split
    · omega
    · rcases fdF_b k (i + 1) (by omega) with h1 | h1
      · exact Or.inl h1
      · omega
theorem lpF_e2 {α : Type} {f : Int → α → α} {n i j : Int} {a : α} (h : n ≤ i) : lpF f (n - i).toNat j a = a := by
  rw [show (n - i).toNat = 0 by omega]; rfl
theorem lpF_s2 {α : Type} {f : Int → α → α} {n i j : Int} {a : α} (h : i < n) : lpF f (n - i).toNat j a = lpF f (n - (i + 1)).toNat (j + 1) (f j a) := by
  rw [show (n - i).toNat = (n - (i + 1)).toNat + 1 by omega]; rfl
theorem b0 {b : Bool} (h : (if b = true then (1 : Int) else 0) = 0) : b = false := by cases b <;> simp at h ⊢
theorem b1 {b : Bool} (h : (if b = true then (1 : Int) else 0) ≠ 0) : b = true := by cases b <;> simp at h ⊢
theorem brg (b : Bool) : 0 ≤ (if b = true then (1 : Int) else 0) ∧ (if b = true then (1 : Int) else 0) ≤ 1 := by cases b <;> simp
theorem prg (p : Prop) [Decidable p] : 0 ≤ (if p then (1 : Int) else 0) ∧ (if p then (1 : Int) else 0) ≤ 1 := by split <;> simp
/-! ===== a whole array of the store ===== -/
def sA (S : gSt) (k : Nat) (F : Int → Int) : gSt := fun a => if a = k then F else S a
theorem sA_s (S : gSt) (k : Nat) (F : Int → Int) : sA S k F k = F := if_pos rfl
theorem sA_n {S : gSt} {k a : Nat} {F : Int → Int} (h : a ≠ k) : sA S k F a = S a := if_neg h
theorem sA_id (S : gSt) (k : Nat) : sA S k (S k) = S := by
  funext a; unfold sA; split
  · next h => rw [h]
  · rfl
theorem st_sA (S : gSt) (k : Nat) (j v : Int) : st S k j v = sA S k (ud (S k) j v) := by
  funext a; unfold st sA; split
  · next h => rw [h]
  · rfl
theorem sA_sA (S : gSt) (k : Nat) (F G : Int → Int) : sA (sA S k F) k G = sA S k G := by
  funext a; unfold sA; split <;> rfl
theorem sA_c {S : gSt} {k m : Nat} {F G : Int → Int} (h : k ≠ m) : sA (sA S k F) m G = sA (sA S m G) k F := by
  funext a; unfold sA
  by_cases h1 : a = k
  · subst h1; rw [if_neg h, if_pos rfl, if_pos rfl]
  · by_cases h2 : a = m
    · subst h2; rw [if_pos rfl, if_neg h1, if_pos rfl]
    · rw [if_neg h2, if_neg h1, if_neg h1, if_neg h2]
theorem hp_eq {g : gT} {S S' : gSt} {s : State} {H : Heap} {locs : List Loc} (h : S = S') (hH : Hp g S s H locs) : Hp g S' s H locs := h ▸ hH
/-! ===== lines: who has a star, which joins, the shifts ===== -/
def hsQ (e o : Int → Int) (z : Int) : Int → Bool := fun j => decide (e j = z) || decide (o j = z)
def hsB (n e o : Int → Int) (f z : Int) : Bool := exF (hsQ e o z) (n f).toNat (10 * f)
def jnQ (e o : Int → Int) (a b : Int) : Int → Bool := fun j => (decide (e j = a) && decide (o j = b)) || (decide (e j = b) && decide (o j = a))
def jnB (n e o : Int → Int) (f a b : Int) : Bool := exF (jnQ e o a b) (n f).toNat (10 * f)
def owI (nf : Int) (n e o : Int → Int) (z : Int) : Int := fdF (fun f => hsB n e o f z) nf.toNat 0
theorem owI_b {nf : Int} {n e o : Int → Int} {z : Int} (h : 0 ≤ nf) : owI nf n e o z = -1 ∨ (0 ≤ owI nf n e o z ∧ owI nf n e o z < nf) := by
  have := fdF_b (p := fun f => hsB n e o f z) nf.toNat 0 (by omega)
  unfold owI
  omega
def shA (E : Int → Int) (j q : Int) : Int → Int := fun b => if j < b ∧ b ≤ q then E (b - 1) else E b
def insA (E : Int → Int) (p q v : Int) : Int → Int := ud (shA E p q) p v
def delA (E : Int → Int) (p q : Int) : Int → Int := fun b => if p ≤ b ∧ b < q then E (b + 1) else E b
theorem shA_0 (E : Int → Int) (q : Int) : shA E q q = E := by
  funext b; unfold shA; rw [if_neg (by omega)]
theorem shA_s (E : Int → Int) {j q : Int} (h : j ≤ q) : ud (shA E j q) j (shA E j q (j - 1)) = shA E (j - 1) q := by
  funext b
  unfold ud shA
  by_cases h1 : b = j
  · subst h1
    rw [if_pos rfl, if_neg (by omega), if_pos (by omega)]
  · rw [if_neg h1]
    by_cases h2 : j < b ∧ b ≤ q
    · rw [if_pos h2, if_pos (by omega)]
    · rw [if_neg h2, if_neg (by omega)]
theorem delA_0 (E : Int → Int) (p : Int) : delA E p p = E := by
  funext b; unfold delA; rw [if_neg (by omega)]
theorem delA_s (E : Int → Int) {p j : Int} (h : p ≤ j) : ud (delA E p j) j (delA E p j (j + 1)) = delA E p (j + 1) := by
  funext b
  unfold ud delA
  by_cases h1 : b = j
  · subst h1
    rw [if_pos rfl, if_neg (by omega), if_pos (by omega)]
  · rw [if_neg h1]
    by_cases h2 : p ≤ b ∧ b < j
    · rw [if_pos h2, if_pos (by omega)]
    · rw [if_neg h2, if_neg (by omega)]
/-- two arrays at once -/
def s2 (S : gSt) (c1 c2 : Nat) (F G : Int → Int) : gSt := sA (sA S c1 F) c2 G
theorem s2_1 {S : gSt} {c1 c2 : Nat} {F G : Int → Int} (h : c1 ≠ c2) : s2 S c1 c2 F G c1 = F := by unfold s2; rw [sA_n h, sA_s]
theorem s2_2 {S : gSt} {c1 c2 : Nat} {F G : Int → Int} : s2 S c1 c2 F G c2 = G := sA_s _ _ _
theorem s2_id (S : gSt) (c1 c2 : Nat) (h : c1 ≠ c2) : s2 S c1 c2 (S c1) (S c2) = S := by unfold s2; rw [sA_id, sA_id]
theorem s2_st1 {S : gSt} {c1 c2 : Nat} {F G : Int → Int} (h : c1 ≠ c2) (j v : Int) : st (s2 S c1 c2 F G) c1 j v = s2 S c1 c2 (ud F j v) G := by
  rw [st_sA, s2_1 h]; unfold s2; rw [sA_c (Ne.symm h), sA_sA]
theorem s2_st2 {S : gSt} {c1 c2 : Nat} {F G : Int → Int} (j v : Int) : st (s2 S c1 c2 F G) c2 j v = s2 S c1 c2 F (ud G j v) := by
  rw [st_sA, s2_2]; unfold s2; rw [sA_sA]
theorem sh_step {S : gSt} {c1 c2 : Nat} (h : c1 ≠ c2) (E O : Int → Int) {j q : Int} (hj : j ≤ q) :
    st (st (s2 S c1 c2 (shA E j q) (shA O j q)) c1 j (s2 S c1 c2 (shA E j q) (shA O j q) c1 (j - 1))) c2 j (st (s2 S c1 c2 (shA E j q) (shA O j q)) c1 j (s2 S c1 c2 (shA E j q) (shA O j q) c1 (j - 1)) c2 (j - 1)) = s2 S c1 c2 (shA E (j - 1) q) (shA O (j - 1) q) := by
  rw [s2_1 h, s2_st1 h, shA_s E hj, s2_2, s2_st2, shA_s O hj]
theorem del_step {S : gSt} {c1 c2 : Nat} (h : c1 ≠ c2) (E O : Int → Int) {p j : Int} (hj : p ≤ j) :
    st (st (s2 S c1 c2 (delA E p j) (delA O p j)) c1 j (s2 S c1 c2 (delA E p j) (delA O p j) c1 (j + 1))) c2 j (st (s2 S c1 c2 (delA E p j) (delA O p j)) c1 j (s2 S c1 c2 (delA E p j) (delA O p j) c1 (j + 1)) c2 (j + 1)) = s2 S c1 c2 (delA E p (j + 1)) (delA O p (j + 1)) := by
  rw [s2_1 h, s2_st1 h, delA_s E hj, s2_2, s2_st2, delA_s O hj]
/-- a line put in; a line taken out -/
def lnIn (S : gSt) (cn c1 c2 : Nat) (f k a b : Int) : gSt := st (s2 S c1 c2 (insA (S c1) (10 * f + k) (10 * f + S cn f) a) (insA (S c2) (10 * f + k) (10 * f + S cn f) b)) cn f (S cn f + 1)
def lnOut (S : gSt) (cn c1 c2 : Nat) (f k : Int) : gSt := st (s2 S c1 c2 (delA (S c1) (10 * f + k) (10 * f + S cn f - 1)) (delA (S c2) (10 * f + k) (10 * f + S cn f - 1))) cn f (S cn f - 1)
/-! ===== crossing ===== -/
def sgn3 (x y : Int) : Int := if x < y then -1 else if x = y then 0 else 1
def sdI (a u : Int → Int) (p q r : Int) : Int := sgn3 ((a q - a p) * (u r - u p)) ((u q - u p) * (a r - a p))
def spB (a b c d : Int) : Bool := decide (min c d ≤ max a b) && decide (min a b ≤ max c d)
def stB (a u : Int → Int) (p q r t : Int) : Bool := decide (sdI a u p q r * sdI a u p q t ≤ 0)
def meB (a u : Int → Int) (p q r t : Int) : Bool := spB (a p) (a q) (a r) (a t) && (spB (u p) (u q) (u r) (u t) && (stB a u p q r t && stB a u r t p q))
theorem sgn3_b (x y : Int) : -1 ≤ sgn3 x y ∧ sgn3 x y ≤ 1 := by unfold sgn3; split <;> (try split) <;> omega
theorem sdI_b (a u : Int → Int) (p q r : Int) : -1 ≤ sdI a u p q r ∧ sdI a u p q r ≤ 1 := sgn3_b _ _
/-! ===== what the small writers do to the store ===== -/
def mvS (S : gSt) (z a u : Int) : gSt := st (st S 2 z a) 3 z u
def adS (S : gSt) (a u : Int) : gSt := st (mvS S (S 1 0) a u) 1 0 (S 1 0 + 1)
def kpS (S : gSt) (a b v u w : Int) : gSt := st (st (st (st (st (st (st S 18 (S 17 0) a) 19 (S 17 0) b) 20 (S 17 0) v) 21 (S 17 0) u) 22 (S 17 0) w) 17 0 ((S 17 0 + 1) % 30)) 17 1 (min (S 17 1 + 1) 30)
def sbS (S : gSt) : gSt := st (st S 17 0 ((S 17 0 + 29) % 30)) 17 1 (S 17 1 - 1)
def apS (S : gSt) (a b v u : Int) : gSt := st (st (st (st (st S 13 (S 12 0) a) 14 (S 12 0) b) 15 (S 12 0) v) 16 (S 12 0) u) 12 0 (S 12 0 + 1)
/-! ===== heights of figures, shows ===== -/
theorem hg_b (lat u t : Int) : -3000 ≤ hg lat u t ∧ hg lat u t ≤ 3000 := by
  have b1 := mul_b (sn_b lat) (sn_b u) (by decide) (by decide)
  have b2 := mul_b (cs_b lat) (cs_b u) (by decide) (by decide)
  have b3 := mul_b b2 (cs_b t) (by decide) (by decide)
  unfold hg
  omega
def hgA (a u : Int → Int) (lat t : Int) : Int → Int := fun z => hg lat (u z) (t - a z)
def loQ (h e o : Int → Int) : Int → Int → Int := fun j a => min (min a (h (e j))) (h (o j))
def lwI (n e o a u : Int → Int) (f lat t : Int) : Int := lpF (loQ (hgA a u lat t) e o) (n f).toNat (10 * f) (if n f = 0 then 0 else 1000)
theorem loF_b {h e o : Int → Int} (hh : ∀ z, -3000 ≤ h z ∧ h z ≤ 3000) : ∀ (k : Nat) (j a : Int), -3000 ≤ a ∧ a ≤ 3000 → -3000 ≤ lpF (loQ h e o) k j a ∧ lpF (loQ h e o) k j a ≤ 3000
  | 0, _, _, ha => ha
  | k + 1, j, a, ha => loF_b hh k (j + 1) _ (by
      have h1 := hh (e j)
      have h2 := hh (o j)
      show -3000 ≤ min (min a (h (e j))) (h (o j)) ∧ min (min a (h (e j))) (h (o j)) ≤ 3000
      omega)
theorem lwI_b (n e o a u : Int → Int) (f lat t : Int) : -3000 ≤ lwI n e o a u f lat t ∧ lwI n e o a u f lat t ≤ 3000 := by
  unfold lwI
  refine loF_b (fun z => hg_b _ _ _) _ _ _ ?_
  split <;> omega
def upB (n e o a u : Int → Int) (f lat t : Int) : Bool := decide (0 < lwI n e o a u f lat t)
/-- the hours of a day, as a set, in which p holds -/
def dyQ (p : Int → Bool) : Int → Nat → Nat := fun h k => if p h = true then k ||| 2 ^ h.toNat else k
def dyN (p : Int → Bool) : Nat := lpF (dyQ p) (24 : Int).toNat 0 0
theorem dyF_b (p : Int → Bool) : ∀ (k : Nat) (i : Int) (a : Nat), 0 ≤ i → i + k ≤ 24 → a < 2 ^ 24 → lpF (dyQ p) k i a < 2 ^ 24
  | 0, _, _, _, _, ha => ha
  | k + 1, i, a, h0, h1, ha => dyF_b p k (i + 1) _ (by omega) (by omega) (by
      unfold dyQ
      split
      · exact Nat.or_lt_two_pow ha (Nat.pow_lt_pow_right (by decide) (by omega))
      · exact ha)
theorem dyN_b (p : Int → Bool) : dyN p < 2 ^ 24 := dyF_b p _ _ _ (by omega) (by decide) (by decide)
def hsN (a u : Int → Int) (z lat d : Int) : Nat := dyN (fun h => decide (0 < hgA a u lat (15 * h + d) z))
def swB (S : gSt) (i : Int) : Bool := !(decide (S 11 (S 13 i) = S 14 i) && upB (S 5) (S 6) (S 7) (S 2) (S 3) (S 13 i) (S 15 i) (S 16 i))
def cnQ (p : Int → Bool) : Int → Int → Int := fun i a => if p i = true then a + 1 else a
def wrI (S : gSt) : Int := lpF (cnQ (swB S)) (S 12 0).toNat 0 0
def okG (G : Int → Int) : Prop := ∀ j : Int, 0 ≤ j → j < 8 → -1 ≤ G j ∧ G j < 10
def okP (fi na la tu : Int → Int) : Prop := ∀ i : Int, 0 ≤ i → i < 12 → (0 ≤ fi i ∧ fi i < 8) ∧ (-1 ≤ na i ∧ na i < 10) ∧ (-90 ≤ la i ∧ la i ≤ 90) ∧ (0 ≤ tu i ∧ tu i ≤ 1000)
/-- two lines cross -/
def lcB (a u e o : Int → Int) (i j : Int) : Bool := !(decide (e i = e j) || (decide (e i = o j) || (decide (o i = e j) || decide (o i = o j)))) && meB a u (e i) (o i) (e j) (o j)
