/-! ===== loops as functions ===== -/
def lpF {α : Type} (f : Int → α → α) : Nat → Int → α → α
  | 0, _, a => a
  | k + 1, i, a => lpF f k (i + 1) (f i a)
theorem lpF_e {α : Type} {f : Int → α → α} {n i : Int} {a : α} (h : n ≤ i) : lpF f (n - i).toNat i a = a := by
  rw [show (n - i).toNat = 0 by omega]; rfl
theorem lpF_s {α : Type} {f : Int → α → α} {n i : Int} {a : α} (h : i < n) : lpF f (n - i).toNat i a = lpF f (n - (i + 1)).toNat (i + 1) (f i a) := by
  rw [show (n - i).toNat = (n - (i + 1)).toNat + 1 by omega]; rfl
def exF (p : Int → Bool) : Nat → Int → Bool
  | 0, _ => false
  | k + 1, i => p i || exF p k (i + 1)
theorem exF_e {p : Int → Bool} {n i : Int} (h : n ≤ i) : exF p (n - i).toNat i = false := by
  rw [show (n - i).toNat = 0 by omega]; rfl
theorem exF_s {p : Int → Bool} {n i : Int} (h : i < n) : exF p (n - i).toNat i = (p i || exF p (n - (i + 1)).toNat (i + 1)) := by
  rw [show (n - i).toNat = (n - (i + 1)).toNat + 1 by omega]; rfl
def fdF (p : Int → Bool) : Nat → Int → Int
  | 0, _ => -1
  | k + 1, i => if p i = true then i else fdF p k (i + 1)
theorem fdF_e {p : Int → Bool} {n i : Int} (h : n ≤ i) : fdF p (n - i).toNat i = -1 := by
  rw [show (n - i).toNat = 0 by omega]; rfl
theorem fdF_s {p : Int → Bool} {n i : Int} (h : i < n) : fdF p (n - i).toNat i = if p i = true then i else fdF p (n - (i + 1)).toNat (i + 1) := by
  rw [show (n - i).toNat = (n - (i + 1)).toNat + 1 by omega]; rfl
/-- places in range; lines in range -/
def okC (a u : Int → Int) : Prop := ∀ i : Int, 0 ≤ i → i < 24 → 0 ≤ a i ∧ a i < 360 ∧ -90 ≤ u i ∧ u i ≤ 90
def okN (n : Int → Int) : Prop := ∀ f : Int, 0 ≤ f → f < 8 → 0 ≤ n f ∧ n f ≤ 10
def okE (n e : Int → Int) : Prop := ∀ f k : Int, 0 ≤ f → f < 8 → 0 ≤ k → k < n f → 0 ≤ e (10 * f + k) ∧ e (10 * f + k) < 24
