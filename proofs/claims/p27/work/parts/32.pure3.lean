/-! ===== pairs that cross, sets of hours, the best hour, seasons ===== -/
def crN (a u e o : Int → Int) (p q : Int) : Int → Int → Int := cnQ (fun j => lcB a u e o p (q + j))
def crF (nq : Int) (a u e o : Int → Int) (f q : Int) : Int → Int → Int := fun i b => lpF (crN a u e o (10 * f + i) (10 * q)) (nq - (if f = q then i + 1 else 0)).toNat (if f = q then i + 1 else 0) b
def crI (n e o a u : Int → Int) (f q : Int) : Int := lpF (crF (n q) a u e o f q) (n f).toNat 0 0
def hbQ (n e o a u : Int → Int) (lat d : Int) : Int → Nat → Nat := fun j k => (k &&& hsN a u (e j) lat d) &&& hsN a u (o j) lat d
def hbN (n e o a u : Int → Int) (f lat d : Int) : Nat := lpF (hbQ n e o a u lat d) (n f).toNat (10 * f) (if n f = 0 then 0 else 16777215)
def bhQ (w : Int → Int) : Int → Int × Int → Int × Int := fun h q => if q.2 < w h then (h, w h) else q
def bhI (w : Int → Int) : Int := (lpF (bhQ w) (24 : Int).toNat 0 (-1, 0)).1
def seI (p : Int → Bool) : Int := lpF (cnQ p) (365 : Int).toNat 0 0
theorem cnQ_0 {p : Int → Bool} {i a : Int} (h : p i = false) : cnQ p i a = a := by unfold cnQ; rw [h]; rfl
theorem cnQ_1 {p : Int → Bool} {i a : Int} (h : p i = true) : cnQ p i a = a + 1 := by unfold cnQ; rw [h]; rfl
theorem dyQ_0 {p : Int → Bool} {i : Int} {a : Nat} (h : p i = false) : dyQ p i a = a := by unfold dyQ; rw [h]; rfl
theorem dyQ_1 {p : Int → Bool} {i : Int} {a : Nat} (h : p i = true) : dyQ p i a = a ||| 2 ^ i.toNat := by unfold dyQ; rw [h]; rfl
theorem okC_mv {a u : Int → Int} {z x y : Int} (h : okC a u) (hx : 0 ≤ x ∧ x < 360) (hy : -90 ≤ y ∧ y ≤ 90) : okC (ud a z x) (ud u z y) := by
  intro i h0 h1
  have := h i h0 h1
  unfold ud
  split <;> omega
theorem p0 {p : Prop} [Decidable p] (h : (if p then (1 : Int) else 0) = 0) : ¬ p := by
  intro hp
  rw [if_pos hp] at h
  exact absurd h (by decide)
